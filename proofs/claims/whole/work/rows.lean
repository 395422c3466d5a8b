section
-- ===== PART A: goes FIRST, ahead of the names: the tables' words, and 'selects' of the private methods out of them =====
/-- a private method of a class that the tables say can be made, by its rows of tables_1 -/
def lw_okq (q : MethodName × Nat) : Prop := (q.1.cls ≠ "java/lang/invoke/MethodHandle" ∧ q.1.cls ≠ "java/lang/invoke/VarHandle") ∧ Cond.instantiable q.1.cls q.2 ∈ tables_1 ∧ Cond.privateMethod q.1 ∈ tables_1 ∧ Cond.instanceMethod q.1 ∈ tables_1
theorem lw_p0 : lw_okq (⟨"PalletStack", "lineOf", "(I)LPalletStack$Line;"⟩, 14) := ⟨⟨by decide +kernel, by decide +kernel⟩, List.mem_of_getElem? (i := 15) (by decide +kernel), List.mem_of_getElem? (i := 154) (by decide +kernel), List.mem_of_getElem? (i := 155) (by decide +kernel)⟩
theorem lw_p1 : lw_okq (⟨"PalletStack", "nextLine", "()LPalletStack$Line;"⟩, 14) := ⟨⟨by decide +kernel, by decide +kernel⟩, List.mem_of_getElem? (i := 15) (by decide +kernel), List.mem_of_getElem? (i := 161) (by decide +kernel), List.mem_of_getElem? (i := 162) (by decide +kernel)⟩
theorem lw_p2 : lw_okq (⟨"PalletStack", "putAtBest", "(LPalletStack$Kind;)Z"⟩, 14) := ⟨⟨by decide +kernel, by decide +kernel⟩, List.mem_of_getElem? (i := 15) (by decide +kernel), List.mem_of_getElem? (i := 169) (by decide +kernel), List.mem_of_getElem? (i := 170) (by decide +kernel)⟩
theorem lw_p3 : lw_okq (⟨"PalletStack", "bestPlace", "(LPalletStack$Kind;)I"⟩, 14) := ⟨⟨by decide +kernel, by decide +kernel⟩, List.mem_of_getElem? (i := 15) (by decide +kernel), List.mem_of_getElem? (i := 173) (by decide +kernel), List.mem_of_getElem? (i := 174) (by decide +kernel)⟩
theorem lw_p4 : lw_okq (⟨"PalletStack", "letDown", "(LPalletStack$Kind;IIZ)V"⟩, 14) := ⟨⟨by decide +kernel, by decide +kernel⟩, List.mem_of_getElem? (i := 15) (by decide +kernel), List.mem_of_getElem? (i := 189) (by decide +kernel), List.mem_of_getElem? (i := 190) (by decide +kernel)⟩
theorem lw_p5 : lw_okq (⟨"PalletStack", "topOf", "(II)I"⟩, 14) := ⟨⟨by decide +kernel, by decide +kernel⟩, List.mem_of_getElem? (i := 15) (by decide +kernel), List.mem_of_getElem? (i := 197) (by decide +kernel), List.mem_of_getElem? (i := 198) (by decide +kernel)⟩
theorem lw_p6 : lw_okq (⟨"PalletStack", "brokenRule", "(LPalletStack$Kind;)I"⟩, 14) := ⟨⟨by decide +kernel, by decide +kernel⟩, List.mem_of_getElem? (i := 15) (by decide +kernel), List.mem_of_getElem? (i := 201) (by decide +kernel), List.mem_of_getElem? (i := 202) (by decide +kernel)⟩
theorem lw_p7 : lw_okq (⟨"PalletStack", "hasGroundAtCorners", "()Z"⟩, 14) := ⟨⟨by decide +kernel, by decide +kernel⟩, List.mem_of_getElem? (i := 15) (by decide +kernel), List.mem_of_getElem? (i := 209) (by decide +kernel), List.mem_of_getElem? (i := 210) (by decide +kernel)⟩
theorem lw_p8 : lw_okq (⟨"PalletStack", "isGround", "(II)Z"⟩, 14) := ⟨⟨by decide +kernel, by decide +kernel⟩, List.mem_of_getElem? (i := 15) (by decide +kernel), List.mem_of_getElem? (i := 213) (by decide +kernel), List.mem_of_getElem? (i := 214) (by decide +kernel)⟩
theorem lw_p9 : lw_okq (⟨"PalletStack", "findSupports", "()V"⟩, 14) := ⟨⟨by decide +kernel, by decide +kernel⟩, List.mem_of_getElem? (i := 15) (by decide +kernel), List.mem_of_getElem? (i := 217) (by decide +kernel), List.mem_of_getElem? (i := 218) (by decide +kernel)⟩
theorem lw_p10 : lw_okq (⟨"PalletStack", "itemOf", "(I)LPalletStack$Item;"⟩, 14) := ⟨⟨by decide +kernel, by decide +kernel⟩, List.mem_of_getElem? (i := 15) (by decide +kernel), List.mem_of_getElem? (i := 221) (by decide +kernel), List.mem_of_getElem? (i := 222) (by decide +kernel)⟩
theorem lw_p11 : lw_okq (⟨"PalletStack", "isTooMuchLoad", "()Z"⟩, 14) := ⟨⟨by decide +kernel, by decide +kernel⟩, List.mem_of_getElem? (i := 15) (by decide +kernel), List.mem_of_getElem? (i := 239) (by decide +kernel), List.mem_of_getElem? (i := 240) (by decide +kernel)⟩
theorem lw_p12 : lw_okq (⟨"PalletStack", "forgetNextLoads", "()V"⟩, 14) := ⟨⟨by decide +kernel, by decide +kernel⟩, List.mem_of_getElem? (i := 15) (by decide +kernel), List.mem_of_getElem? (i := 243) (by decide +kernel), List.mem_of_getElem? (i := 244) (by decide +kernel)⟩
theorem lw_p13 : lw_okq (⟨"PalletStack", "putTrial", "()V"⟩, 14) := ⟨⟨by decide +kernel, by decide +kernel⟩, List.mem_of_getElem? (i := 15) (by decide +kernel), List.mem_of_getElem? (i := 251) (by decide +kernel), List.mem_of_getElem? (i := 252) (by decide +kernel)⟩
theorem lw_p14 : lw_okq (⟨"PalletStack", "layTop", "(LPalletStack$Item;)V"⟩, 14) := ⟨⟨by decide +kernel, by decide +kernel⟩, List.mem_of_getElem? (i := 15) (by decide +kernel), List.mem_of_getElem? (i := 255) (by decide +kernel), List.mem_of_getElem? (i := 256) (by decide +kernel)⟩
theorem lw_p15 : lw_okq (⟨"PalletStack", "settleLoads", "()V"⟩, 14) := ⟨⟨by decide +kernel, by decide +kernel⟩, List.mem_of_getElem? (i := 15) (by decide +kernel), List.mem_of_getElem? (i := 262) (by decide +kernel), List.mem_of_getElem? (i := 263) (by decide +kernel)⟩
def lw_privs_1 : List (MethodName × Nat) := [(⟨"PalletStack", "lineOf", "(I)LPalletStack$Line;"⟩, 14), (⟨"PalletStack", "nextLine", "()LPalletStack$Line;"⟩, 14), (⟨"PalletStack", "putAtBest", "(LPalletStack$Kind;)Z"⟩, 14), (⟨"PalletStack", "bestPlace", "(LPalletStack$Kind;)I"⟩, 14), (⟨"PalletStack", "letDown", "(LPalletStack$Kind;IIZ)V"⟩, 14), (⟨"PalletStack", "topOf", "(II)I"⟩, 14), (⟨"PalletStack", "brokenRule", "(LPalletStack$Kind;)I"⟩, 14), (⟨"PalletStack", "hasGroundAtCorners", "()Z"⟩, 14), (⟨"PalletStack", "isGround", "(II)Z"⟩, 14), (⟨"PalletStack", "findSupports", "()V"⟩, 14), (⟨"PalletStack", "itemOf", "(I)LPalletStack$Item;"⟩, 14), (⟨"PalletStack", "isTooMuchLoad", "()Z"⟩, 14), (⟨"PalletStack", "forgetNextLoads", "()V"⟩, 14), (⟨"PalletStack", "putTrial", "()V"⟩, 14), (⟨"PalletStack", "layTop", "(LPalletStack$Item;)V"⟩, 14), (⟨"PalletStack", "settleLoads", "()V"⟩, 14)]
theorem lw_r1 : ∀ q ∈ lw_privs_1, lw_okq q := List.forall_mem_cons.mpr ⟨lw_p0, List.forall_mem_cons.mpr ⟨lw_p1, List.forall_mem_cons.mpr ⟨lw_p2, List.forall_mem_cons.mpr ⟨lw_p3, List.forall_mem_cons.mpr ⟨lw_p4, List.forall_mem_cons.mpr ⟨lw_p5, List.forall_mem_cons.mpr ⟨lw_p6, List.forall_mem_cons.mpr ⟨lw_p7, List.forall_mem_cons.mpr ⟨lw_p8, List.forall_mem_cons.mpr ⟨lw_p9, List.forall_mem_cons.mpr ⟨lw_p10, List.forall_mem_cons.mpr ⟨lw_p11, List.forall_mem_cons.mpr ⟨lw_p12, List.forall_mem_cons.mpr ⟨lw_p13, List.forall_mem_cons.mpr ⟨lw_p14, List.forall_mem_cons.mpr ⟨lw_p15, fun _ h => absurd h List.not_mem_nil⟩⟩⟩⟩⟩⟩⟩⟩⟩⟩⟩⟩⟩⟩⟩⟩
theorem lw_p16 : lw_okq (⟨"PalletStack", "layAllTops", "()V"⟩, 14) := ⟨⟨by decide +kernel, by decide +kernel⟩, List.mem_of_getElem? (i := 15) (by decide +kernel), List.mem_of_getElem? (i := 270) (by decide +kernel), List.mem_of_getElem? (i := 271) (by decide +kernel)⟩
theorem lw_p17 : lw_okq (⟨"PalletStack", "greatestTop", "()I"⟩, 14) := ⟨⟨by decide +kernel, by decide +kernel⟩, List.mem_of_getElem? (i := 15) (by decide +kernel), List.mem_of_getElem? (i := 282) (by decide +kernel), List.mem_of_getElem? (i := 283) (by decide +kernel)⟩
theorem lw_p18 : lw_okq (⟨"PalletStack", "countOf", "(I)I"⟩, 14) := ⟨⟨by decide +kernel, by decide +kernel⟩, List.mem_of_getElem? (i := 15) (by decide +kernel), List.mem_of_getElem? (i := 292) (by decide +kernel), List.mem_of_getElem? (i := 293) (by decide +kernel)⟩
theorem lw_p19 : lw_okq (⟨"PalletStack", "withFacts", "(JLPalletStack$Item;)J"⟩, 14) := ⟨⟨by decide +kernel, by decide +kernel⟩, List.mem_of_getElem? (i := 15) (by decide +kernel), List.mem_of_getElem? (i := 296) (by decide +kernel), List.mem_of_getElem? (i := 297) (by decide +kernel)⟩
theorem lw_p20 : lw_okq (⟨"PalletStack", "factOf", "(LPalletStack$Item;I)I"⟩, 14) := ⟨⟨by decide +kernel, by decide +kernel⟩, List.mem_of_getElem? (i := 15) (by decide +kernel), List.mem_of_getElem? (i := 300) (by decide +kernel), List.mem_of_getElem? (i := 301) (by decide +kernel)⟩
theorem lw_p21 : lw_okq (⟨"PalletStack", "standingOn", "(LPalletStack$Item;)I"⟩, 14) := ⟨⟨by decide +kernel, by decide +kernel⟩, List.mem_of_getElem? (i := 15) (by decide +kernel), List.mem_of_getElem? (i := 304) (by decide +kernel), List.mem_of_getElem? (i := 305) (by decide +kernel)⟩
theorem lw_p22 : lw_okq (⟨"PalletStack", "sumOf", "(I)I"⟩, 14) := ⟨⟨by decide +kernel, by decide +kernel⟩, List.mem_of_getElem? (i := 15) (by decide +kernel), List.mem_of_getElem? (i := 313) (by decide +kernel), List.mem_of_getElem? (i := 314) (by decide +kernel)⟩
theorem lw_p23 : lw_okq (⟨"PalletStack", "greatestLoad", "()I"⟩, 14) := ⟨⟨by decide +kernel, by decide +kernel⟩, List.mem_of_getElem? (i := 15) (by decide +kernel), List.mem_of_getElem? (i := 317) (by decide +kernel), List.mem_of_getElem? (i := 318) (by decide +kernel)⟩
theorem lw_p24 : lw_okq (⟨"PalletStack", "coveredDeck", "()I"⟩, 14) := ⟨⟨by decide +kernel, by decide +kernel⟩, List.mem_of_getElem? (i := 15) (by decide +kernel), List.mem_of_getElem? (i := 321) (by decide +kernel), List.mem_of_getElem? (i := 322) (by decide +kernel)⟩
theorem lw_p25 : lw_okq (⟨"java/lang/Throwable", "fillInStackTrace", "(I)Ljava/lang/Throwable;"⟩, 6) := ⟨⟨by decide +kernel, by decide +kernel⟩, List.mem_of_getElem? (i := 372) (by decide +kernel), List.mem_of_getElem? (i := 370) (by decide +kernel), List.mem_of_getElem? (i := 371) (by decide +kernel)⟩
theorem lw_p26 : lw_okq (⟨"PalletStack", "kindOf", "(I)LPalletStack$Kind;"⟩, 14) := ⟨⟨by decide +kernel, by decide +kernel⟩, List.mem_of_getElem? (i := 15) (by decide +kernel), List.mem_of_getElem? (i := 490) (by decide +kernel), List.mem_of_getElem? (i := 491) (by decide +kernel)⟩
theorem lw_p27 : lw_okq (⟨"PalletStack", "firstReason", "(LPalletStack$Kind;IIZ)I"⟩, 14) := ⟨⟨by decide +kernel, by decide +kernel⟩, List.mem_of_getElem? (i := 15) (by decide +kernel), List.mem_of_getElem? (i := 494) (by decide +kernel), List.mem_of_getElem? (i := 495) (by decide +kernel)⟩
theorem lw_p28 : lw_okq (⟨"PalletStack", "isCarriedBy", "(LPalletStack$Item;LPalletStack$Item;)Z"⟩, 14) := ⟨⟨by decide +kernel, by decide +kernel⟩, List.mem_of_getElem? (i := 15) (by decide +kernel), List.mem_of_getElem? (i := 544) (by decide +kernel), List.mem_of_getElem? (i := 545) (by decide +kernel)⟩
theorem lw_p29 : lw_okq (⟨"PalletStackModel", "fail", "(I)I"⟩, 14) := ⟨⟨by decide +kernel, by decide +kernel⟩, List.mem_of_getElem? (i := 605) (by decide +kernel), List.mem_of_getElem? (i := 665) (by decide +kernel), List.mem_of_getElem? (i := 666) (by decide +kernel)⟩
theorem lw_p30 : lw_okq (⟨"PalletStackModel", "counted", "(I)I"⟩, 14) := ⟨⟨by decide +kernel, by decide +kernel⟩, List.mem_of_getElem? (i := 605) (by decide +kernel), List.mem_of_getElem? (i := 680) (by decide +kernel), List.mem_of_getElem? (i := 681) (by decide +kernel)⟩
theorem lw_p31 : lw_okq (⟨"PalletStackModel", "present", "()I"⟩, 14) := ⟨⟨by decide +kernel, by decide +kernel⟩, List.mem_of_getElem? (i := 605) (by decide +kernel), List.mem_of_getElem? (i := 684) (by decide +kernel), List.mem_of_getElem? (i := 685) (by decide +kernel)⟩
def lw_privs_2 : List (MethodName × Nat) := [(⟨"PalletStack", "layAllTops", "()V"⟩, 14), (⟨"PalletStack", "greatestTop", "()I"⟩, 14), (⟨"PalletStack", "countOf", "(I)I"⟩, 14), (⟨"PalletStack", "withFacts", "(JLPalletStack$Item;)J"⟩, 14), (⟨"PalletStack", "factOf", "(LPalletStack$Item;I)I"⟩, 14), (⟨"PalletStack", "standingOn", "(LPalletStack$Item;)I"⟩, 14), (⟨"PalletStack", "sumOf", "(I)I"⟩, 14), (⟨"PalletStack", "greatestLoad", "()I"⟩, 14), (⟨"PalletStack", "coveredDeck", "()I"⟩, 14), (⟨"java/lang/Throwable", "fillInStackTrace", "(I)Ljava/lang/Throwable;"⟩, 6), (⟨"PalletStack", "kindOf", "(I)LPalletStack$Kind;"⟩, 14), (⟨"PalletStack", "firstReason", "(LPalletStack$Kind;IIZ)I"⟩, 14), (⟨"PalletStack", "isCarriedBy", "(LPalletStack$Item;LPalletStack$Item;)Z"⟩, 14), (⟨"PalletStackModel", "fail", "(I)I"⟩, 14), (⟨"PalletStackModel", "counted", "(I)I"⟩, 14), (⟨"PalletStackModel", "present", "()I"⟩, 14)]
theorem lw_r2 : ∀ q ∈ lw_privs_2, lw_okq q := List.forall_mem_cons.mpr ⟨lw_p16, List.forall_mem_cons.mpr ⟨lw_p17, List.forall_mem_cons.mpr ⟨lw_p18, List.forall_mem_cons.mpr ⟨lw_p19, List.forall_mem_cons.mpr ⟨lw_p20, List.forall_mem_cons.mpr ⟨lw_p21, List.forall_mem_cons.mpr ⟨lw_p22, List.forall_mem_cons.mpr ⟨lw_p23, List.forall_mem_cons.mpr ⟨lw_p24, List.forall_mem_cons.mpr ⟨lw_p25, List.forall_mem_cons.mpr ⟨lw_p26, List.forall_mem_cons.mpr ⟨lw_p27, List.forall_mem_cons.mpr ⟨lw_p28, List.forall_mem_cons.mpr ⟨lw_p29, List.forall_mem_cons.mpr ⟨lw_p30, List.forall_mem_cons.mpr ⟨lw_p31, fun _ h => absurd h List.not_mem_nil⟩⟩⟩⟩⟩⟩⟩⟩⟩⟩⟩⟩⟩⟩⟩⟩
theorem lw_p32 : lw_okq (⟨"PalletStackModel", "isHere", "(I)Z"⟩, 14) := ⟨⟨by decide +kernel, by decide +kernel⟩, List.mem_of_getElem? (i := 605) (by decide +kernel), List.mem_of_getElem? (i := 688) (by decide +kernel), List.mem_of_getElem? (i := 689) (by decide +kernel)⟩
theorem lw_p33 : lw_okq (⟨"PalletStackModel", "isKind", "(I)Z"⟩, 14) := ⟨⟨by decide +kernel, by decide +kernel⟩, List.mem_of_getElem? (i := 605) (by decide +kernel), List.mem_of_getElem? (i := 696) (by decide +kernel), List.mem_of_getElem? (i := 697) (by decide +kernel)⟩
theorem lw_p34 : lw_okq (⟨"PalletStackModel", "why", "(IIIZ)I"⟩, 14) := ⟨⟨by decide +kernel, by decide +kernel⟩, List.mem_of_getElem? (i := 605) (by decide +kernel), List.mem_of_getElem? (i := 700) (by decide +kernel), List.mem_of_getElem? (i := 701) (by decide +kernel)⟩
theorem lw_p35 : lw_okq (⟨"PalletStackModel", "kind", "(II)I"⟩, 14) := ⟨⟨by decide +kernel, by decide +kernel⟩, List.mem_of_getElem? (i := 605) (by decide +kernel), List.mem_of_getElem? (i := 704) (by decide +kernel), List.mem_of_getElem? (i := 705) (by decide +kernel)⟩
theorem lw_p36 : lw_okq (⟨"PalletStackModel", "lay", "(IIIIZ)V"⟩, 14) := ⟨⟨by decide +kernel, by decide +kernel⟩, List.mem_of_getElem? (i := 605) (by decide +kernel), List.mem_of_getElem? (i := 711) (by decide +kernel), List.mem_of_getElem? (i := 712) (by decide +kernel)⟩
theorem lw_p37 : lw_okq (⟨"PalletStackModel", "common", "(II)I"⟩, 14) := ⟨⟨by decide +kernel, by decide +kernel⟩, List.mem_of_getElem? (i := 605) (by decide +kernel), List.mem_of_getElem? (i := 715) (by decide +kernel), List.mem_of_getElem? (i := 716) (by decide +kernel)⟩
theorem lw_p38 : lw_okq (⟨"PalletStackModel", "get", "(II)I"⟩, 14) := ⟨⟨by decide +kernel, by decide +kernel⟩, List.mem_of_getElem? (i := 605) (by decide +kernel), List.mem_of_getElem? (i := 719) (by decide +kernel), List.mem_of_getElem? (i := 720) (by decide +kernel)⟩
theorem lw_p39 : lw_okq (⟨"PalletStackModel", "wide", "(I)I"⟩, 14) := ⟨⟨by decide +kernel, by decide +kernel⟩, List.mem_of_getElem? (i := 605) (by decide +kernel), List.mem_of_getElem? (i := 723) (by decide +kernel), List.mem_of_getElem? (i := 724) (by decide +kernel)⟩
theorem lw_p40 : lw_okq (⟨"PalletStackModel", "deep", "(I)I"⟩, 14) := ⟨⟨by decide +kernel, by decide +kernel⟩, List.mem_of_getElem? (i := 605) (by decide +kernel), List.mem_of_getElem? (i := 732) (by decide +kernel), List.mem_of_getElem? (i := 733) (by decide +kernel)⟩
theorem lw_p41 : lw_okq (⟨"PalletStackModel", "topOf", "(I)I"⟩, 14) := ⟨⟨by decide +kernel, by decide +kernel⟩, List.mem_of_getElem? (i := 605) (by decide +kernel), List.mem_of_getElem? (i := 736) (by decide +kernel), List.mem_of_getElem? (i := 737) (by decide +kernel)⟩
theorem lw_p42 : lw_okq (⟨"PalletStackModel", "ground", "(I)I"⟩, 14) := ⟨⟨by decide +kernel, by decide +kernel⟩, List.mem_of_getElem? (i := 605) (by decide +kernel), List.mem_of_getElem? (i := 743) (by decide +kernel), List.mem_of_getElem? (i := 744) (by decide +kernel)⟩
theorem lw_p43 : lw_okq (⟨"PalletStackModel", "cells", "(I)I"⟩, 14) := ⟨⟨by decide +kernel, by decide +kernel⟩, List.mem_of_getElem? (i := 605) (by decide +kernel), List.mem_of_getElem? (i := 747) (by decide +kernel), List.mem_of_getElem? (i := 748) (by decide +kernel)⟩
theorem lw_p44 : lw_okq (⟨"PalletStackModel", "standsOn", "(II)Z"⟩, 14) := ⟨⟨by decide +kernel, by decide +kernel⟩, List.mem_of_getElem? (i := 605) (by decide +kernel), List.mem_of_getElem? (i := 751) (by decide +kernel), List.mem_of_getElem? (i := 752) (by decide +kernel)⟩
theorem lw_p45 : lw_okq (⟨"PalletStackModel", "hasCorners", "(I)Z"⟩, 14) := ⟨⟨by decide +kernel, by decide +kernel⟩, List.mem_of_getElem? (i := 605) (by decide +kernel), List.mem_of_getElem? (i := 755) (by decide +kernel), List.mem_of_getElem? (i := 756) (by decide +kernel)⟩
theorem lw_p46 : lw_okq (⟨"PalletStackModel", "isGround", "(III)Z"⟩, 14) := ⟨⟨by decide +kernel, by decide +kernel⟩, List.mem_of_getElem? (i := 605) (by decide +kernel), List.mem_of_getElem? (i := 759) (by decide +kernel), List.mem_of_getElem? (i := 760) (by decide +kernel)⟩
theorem lw_p47 : lw_okq (⟨"PalletStackModel", "covers", "(III)Z"⟩, 14) := ⟨⟨by decide +kernel, by decide +kernel⟩, List.mem_of_getElem? (i := 605) (by decide +kernel), List.mem_of_getElem? (i := 763) (by decide +kernel), List.mem_of_getElem? (i := 764) (by decide +kernel)⟩
def lw_privs_3 : List (MethodName × Nat) := [(⟨"PalletStackModel", "isHere", "(I)Z"⟩, 14), (⟨"PalletStackModel", "isKind", "(I)Z"⟩, 14), (⟨"PalletStackModel", "why", "(IIIZ)I"⟩, 14), (⟨"PalletStackModel", "kind", "(II)I"⟩, 14), (⟨"PalletStackModel", "lay", "(IIIIZ)V"⟩, 14), (⟨"PalletStackModel", "common", "(II)I"⟩, 14), (⟨"PalletStackModel", "get", "(II)I"⟩, 14), (⟨"PalletStackModel", "wide", "(I)I"⟩, 14), (⟨"PalletStackModel", "deep", "(I)I"⟩, 14), (⟨"PalletStackModel", "topOf", "(I)I"⟩, 14), (⟨"PalletStackModel", "ground", "(I)I"⟩, 14), (⟨"PalletStackModel", "cells", "(I)I"⟩, 14), (⟨"PalletStackModel", "standsOn", "(II)Z"⟩, 14), (⟨"PalletStackModel", "hasCorners", "(I)Z"⟩, 14), (⟨"PalletStackModel", "isGround", "(III)Z"⟩, 14), (⟨"PalletStackModel", "covers", "(III)Z"⟩, 14)]
theorem lw_r3 : ∀ q ∈ lw_privs_3, lw_okq q := List.forall_mem_cons.mpr ⟨lw_p32, List.forall_mem_cons.mpr ⟨lw_p33, List.forall_mem_cons.mpr ⟨lw_p34, List.forall_mem_cons.mpr ⟨lw_p35, List.forall_mem_cons.mpr ⟨lw_p36, List.forall_mem_cons.mpr ⟨lw_p37, List.forall_mem_cons.mpr ⟨lw_p38, List.forall_mem_cons.mpr ⟨lw_p39, List.forall_mem_cons.mpr ⟨lw_p40, List.forall_mem_cons.mpr ⟨lw_p41, List.forall_mem_cons.mpr ⟨lw_p42, List.forall_mem_cons.mpr ⟨lw_p43, List.forall_mem_cons.mpr ⟨lw_p44, List.forall_mem_cons.mpr ⟨lw_p45, List.forall_mem_cons.mpr ⟨lw_p46, List.forall_mem_cons.mpr ⟨lw_p47, fun _ h => absurd h List.not_mem_nil⟩⟩⟩⟩⟩⟩⟩⟩⟩⟩⟩⟩⟩⟩⟩⟩
theorem lw_p48 : lw_okq (⟨"PalletStackModel", "isTooMuch", "()Z"⟩, 14) := ⟨⟨by decide +kernel, by decide +kernel⟩, List.mem_of_getElem? (i := 605) (by decide +kernel), List.mem_of_getElem? (i := 767) (by decide +kernel), List.mem_of_getElem? (i := 768) (by decide +kernel)⟩
theorem lw_p49 : lw_okq (⟨"PalletStackModel", "reckonLoads", "()V"⟩, 14) := ⟨⟨by decide +kernel, by decide +kernel⟩, List.mem_of_getElem? (i := 605) (by decide +kernel), List.mem_of_getElem? (i := 771) (by decide +kernel), List.mem_of_getElem? (i := 772) (by decide +kernel)⟩
theorem lw_p50 : lw_okq (⟨"PalletStackModel", "weight", "(I)I"⟩, 14) := ⟨⟨by decide +kernel, by decide +kernel⟩, List.mem_of_getElem? (i := 605) (by decide +kernel), List.mem_of_getElem? (i := 775) (by decide +kernel), List.mem_of_getElem? (i := 776) (by decide +kernel)⟩
theorem lw_p51 : lw_okq (⟨"PalletStackModel", "weights", "()I"⟩, 14) := ⟨⟨by decide +kernel, by decide +kernel⟩, List.mem_of_getElem? (i := 605) (by decide +kernel), List.mem_of_getElem? (i := 779) (by decide +kernel), List.mem_of_getElem? (i := 780) (by decide +kernel)⟩
theorem lw_p52 : lw_okq (⟨"PalletStackModel", "add", "(IIIZ)V"⟩, 14) := ⟨⟨by decide +kernel, by decide +kernel⟩, List.mem_of_getElem? (i := 605) (by decide +kernel), List.mem_of_getElem? (i := 787) (by decide +kernel), List.mem_of_getElem? (i := 788) (by decide +kernel)⟩
theorem lw_p53 : lw_okq (⟨"PalletStackModel", "isItem", "(I)Z"⟩, 14) := ⟨⟨by decide +kernel, by decide +kernel⟩, List.mem_of_getElem? (i := 605) (by decide +kernel), List.mem_of_getElem? (i := 795) (by decide +kernel), List.mem_of_getElem? (i := 796) (by decide +kernel)⟩
theorem lw_p54 : lw_okq (⟨"PalletStackModel", "above", "(I)I"⟩, 14) := ⟨⟨by decide +kernel, by decide +kernel⟩, List.mem_of_getElem? (i := 605) (by decide +kernel), List.mem_of_getElem? (i := 799) (by decide +kernel), List.mem_of_getElem? (i := 800) (by decide +kernel)⟩
theorem lw_p55 : lw_okq (⟨"PalletStackModel", "itemTold", "(II)I"⟩, 14) := ⟨⟨by decide +kernel, by decide +kernel⟩, List.mem_of_getElem? (i := 605) (by decide +kernel), List.mem_of_getElem? (i := 807) (by decide +kernel), List.mem_of_getElem? (i := 808) (by decide +kernel)⟩
theorem lw_p56 : lw_okq (⟨"PalletStackModel", "below", "(I)I"⟩, 14) := ⟨⟨by decide +kernel, by decide +kernel⟩, List.mem_of_getElem? (i := 605) (by decide +kernel), List.mem_of_getElem? (i := 811) (by decide +kernel), List.mem_of_getElem? (i := 812) (by decide +kernel)⟩
theorem lw_p57 : lw_okq (⟨"PalletStackModel", "rests", "(II)Z"⟩, 14) := ⟨⟨by decide +kernel, by decide +kernel⟩, List.mem_of_getElem? (i := 605) (by decide +kernel), List.mem_of_getElem? (i := 830) (by decide +kernel), List.mem_of_getElem? (i := 831) (by decide +kernel)⟩
theorem lw_p58 : lw_okq (⟨"PalletStackModel", "bestFor", "(I)I"⟩, 14) := ⟨⟨by decide +kernel, by decide +kernel⟩, List.mem_of_getElem? (i := 605) (by decide +kernel), List.mem_of_getElem? (i := 839) (by decide +kernel), List.mem_of_getElem? (i := 840) (by decide +kernel)⟩
theorem lw_p59 : lw_okq (⟨"PalletStackModel", "putBest", "(I)Z"⟩, 14) := ⟨⟨by decide +kernel, by decide +kernel⟩, List.mem_of_getElem? (i := 605) (by decide +kernel), List.mem_of_getElem? (i := 847) (by decide +kernel), List.mem_of_getElem? (i := 848) (by decide +kernel)⟩
theorem lw_p60 : lw_okq (⟨"PalletStackModel", "isAhead", "(II)Z"⟩, 14) := ⟨⟨by decide +kernel, by decide +kernel⟩, List.mem_of_getElem? (i := 605) (by decide +kernel), List.mem_of_getElem? (i := 859) (by decide +kernel), List.mem_of_getElem? (i := 860) (by decide +kernel)⟩
theorem lw_p61 : lw_okq (⟨"PalletStackModel", "sumOf", "(I)I"⟩, 14) := ⟨⟨by decide +kernel, by decide +kernel⟩, List.mem_of_getElem? (i := 605) (by decide +kernel), List.mem_of_getElem? (i := 875) (by decide +kernel), List.mem_of_getElem? (i := 876) (by decide +kernel)⟩
def lw_privs_4 : List (MethodName × Nat) := [(⟨"PalletStackModel", "isTooMuch", "()Z"⟩, 14), (⟨"PalletStackModel", "reckonLoads", "()V"⟩, 14), (⟨"PalletStackModel", "weight", "(I)I"⟩, 14), (⟨"PalletStackModel", "weights", "()I"⟩, 14), (⟨"PalletStackModel", "add", "(IIIZ)V"⟩, 14), (⟨"PalletStackModel", "isItem", "(I)Z"⟩, 14), (⟨"PalletStackModel", "above", "(I)I"⟩, 14), (⟨"PalletStackModel", "itemTold", "(II)I"⟩, 14), (⟨"PalletStackModel", "below", "(I)I"⟩, 14), (⟨"PalletStackModel", "rests", "(II)Z"⟩, 14), (⟨"PalletStackModel", "bestFor", "(I)I"⟩, 14), (⟨"PalletStackModel", "putBest", "(I)Z"⟩, 14), (⟨"PalletStackModel", "isAhead", "(II)Z"⟩, 14), (⟨"PalletStackModel", "sumOf", "(I)I"⟩, 14)]
theorem lw_r4 : ∀ q ∈ lw_privs_4, lw_okq q := List.forall_mem_cons.mpr ⟨lw_p48, List.forall_mem_cons.mpr ⟨lw_p49, List.forall_mem_cons.mpr ⟨lw_p50, List.forall_mem_cons.mpr ⟨lw_p51, List.forall_mem_cons.mpr ⟨lw_p52, List.forall_mem_cons.mpr ⟨lw_p53, List.forall_mem_cons.mpr ⟨lw_p54, List.forall_mem_cons.mpr ⟨lw_p55, List.forall_mem_cons.mpr ⟨lw_p56, List.forall_mem_cons.mpr ⟨lw_p57, List.forall_mem_cons.mpr ⟨lw_p58, List.forall_mem_cons.mpr ⟨lw_p59, List.forall_mem_cons.mpr ⟨lw_p60, List.forall_mem_cons.mpr ⟨lw_p61, fun _ h => absurd h List.not_mem_nil⟩⟩⟩⟩⟩⟩⟩⟩⟩⟩⟩⟩⟩⟩
def lw_privs : List (MethodName × Nat) := lw_privs_1 ++ (lw_privs_2 ++ (lw_privs_3 ++ (lw_privs_4)))
def lw_tbl : List Cond := k2_sels lw_privs ++ tables_1
theorem lw_privs_ok : ∀ q ∈ lw_privs, lw_okq q := by
  show ∀ q ∈ lw_privs_1 ++ (lw_privs_2 ++ (lw_privs_3 ++ (lw_privs_4))), lw_okq q
  exact List.forall_mem_append.mpr ⟨lw_r1, List.forall_mem_append.mpr ⟨lw_r2, List.forall_mem_append.mpr ⟨lw_r3, lw_r4⟩⟩⟩
/-- the streams that the claim lets the run draw from -/
abbrev lw_cs : List Choice := [Jvm.Choice.named "NaN.bits"]
theorem lw_bits : nanBits ∈ lw_cs := by first | decide | exact List.mem_cons_self | simp [lw_cs, nanBits]
/-! ===== BEGIN words of one list among another's, by their places ===== -/
theorem goodIn_r {big : List Cond} (ws : List Cond) (ps : List Nat) (hp : ws = ps.filterMap (fun i => big[i]?)) (h : ws.all goodWord = true) : GoodIn big ws := by
  intro w hw
  have h1 := List.all_eq_true.mp h w hw
  rw [hp] at hw
  obtain ⟨i, -, hi⟩ := List.mem_filterMap.mp hw
  have hm : w ∈ big := by first | exact List.mem_of_getElem? hi | exact List.getElem?_mem hi
  exact ⟨hm, good_of_word h1⟩
theorem goodIn_app {big a b : List Cond} (ha : GoodIn big a) (hb : GoodIn big b) : GoodIn big (a ++ b) := fun w h => (List.mem_append.mp h).elim (ha w) (hb w)
theorem goodIn_ca {big a b : List Cond} {c : Cond} (ha : GoodIn big (c :: a)) (hb : GoodIn big b) : GoodIn big (c :: (a ++ b)) := fun w h => (List.mem_cons.mp h).elim (fun e => ha w (List.mem_cons.mpr (Or.inl e))) (fun h => (List.mem_append.mp h).elim (fun h => ha w (List.mem_cons.mpr (Or.inr h))) (hb w))
theorem goodIn_sub {big ws : List Cond} (hm : ∀ w ∈ ws, w ∈ big) (h : ws.all goodWord = true) : GoodIn big ws := fun w hw => ⟨hm w hw, good_of_word (List.all_eq_true.mp h w hw)⟩
/-! ===== END ===== -/

/-! ===== BEGIN exceptions that leave a method, and their catching by the caller (launches without stack traces) ===== -/
section VXA
/-! The laws vx_back, vx_callV, vx_callS, vx_callSW, vx_throw0, vx_throwS follow proofs of the library, with one case more: JvmDerived/Free/Laws.lean (Back.of_free), Shelf42/LK1.lean (callV, callS), Shelf/KitTraced.lean (throwNew0V, throwNewS). -/
/-- where a method has thrown q: the class by its name, the cell, what was written, the world -/
def vx_T (XC : String → State → State → Prop) (st : State) (q : Addr) (t : State) (mc ms : Nat) (free : Addr → Prop) : Prop :=
  ∃ (E : String) (ce : Cell) (L : List Loc), XC E st t ∧ t.heap[q]? = some ce ∧ ce.vm = .none ∧ st.vm.findClass E = some ce.cls ∧ st.WarmedH t.vm ∧ st.sameButNew ({ t with vm := st.vm } : State) L mc ms ∧ ∀ z ∈ L, free z.base
def vx_Q (Qc : Array Value → State → Outcome → State → Prop) (XC : String → State → State → Prop) (mc ms : Nat) (free : Addr → Prop) : Array Value → State → Outcome → State → Prop := fun a st o t =>
  (Qc a st o t ∧ ∃ L, FrameEnd st o t L mc ms ∧ ∀ q ∈ L, free q.base) ∨ ∃ q, o = .threw q ∧ vx_T XC st q t mc ms free
/-- a callee that returns or throws -/
def vx_Met (l : Launch) (y : MethodName) (ws : List Cond) (rm : Room) (Pc : Array Value → State → Prop) (Qc : Array Value → State → Outcome → State → Prop) (XC : String → State → State → Prop) (mc ms : Nat) (free : Addr → Prop) : Prop :=
  MetFree l y (headSpec ws rm) Pc (fun _ _ _ _ _ => True) (vx_Q Qc XC mc ms free)
def vx_Post (XC : String → State → State → Prop) (mc ms : Nat) (free : Addr → Prop) : Pt → Array Value → Addr → Pt → Prop := fun A a q B =>
  ∃ (g : JFrame) (mk : MethodId) (t : State) (L : List Loc) (E : String) (ce : Cell), B.U.heap = t.heap ∧ B.U.vm = t.vm ∧ XC E (A.U.calling g mk a) t ∧ t.heap[q]? = some ce ∧ ce.vm = .none ∧ A.U.vm.findClass E = some ce.cls ∧ B.locs = A.locs ++ L ∧ (∀ z ∈ L, free z.base) ∧ B.cells = A.cells + mc ∧ B.slots = A.slots + ms
def vx_Back (l : Launch) (R : Room) (p : Program) (e : Env) (below : List Frame) (s : State) (sargs : Array Value) (y : MethodName) (len W9 : Nat)
    (Pre : Pt → Array Value → Prop) (Post : Pt → Array Value → Option Value → Pt → Prop) (PostX : Pt → Array Value → Addr → Pt → Prop) : Prop :=
  ∀ (m : MethodId) (meth : Method) (c : Code) (A : Pt) (g : JFrame) (ig : Instr) (mk : MethodId) (a : Array Value),
    Stand p l e R s m sargs below meth c A.U A.locs A.cells A.slots → g.method = m → g.locals.size = c.maxLocals → decode c.code g.pc = .ok (ig, len) →
    2 * g.monitorRoom + (g.stack.map fun v => v.category).sum ≤ W9 → A.U.methodNamed? y = some mk → Pre A a →
    (∃ (v : Option Value) (B : Pt), Stand p l e R s m sargs below meth c B.U B.locs B.cells B.slots ∧ Post A a v B ∧
      Steps p.tables e below (doInvoke e (A.U.setTop g) [] mk a).1 (B.U.setTop { g with pc := g.pc + len, stack := v.toList ++ g.stack })) ∨
    (∃ (q : Addr) (B : Pt), Stand p l e R s m sargs below meth c B.U B.locs B.cells B.slots ∧ PostX A a q B ∧
      Steps p.tables e below (doInvoke e (A.U.setTop g) [] mk a).1 ((B.U.setTop g).pushFrame (.throwing q)))
section Payer
variable {l : Launch} {R : Room} {p : Program} {e : Env} {below : List Frame} {s : State} {sargs : Array Value} {y : MethodName} {len W9 : Nat}
theorem vx_back {ws : List Cond} {rm : Room} {Pc : Array Value → State → Prop} {Qc : Array Value → State → Outcome → State → Prop} {XC : String → State → State → Prop} {mc ms : Nat} {free : Addr → Prop} {bytes : ByteArray} {maxL : Nat} {ret : Option FieldType}
    (hM : vx_Met l y ws rm Pc Qc XC mc ms free) (hblind : FrameBlind Pc) (hrc : rm.cells = mc) (hrs : rm.slots = ms)
    (hframes : rm.frames + 1 ≤ R.frames) (hlocals : W9 + (maxL + 11) + rm.locals ≤ R.locals)
    (hws : ∀ w ∈ ws, ∀ a' U, s.WarmedH U.vm → w.before a' U = true) (hcode : Cond.code y bytes maxL ret ∈ ws) (hinit : ∀ a' U, s.WarmedH U.vm → (Cond.initialized y.cls).before a' U = true) :
    vx_Back l R p e below s sargs y len W9 (PreOf R mc ms Pc) (PostOf Qc mc ms free) (vx_Post XC mc ms free) := by
  intro m meth c A g ig mk a X hg hsize hdg hW hn hp
  have h1 : (headSpec ws rm).pre.before a A.U = true := atoms_intro fun w hw => hws w hw _ _ X.warmed
  have h2 : (Cond.code y bytes maxL ret).before a A.U = true := hws _ hcode _ _ X.warmed
  have h3 : (Cond.initialized y.cls).before a A.U = true := hinit _ _ X.warmed
  have h4 : A.cells + (headSpec ws rm).room.cells ≤ R.cells := by rw [show (headSpec ws rm).room.cells = mc from hrc]; exact hp.1
  have h5 : A.slots + (headSpec ws rm).room.slots ≤ R.slots := by rw [show (headSpec ws rm).room.slots = ms from hrs]; exact hp.2.1
  have hPc : Pc a (A.U.calling g mk a) := hblind _ _ _ _ hp.2.2
  obtain ⟨U, Ls, c0, s0⟩ := A
  dsimp only [Pt.U, Pt.locs, Pt.cells, Pt.slots] at h1 h2 h3 h4 h5 X hn hPc ⊢
  obtain ⟨methY, cY, hmY, hcY, -, hlY, -, -, -, -⟩ := Cond.code_spec hn h2
  obtain ⟨kY, hkY, -⟩ := className_of_methodNamed hn
  have hinitY : kY.init = .initialized := Cond.initialized_spec (findClass_of_methodNamed hn) hkY h3
  have h : At U g.method c below := by rw [hg]; exact X.here
  have hlocals9 : W9 + (maxL + 11) + (headSpec ws rm).room.locals ≤ R.locals := hlocals
  have happ : (headSpec ws rm).appliesLoose y e.platform (U.calling g mk a) = true :=
    Spec.appliesLoose_calling (g := g) h hdg hn hkY hinitY
      (X.room_calling (g := g) (R' := (headSpec ws rm).room) hsize hmY hcY hframes (by rw [hlY]; omega) h4 h5) h1
  obtain ⟨mid, hmid⟩ := h.above
  have hfr : (U.setTop g).frames = (.java g :: mid) ++ below := by rw [State.frames_setTop' g h.top, hmid]; rfl
  obtain ⟨o, s₂, hsteps, -, hend, hq⟩ := Steps.callFree hM p X.admits X.cas X.clock (acts := []) hfr happ hPc trivial
  have hq' : vx_Q Qc XC mc ms free a (U.calling g mk a) o s₂ := hq
  rw [State.frames_setTop' g h.top] at hend
  obtain ⟨g₀, hg0⟩ := Option.isSome_iff_exists.mp h.top
  obtain ⟨r, hr⟩ := State.topJava?_eq_some.mp hg0
  have hr' : (({ U with heap := s₂.heap, slotsUsed := s₂.slotsUsed } : State).setVm s₂.vm).frames = .java g₀ :: r := hr
  rcases hq' with ⟨hqc, L, hfe, hL⟩ | ⟨q, rfl, E, ce, L, hx, hce, hcv, hcl, hW₂, hsm, hL⟩
  · obtain ⟨⟨v, rfl⟩, hW₂, e2, q2, q3, q4, q5, q6⟩ := id hfe
    have e3 : s₂ = ({ (U.calling g mk a).setFrames s₂.frames with heap := s₂.heap, slotsUsed := s₂.slotsUsed } : State).setVm s₂.vm := by
      have : s₂ = ({ s₂ with vm := (U.calling g mk a).vm } : State).setVm s₂.vm := rfl
      rw [e2] at this
      exact this
    obtain ⟨c₂, i₂, len₂, hc₂, hd₂, hf₂⟩ := hend
    have hW' : U.WarmedH s₂.vm := hW₂
    have hcc : c₂ = c := by
      have h1 : s₂.code? g.method = U.code? g.method := by
        rw [State.code?_eq, State.code?_eq, hW'.alike.method?]
      exact Option.some.inj (hc₂.symm.trans (h1.trans h.code))
    subst hcc
    have hlen : len₂ = len := by rw [hdg] at hd₂; cases hd₂; rfl
    subst hlen
    have hs₂ : s₂ = (({ U with heap := s₂.heap, slotsUsed := s₂.slotsUsed } : State).setVm s₂.vm).setTop { g with pc := g.pc + len₂, stack := v.toList ++ g.stack } := by
      refine e3.trans ?_
      rw [hf₂, State.calling_eq h.top, State.setFrames_setFrames, State.setTop_of_frames _ hr', hr]
      rfl
    have hsame : U.sameButNew ({ U with heap := s₂.heap, slotsUsed := s₂.slotsUsed } : State) L mc ms := by
      refine ⟨?_, q2, q3, q4, q5, q6⟩
      obtain ⟨t, ht, -⟩ := State.frames_cons hr
      show ({ U with heap := s₂.heap, slotsUsed := s₂.slotsUsed } : State) = { U.setFrames U.frames with heap := s₂.heap, slotsUsed := s₂.slotsUsed }
      rw [State.setFrames_self ht]
    subst hg
    refine Or.inl ⟨v, ⟨(({ U with heap := s₂.heap, slotsUsed := s₂.slotsUsed } : State).setVm s₂.vm), Ls ++ L, c0 + mc, s0 + ms⟩,
      ⟨X.admits, X.cas, X.clock, X.frames, X.room, X.hears, X.method, X.code, (X.here.setHeapUsed s₂.heap s₂.slotsUsed).setVm hW'.alike, X.tail, State.WarmedH.trans X.warmed hW', X.limits, X.bytes, X.same.trans (hsame.setVm s.vm)⟩,
      ⟨g, mk, s₂, L, rfl, rfl, hqc, rfl, hL, rfl, rfl⟩, ?_⟩
    show Steps p.tables e below _ ((({ U with heap := s₂.heap, slotsUsed := s₂.slotsUsed } : State).setVm s₂.vm).setTop { g with pc := g.pc + len₂, stack := v.toList ++ g.stack })
    rw [← hs₂]
    exact hsteps
  · obtain ⟨e2, q2, q3, q4, q5, q6⟩ := id hsm
    have e3 : s₂ = ({ (U.calling g mk a).setFrames s₂.frames with heap := s₂.heap, slotsUsed := s₂.slotsUsed } : State).setVm s₂.vm := by
      have : s₂ = ({ s₂ with vm := (U.calling g mk a).vm } : State).setVm s₂.vm := rfl
      rw [e2] at this
      exact this
    have hf₂ : s₂.frames = .throwing q :: .java g :: U.frames.tail := hend
    have hW' : U.WarmedH s₂.vm := hW₂
    have hs₂ : s₂ = ((({ U with heap := s₂.heap, slotsUsed := s₂.slotsUsed } : State).setVm s₂.vm).setTop g).pushFrame (.throwing q) := by
      refine e3.trans ?_
      rw [hf₂, State.calling_eq h.top, State.setFrames_setFrames, State.pushFrame, State.frames_setTop _ hr', State.setTop_of_frames _ hr', State.setFrames_setFrames, hr]
      rfl
    have hsame : U.sameButNew ({ U with heap := s₂.heap, slotsUsed := s₂.slotsUsed } : State) L mc ms := by
      refine ⟨?_, q2, q3, q4, q5, q6⟩
      obtain ⟨t, ht, -⟩ := State.frames_cons hr
      show ({ U with heap := s₂.heap, slotsUsed := s₂.slotsUsed } : State) = { U.setFrames U.frames with heap := s₂.heap, slotsUsed := s₂.slotsUsed }
      rw [State.setFrames_self ht]
    subst hg
    refine Or.inr ⟨q, ⟨(({ U with heap := s₂.heap, slotsUsed := s₂.slotsUsed } : State).setVm s₂.vm), Ls ++ L, c0 + mc, s0 + ms⟩,
      ⟨X.admits, X.cas, X.clock, X.frames, X.room, X.hears, X.method, X.code, (X.here.setHeapUsed s₂.heap s₂.slotsUsed).setVm hW'.alike, X.tail, State.WarmedH.trans X.warmed hW', X.limits, X.bytes, X.same.trans (hsame.setVm s.vm)⟩,
      ⟨g, mk, s₂, L, E, ce, rfl, rfl, hx, hce, hcv, hcl, rfl, hL, rfl, rfl⟩, ?_⟩
    show Steps p.tables e below _ (((({ U with heap := s₂.heap, slotsUsed := s₂.slotsUsed } : State).setVm s₂.vm).setTop g).pushFrame (.throwing q))
    rw [← hs₂]
    exact hsteps
end Payer
section Calls
variable {p : Program} {l : Launch} {e : Env} {R : Room} {s : State} {m : MethodId} {args : Array Value} {below : List Frame} {meth : Method} {c : Code} {T : State} {locs : List Loc} {cells slots : Nat}
theorem vx_callV (X : Stand p l e R s m args below meth c T locs cells slots) (hexec : p.tables.exec = Jvm.exec) {own C : String} {index : Nat} {y : MethodName} {bytes : ByteArray} {maxL : Nat} {ret : Option FieldType}
    (hown : s.vm.findClass own = some m.cls) (hlink : (Cond.methodLink own index y).before args s = true) (hinst : (Cond.instanceMethod y).before args s = true) (hsel : (Cond.selects C y y).before args s = true)
    (hcode : (Cond.code y bytes maxL ret).before args s = true) (hy : y.cls ≠ "java/lang/invoke/MethodHandle" ∧ y.cls ≠ "java/lang/invoke/VarHandle")
    {W9 : Nat} {Pre : Pt → Array Value → Prop} {Post : Pt → Array Value → Option Value → Pt → Prop} {PostX : Pt → Array Value → Addr → Pt → Prop} (hK : vx_Back l R p e below s args y 3 W9 Pre Post PostX)
    {b : Addr} {cellB : Cell} (hcell : T.heap[b]? = some cellB) (hobj : cellB.vm.isStatics = false) (hcls : s.vm.findClass C = some cellB.cls)
    {g : JFrame} (hg : g.method = m) (hsize : g.locals.size = c.maxLocals) {argsL rest : List Value} (hlen : ∀ sig, parseMethodDescriptor y.desc = some sig → argsL.length = sig.parameters.length)
    (hstack : g.stack = argsL.reverse ++ .ref b :: rest) (hW : 2 * g.monitorRoom + (rest.map fun v => v.category).sum ≤ W9) (hdg : decode c.code g.pc = .ok (.invokevirtual index, 3))
    (hpre : ∀ vm₁, s.WarmedH vm₁ → Pre ⟨T.setVm vm₁, locs, cells, slots⟩ (Value.ref b :: argsL).toArray) :
    (∃ (v : Option Value) (vm₁ : Vm) (B : Pt), s.WarmedH vm₁ ∧ Stand p l e R s m args below meth c B.U B.locs B.cells B.slots ∧ Post ⟨T.setVm vm₁, locs, cells, slots⟩ (Value.ref b :: argsL).toArray v B ∧
      ∀ target, Steps p.tables e below (B.U.setTop { g with pc := g.pc + 3, stack := v.toList ++ rest }) target → Steps p.tables e below (T.setTop g) target) ∨
    (∃ (q : Addr) (vm₁ : Vm) (B : Pt), s.WarmedH vm₁ ∧ Stand p l e R s m args below meth c B.U B.locs B.cells B.slots ∧ PostX ⟨T.setVm vm₁, locs, cells, slots⟩ (Value.ref b :: argsL).toArray q B ∧
      Steps p.tables e below (T.setTop g) ((B.U.setTop { g with stack := rest }).pushFrame (.throwing q))) := by
  obtain ⟨mk, methM, hnamed, hmethM, hstM, habM⟩ := Cond.instanceMethod_spec hinst
  obtain ⟨methM', cM, hmethM', -, -, -, -, -, -, hsigM⟩ := Cond.code_spec hnamed hcode
  cases hmethM.symm.trans hmethM'
  obtain ⟨c2, r2, m2, q1, q2, q3, q4, kP, hkP, hkPi⟩ := Cond.selects_spec hsel
  cases hcls.symm.trans q1
  cases (State.methodFound?_of_named hnamed hy).symm.trans q2
  cases hnamed.symm.trans q3
  have hselP : selectMethod e.platform s.vm cellB.cls mk = .method mk := by rw [Launch.admits_selectMethod X.admits]; exact q4
  obtain ⟨vm₁, X₁, hstep₁⟩ := X.invokevirtual hexec hown hlink hnamed hmethM hstM hkP hkPi hy (a := b) (cell := cellB) hcell
    (fun z h => by rw [h] at hobj; cases hobj) hselP hmethM habM hkP hkPi (g := g) hg (argsL := argsL) (rest := rest) (hlen _ hsigM) hstack hdg
  rcases hK m meth c ⟨T.setVm vm₁, locs, cells, slots⟩ { g with stack := rest } (.invokevirtual index) mk (Value.ref b :: argsL).toArray X₁ hg hsize hdg hW (X₁.named hnamed) (hpre vm₁ X₁.warmed) with ⟨v, B, X', hpost, hsteps⟩ | ⟨q, B, X', hpost, hsteps⟩
  · exact Or.inl ⟨v, vm₁, B, X₁.warmed, X', hpost, fun target h => hstep₁ _ fun acts => by rw [doInvoke_state]; exact hsteps.trans h⟩
  · exact Or.inr ⟨q, vm₁, B, X₁.warmed, X', hpost, hstep₁ _ fun acts => by rw [doInvoke_state]; exact hsteps⟩
theorem vx_callS (X : Stand p l e R s m args below meth c T locs cells slots) (hexec : p.tables.exec = Jvm.exec) {own : String} {index : Nat} {y : MethodName} {bytes : ByteArray} {maxL : Nat} {ret : Option FieldType}
    (hown : s.vm.findClass own = some m.cls) (hlink : (Cond.methodLink own index y).before args s = true) (hstat : (Cond.static y).before args s = true) (hinit : (Cond.initialized y.cls).before args s = true)
    (hcode : (Cond.code y bytes maxL ret).before args s = true) (hy : y.cls ≠ "java/lang/invoke/MethodHandle" ∧ y.cls ≠ "java/lang/invoke/VarHandle")
    {W9 : Nat} {Pre : Pt → Array Value → Prop} {Post : Pt → Array Value → Option Value → Pt → Prop} {PostX : Pt → Array Value → Addr → Pt → Prop} (hK : vx_Back l R p e below s args y 3 W9 Pre Post PostX)
    {g : JFrame} (hg : g.method = m) (hsize : g.locals.size = c.maxLocals) {argsL rest : List Value} (hlen : ∀ sig, parseMethodDescriptor y.desc = some sig → argsL.length = sig.parameters.length)
    (hstack : g.stack = argsL.reverse ++ rest) (hW : 2 * g.monitorRoom + (rest.map fun v => v.category).sum ≤ W9) (hdg : decode c.code g.pc = .ok (.invokestatic index, 3))
    (hpre : ∀ vm₁, s.WarmedH vm₁ → Pre ⟨T.setVm vm₁, locs, cells, slots⟩ argsL.toArray) :
    (∃ (v : Option Value) (vm₁ : Vm) (B : Pt), s.WarmedH vm₁ ∧ Stand p l e R s m args below meth c B.U B.locs B.cells B.slots ∧ Post ⟨T.setVm vm₁, locs, cells, slots⟩ argsL.toArray v B ∧
      ∀ target, Steps p.tables e below (B.U.setTop { g with pc := g.pc + 3, stack := v.toList ++ rest }) target → Steps p.tables e below (T.setTop g) target) ∨
    (∃ (q : Addr) (vm₁ : Vm) (B : Pt), s.WarmedH vm₁ ∧ Stand p l e R s m args below meth c B.U B.locs B.cells B.slots ∧ PostX ⟨T.setVm vm₁, locs, cells, slots⟩ argsL.toArray q B ∧
      Steps p.tables e below (T.setTop g) ((B.U.setTop { g with stack := rest }).pushFrame (.throwing q))) := by
  obtain ⟨mk, hnamed⟩ := Cond.code_named hcode
  obtain ⟨methM, cM, hmethM, -, -, -, -, -, -, hsigM⟩ := Cond.code_spec hnamed hcode
  have hstatic : methM.isStatic = true := Cond.static_spec hnamed hmethM hstat
  obtain ⟨kP, hkP, -⟩ := className_of_methodNamed hnamed
  have hinitP : kP.init = .initialized := Cond.initialized_spec (findClass_of_methodNamed hnamed) hkP hinit
  obtain ⟨vm₁, X₁, hstep₁⟩ := X.invokestatic hexec hown hlink hnamed hmethM hstatic hkP hinitP hy (g := g) hg (argsL := argsL) (rest := rest) (hlen _ hsigM) hstack hdg
  rcases hK m meth c ⟨T.setVm vm₁, locs, cells, slots⟩ { g with stack := rest } (.invokestatic index) mk argsL.toArray X₁ hg hsize hdg hW (X₁.named hnamed) (hpre vm₁ X₁.warmed) with ⟨v, B, X', hpost, hsteps⟩ | ⟨q, B, X', hpost, hsteps⟩
  · exact Or.inl ⟨v, vm₁, B, X₁.warmed, X', hpost, fun target h => hstep₁ _ fun acts => by rw [doInvoke_state]; exact hsteps.trans h⟩
  · exact Or.inr ⟨q, vm₁, B, X₁.warmed, X', hpost, hstep₁ _ fun acts => by rw [doInvoke_state]; exact hsteps⟩
end Calls
theorem vx_cls {s : State} {T : State} {vm₁ : Vm} {E : String} {k : ClassId} (hW : s.WarmedH vm₁) (h : (T.setVm vm₁).vm.findClass E = some k) : s.vm.findClass E = some k := by
  have h1 : vm₁.findClass E = some k := h
  rw [hW.alike.findClass] at h1
  exact h1
/-- the method's frame g, with q thrown over it -/
def vx_W (p : Program) (l : Launch) (e : Env) (R : Room) (s : State) (m : MethodId) (args : Array Value) (below : List Frame) (meth : Method) (c : Code) (H : Heap) (locs : List Loc) (cells slots : Nat) (Q : State → Prop) (g : JFrame) (q : Addr) : Prop :=
  ∀ T : State, T.heap = H → Stand p l e R s m args below meth c T locs cells slots → ∃ t, Steps p.tables e below ((T.setTop g).pushFrame (.throwing q)) t ∧ Q t
def vx_Run (p : Program) (l : Launch) (e : Env) (R : Room) (s : State) (m : MethodId) (args : Array Value) (below : List Frame) (meth : Method) (c : Code) (H : Heap) (locs : List Loc) (cells slots mc ms : Nat) (g : JFrame) (rest : List Value) (Qa : State → Outcome → State → Prop) (XC : String → State → State → Prop) (free : Addr → Prop) : Prop :=
  ∀ T : State, T.heap = H → Stand p l e R s m args below meth c T locs cells slots →
    (∃ (v : Option Value) (st₀ t T' : State) (L : List Loc), st₀.heap = H ∧ Stand p l e R s m args below meth c T' (locs ++ L) (cells + mc) (slots + ms) ∧ (∀ q ∈ L, free q.base) ∧ T'.heap = t.heap ∧ T'.vm = t.vm ∧ Qa st₀ (.returned v) t ∧
      Goes p e below T g T' { g with pc := g.pc + 3, stack := v.toList ++ rest }) ∨
    (∃ (q : Addr) (st₀ t T' : State) (L : List Loc) (E : String) (ce : Cell), st₀.heap = H ∧ Stand p l e R s m args below meth c T' (locs ++ L) (cells + mc) (slots + ms) ∧ (∀ z ∈ L, free z.base) ∧ T'.heap = t.heap ∧ T'.vm = t.vm ∧ XC E st₀ t ∧ t.heap[q]? = some ce ∧ ce.vm = .none ∧ s.vm.findClass E = some ce.cls ∧
      Steps p.tables e below (T.setTop g) ((T'.setTop { g with stack := rest }).pushFrame (.throwing q)))
def vx_X {S : Type} (px : S → Prop) (B : String → S → State → Prop) (A : Nat → Prop) : String → State → State → Prop := fun E st t => ∃ u : S, px u ∧ B E u t ∧ va_F A st t
section Runs
variable {p : Program} {l : Launch} {e : Env} {R : Room} {s : State} {m : MethodId} {args : Array Value} {below : List Frame} {meth : Method} {c : Code} {H : Heap} {locs : List Loc} {cells slots : Nat}
variable {y : MethodName} {bytes cc : ByteArray} {maxL nL mc ms n index : Nat} {ret : Option FieldType} {ws : List Cond} {rm : Room} {Pc : Array Value → State → Prop} {Qc : Array Value → State → Outcome → State → Prop} {XC : String → State → State → Prop} {free : Addr → Prop} {Ts : List Cond} {own C : String} {b : Addr} {As rest : List Value} {g : JFrame}
theorem vx_callBack (cb : CallB R s args own index y bytes maxL ret ws rm mc ms n) (hM : vx_Met l y ws rm Pc Qc XC mc ms free) (hbl : FrameBlind Pc) : vx_Back l R p e below s args y 3 8 (PreOf R mc ms Pc) (PostOf Qc mc ms free) (vx_Post XC mc ms free) := by
  obtain ⟨hrc, hrs, hfr, hlo, hws, hcw, -, hini, -⟩ := cb
  exact vx_back (bytes := bytes) (maxL := maxL) (ret := ret) hM hbl hrc hrs hfr hlo hws hcw (fun a' U hW => word_at hW (Or.inl (by first | rfl | simp [Cond.onTables, Cond.keeps, Cond.steady])) hini)
theorem vx_runV (S : CallFix p m c cc nL s args Ts own) (hM : vx_Met l y ws rm Pc Qc XC mc ms free) (cw : CallW R s args own C index y bytes maxL ret ws rm mc ms n) (hp : PreV s H C b Pc As)
    (hg : g.method = m) (hn : As.length = n) (hsize : g.locals.size = nL) (hstack : g.stack = As.reverse ++ .ref b :: rest) (hW : 2 * g.monitorRoom + (rest.map fun v => v.category).sum ≤ 8) (hdg : decode cc g.pc = .ok (.invokevirtual index, 3)) (hf : cells + mc ≤ R.cells ∧ slots + ms ≤ R.slots) :
    vx_Run p l e R s m args below meth c H locs cells slots mc ms g rest (Qc (Value.ref b :: As).toArray) XC free := by
  have hK : vx_Back l R p e below s args y 3 8 (PreOf R mc ms Pc) (PostOf Qc mc ms free) (vx_Post XC mc ms free) := vx_callBack cw.1 hM hp.1
  obtain ⟨⟨-, -, -, -, -, -, hcode, -, hy, hlen, hl⟩, hin, hse⟩ := cw
  obtain ⟨hx, hb, hml, ho, -⟩ := S
  obtain ⟨-, ⟨cellB, hcB, hoB, hclB⟩, hPc⟩ := hp
  intro T hT X
  rcases vx_callV X hx (C := C) (bytes := bytes) (maxL := maxL) (ret := ret) ho hl hin hse hcode hy hK (by rw [hT]; exact hcB) hoB hclB hg (hsize.trans hml.symm) (argsL := As) (rest := rest) (fun sig h => hn.trans (hlen sig h)) hstack hW (by rw [hb]; exact hdg)
    (fun vm₁ hW₁ => ⟨hf.1, hf.2, hPc (T.setVm vm₁) hT hW₁⟩) with ⟨v, vm₁, ⟨U', l2, c2, s2⟩, hW₁, X', ⟨g', mk, t, L, e1, e2, hq, h1, hL, h2, h3⟩, st⟩ | ⟨q, vm₁, ⟨U', l2, c2, s2⟩, hW₁, X', ⟨g', mk, t, L, E, ce, e1, e2, hq, hce, hcv, hcl, h1, hL, h2, h3⟩, st⟩
  · dsimp only [Pt.U, Pt.locs, Pt.cells, Pt.slots] at X' e1 e2 h1 h2 h3 st
    subst h1; subst h2; subst h3
    exact Or.inl ⟨v, (T.setVm vm₁).calling g' mk (Value.ref b :: As).toArray, t, U', L, hT, X', hL, e1, e2, hq, st⟩
  · dsimp only [Pt.U, Pt.locs, Pt.cells, Pt.slots] at X' e1 e2 h1 h2 h3 st hcl
    subst h1; subst h2; subst h3
    exact Or.inr ⟨q, (T.setVm vm₁).calling g' mk (Value.ref b :: As).toArray, t, U', L, E, ce, hT, X', hL, e1, e2, hq, hce, hcv, vx_cls hW₁ hcl, st⟩
theorem vx_runS (S : CallFix p m c cc nL s args Ts own) (hM : vx_Met l y ws rm Pc Qc XC mc ms free) (cw : CallB R s args own index y bytes maxL ret ws rm mc ms n ∧ (Cond.static y).before args s = true) (hp : PreS s H Pc As)
    (hg : g.method = m) (hn : As.length = n) (hsize : g.locals.size = nL) (hstack : g.stack = As.reverse ++ rest) (hW : 2 * g.monitorRoom + (rest.map fun v => v.category).sum ≤ 8) (hdg : decode cc g.pc = .ok (.invokestatic index, 3)) (hf : cells + mc ≤ R.cells ∧ slots + ms ≤ R.slots) :
    vx_Run p l e R s m args below meth c H locs cells slots mc ms g rest (Qc As.toArray) XC free := by
  have hK : vx_Back l R p e below s args y 3 8 (PreOf R mc ms Pc) (PostOf Qc mc ms free) (vx_Post XC mc ms free) := vx_callBack cw.1 hM hp.1
  obtain ⟨⟨-, -, -, -, -, -, hcode, hini, hy, hlen, hl⟩, hstt⟩ := cw
  obtain ⟨hx, hb, hml, ho, -⟩ := S
  intro T hT X
  rcases vx_callS X hx (bytes := bytes) (maxL := maxL) (ret := ret) ho hl hstt hini hcode hy hK hg (hsize.trans hml.symm) (argsL := As) (rest := rest) (fun sig h => hn.trans (hlen sig h)) hstack hW (by rw [hb]; exact hdg)
    (fun vm₁ hW₁ => ⟨hf.1, hf.2, hp.2 (T.setVm vm₁) hT hW₁⟩) with ⟨v, vm₁, ⟨U', l2, c2, s2⟩, hW₁, X', ⟨g', mk, t, L, e1, e2, hq, h1, hL, h2, h3⟩, st⟩ | ⟨q, vm₁, ⟨U', l2, c2, s2⟩, hW₁, X', ⟨g', mk, t, L, E, ce, e1, e2, hq, hce, hcv, hcl, h1, hL, h2, h3⟩, st⟩
  · dsimp only [Pt.U, Pt.locs, Pt.cells, Pt.slots] at X' e1 e2 h1 h2 h3 st
    subst h1; subst h2; subst h3
    exact Or.inl ⟨v, (T.setVm vm₁).calling g' mk As.toArray, t, U', L, hT, X', hL, e1, e2, hq, st⟩
  · dsimp only [Pt.U, Pt.locs, Pt.cells, Pt.slots] at X' e1 e2 h1 h2 h3 st hcl
    subst h1; subst h2; subst h3
    exact Or.inr ⟨q, (T.setVm vm₁).calling g' mk As.toArray, t, U', L, E, ce, hT, X', hL, e1, e2, hq, hce, hcv, vx_cls hW₁ hcl, st⟩
end Runs
section Rows
variable {p : Program} {l : Launch} {e : Env} {R : Room} {s : State} {m : MethodId} {args : Array Value} {below : List Frame} {meth : Method} {c : Code} {H : Heap} {locs : List Loc} {cells slots : Nat} {Q : State → Prop}
variable {mc ms : Nat} {free : Addr → Prop} {A0 A1 : Nat → Prop} {H0 : Heap} {a : Array Value} {pc : Nat} {ls : Array Slot} {st0 rest : List Value}
theorem vx_keep {st₀ t T' : State} {L : List Loc} (h0 : st₀.heap = H) (e1 : T'.heap = t.heap) (hS : va_S A0 H0 H locs) (hA : ∀ q, q < H.size → A1 q → A0 q) (hf : ∀ q, free q → A0 q) (hL : ∀ q ∈ L, free q.base) (hF : va_F A1 st₀ t) :
    H.size ≤ T'.heap.size ∧ (∀ q : Nat, q < H.size → ¬ A1 q → T'.heap[q]? = H[q]?) ∧ va_S A0 H0 T'.heap (locs ++ L) := by
  obtain ⟨hz, hk⟩ := hF
  rw [h0] at hz hk
  exact ⟨by rw [e1]; exact hz, fun q h1 h2 => by rw [e1]; exact hk q h1 h2,
    ⟨Nat.le_trans hS.1 (by rw [e1]; exact hz), fun q h1 h2 => by rw [e1, hk q (Nat.lt_of_lt_of_le h1 hS.1) (fun z => h2 (hA q (Nat.lt_of_lt_of_le h1 hS.1) z))]; exact hS.2.1 q h1 h2, fun q hq => by
      rcases List.mem_append.mp hq with h | h
      · exact hS.2.2 q h
      · exact hf _ (hL q h)⟩⟩
theorem vx_calli {S SX : Type} {post : Int32 → S → Prop} {px : SX → Prop} {B : S → State → Prop} {BX : String → SX → State → Prop} {AX : Nat → Prop} (hr : vx_Run p l e R s m args below meth c H locs cells slots mc ms (F0 m pc ls st0) rest (va_Qi post B A1 a) (vx_X px BX AX) free) (hS : va_S A0 H0 H locs) (hA : ∀ q, q < H.size → A1 q → A0 q) (hf : ∀ q, free q → A0 q) (hAX : ∀ q, q < H.size → AX q → A0 q)
    (kx : ∀ (E : String) (ce : Cell) (q9 : Addr) (u : SX) (t : State) (H1 : Heap) (locs1 : List Loc), t.heap = H1 → s.vm.Alike t.vm → px u → BX E u t → H.size ≤ H1.size → (∀ q : Nat, q < H.size → ¬ AX q → H1[q]? = H[q]?) → va_S A0 H0 H1 locs1 → H1[q9]? = some ce → ce.vm = .none → s.vm.findClass E = some ce.cls → vx_W p l e R s m args below meth c H1 locs1 (cells + mc) (slots + ms) Q (F0 m pc ls rest) q9)
    (kk : ∀ (r : Int32) (u : S) (t : State) (H1 : Heap) (locs1 : List Loc), t.heap = H1 → s.vm.Alike t.vm → post r u → B u t → H.size ≤ H1.size → (∀ q : Nat, q < H.size → ¬ A1 q → H1[q]? = H[q]?) → va_S A0 H0 H1 locs1 → W p l e R s m args below meth c H1 locs1 (cells + mc) (slots + ms) Q (F0 m (pc + 3) ls (.int r :: rest))) : W p l e R s m args below meth c H locs cells slots Q (F0 m pc ls st0) := by
  intro T hT X
  rcases hr T hT X with ⟨v, st₀, t, T', L, h0, X', hL, e1, e2, ⟨⟨r, u, hv, hp, hb⟩, hF⟩, st⟩ | ⟨q, st₀, t, T', L, E, ce, h0, X', hL, e1, e2, ⟨u, hp, hb, hF⟩, hce, hcv, hcl, st⟩
  · cases hv
    obtain ⟨k1, k2, k3⟩ := vx_keep h0 e1 hS hA hf hL hF
    obtain ⟨t2, a1, b1⟩ := kk r u t T'.heap (locs ++ L) e1.symm (by rw [← e2]; exact X'.warmed.alike) hp hb k1 k2 k3 T' rfl X'
    exact ⟨t2, st t2 a1, b1⟩
  · obtain ⟨k1, k2, k3⟩ := vx_keep h0 e1 hS hAX hf hL hF
    obtain ⟨t2, a1, b1⟩ := kx E ce q u t T'.heap (locs ++ L) e1.symm (by rw [← e2]; exact X'.warmed.alike) hp hb k1 k2 k3 (by rw [e1]; exact hce) hcv hcl T' rfl X'
    exact ⟨t2, st.trans a1, b1⟩
theorem vx_calll {S SX : Type} {post : Int64 → S → Prop} {px : SX → Prop} {B : S → State → Prop} {BX : String → SX → State → Prop} {AX : Nat → Prop} (hr : vx_Run p l e R s m args below meth c H locs cells slots mc ms (F0 m pc ls st0) rest (va_Ql post B A1 a) (vx_X px BX AX) free) (hS : va_S A0 H0 H locs) (hA : ∀ q, q < H.size → A1 q → A0 q) (hf : ∀ q, free q → A0 q) (hAX : ∀ q, q < H.size → AX q → A0 q)
    (kx : ∀ (E : String) (ce : Cell) (q9 : Addr) (u : SX) (t : State) (H1 : Heap) (locs1 : List Loc), t.heap = H1 → s.vm.Alike t.vm → px u → BX E u t → H.size ≤ H1.size → (∀ q : Nat, q < H.size → ¬ AX q → H1[q]? = H[q]?) → va_S A0 H0 H1 locs1 → H1[q9]? = some ce → ce.vm = .none → s.vm.findClass E = some ce.cls → vx_W p l e R s m args below meth c H1 locs1 (cells + mc) (slots + ms) Q (F0 m pc ls rest) q9)
    (kk : ∀ (r : Int64) (u : S) (t : State) (H1 : Heap) (locs1 : List Loc), t.heap = H1 → s.vm.Alike t.vm → post r u → B u t → H.size ≤ H1.size → (∀ q : Nat, q < H.size → ¬ A1 q → H1[q]? = H[q]?) → va_S A0 H0 H1 locs1 → W p l e R s m args below meth c H1 locs1 (cells + mc) (slots + ms) Q (F0 m (pc + 3) ls (.long r :: rest))) : W p l e R s m args below meth c H locs cells slots Q (F0 m pc ls st0) := by
  intro T hT X
  rcases hr T hT X with ⟨v, st₀, t, T', L, h0, X', hL, e1, e2, ⟨⟨r, u, hv, hp, hb⟩, hF⟩, st⟩ | ⟨q, st₀, t, T', L, E, ce, h0, X', hL, e1, e2, ⟨u, hp, hb, hF⟩, hce, hcv, hcl, st⟩
  · cases hv
    obtain ⟨k1, k2, k3⟩ := vx_keep h0 e1 hS hA hf hL hF
    obtain ⟨t2, a1, b1⟩ := kk r u t T'.heap (locs ++ L) e1.symm (by rw [← e2]; exact X'.warmed.alike) hp hb k1 k2 k3 T' rfl X'
    exact ⟨t2, st t2 a1, b1⟩
  · obtain ⟨k1, k2, k3⟩ := vx_keep h0 e1 hS hAX hf hL hF
    obtain ⟨t2, a1, b1⟩ := kx E ce q u t T'.heap (locs ++ L) e1.symm (by rw [← e2]; exact X'.warmed.alike) hp hb k1 k2 k3 (by rw [e1]; exact hce) hcv hcl T' rfl X'
    exact ⟨t2, st.trans a1, b1⟩
theorem vx_callf {S SX : Type} {post : UInt32 → S → Prop} {px : SX → Prop} {B : S → State → Prop} {BX : String → SX → State → Prop} {AX : Nat → Prop} (hr : vx_Run p l e R s m args below meth c H locs cells slots mc ms (F0 m pc ls st0) rest (va_Qf post B A1 a) (vx_X px BX AX) free) (hS : va_S A0 H0 H locs) (hA : ∀ q, q < H.size → A1 q → A0 q) (hf : ∀ q, free q → A0 q) (hAX : ∀ q, q < H.size → AX q → A0 q)
    (kx : ∀ (E : String) (ce : Cell) (q9 : Addr) (u : SX) (t : State) (H1 : Heap) (locs1 : List Loc), t.heap = H1 → s.vm.Alike t.vm → px u → BX E u t → H.size ≤ H1.size → (∀ q : Nat, q < H.size → ¬ AX q → H1[q]? = H[q]?) → va_S A0 H0 H1 locs1 → H1[q9]? = some ce → ce.vm = .none → s.vm.findClass E = some ce.cls → vx_W p l e R s m args below meth c H1 locs1 (cells + mc) (slots + ms) Q (F0 m pc ls rest) q9)
    (kk : ∀ (r : UInt32) (u : S) (t : State) (H1 : Heap) (locs1 : List Loc), t.heap = H1 → s.vm.Alike t.vm → post r u → B u t → H.size ≤ H1.size → (∀ q : Nat, q < H.size → ¬ A1 q → H1[q]? = H[q]?) → va_S A0 H0 H1 locs1 → W p l e R s m args below meth c H1 locs1 (cells + mc) (slots + ms) Q (F0 m (pc + 3) ls (.float r :: rest))) : W p l e R s m args below meth c H locs cells slots Q (F0 m pc ls st0) := by
  intro T hT X
  rcases hr T hT X with ⟨v, st₀, t, T', L, h0, X', hL, e1, e2, ⟨⟨r, u, hv, hp, hb⟩, hF⟩, st⟩ | ⟨q, st₀, t, T', L, E, ce, h0, X', hL, e1, e2, ⟨u, hp, hb, hF⟩, hce, hcv, hcl, st⟩
  · cases hv
    obtain ⟨k1, k2, k3⟩ := vx_keep h0 e1 hS hA hf hL hF
    obtain ⟨t2, a1, b1⟩ := kk r u t T'.heap (locs ++ L) e1.symm (by rw [← e2]; exact X'.warmed.alike) hp hb k1 k2 k3 T' rfl X'
    exact ⟨t2, st t2 a1, b1⟩
  · obtain ⟨k1, k2, k3⟩ := vx_keep h0 e1 hS hAX hf hL hF
    obtain ⟨t2, a1, b1⟩ := kx E ce q u t T'.heap (locs ++ L) e1.symm (by rw [← e2]; exact X'.warmed.alike) hp hb k1 k2 k3 (by rw [e1]; exact hce) hcv hcl T' rfl X'
    exact ⟨t2, st.trans a1, b1⟩
theorem vx_calld {S SX : Type} {post : UInt64 → S → Prop} {px : SX → Prop} {B : S → State → Prop} {BX : String → SX → State → Prop} {AX : Nat → Prop} (hr : vx_Run p l e R s m args below meth c H locs cells slots mc ms (F0 m pc ls st0) rest (va_Qd post B A1 a) (vx_X px BX AX) free) (hS : va_S A0 H0 H locs) (hA : ∀ q, q < H.size → A1 q → A0 q) (hf : ∀ q, free q → A0 q) (hAX : ∀ q, q < H.size → AX q → A0 q)
    (kx : ∀ (E : String) (ce : Cell) (q9 : Addr) (u : SX) (t : State) (H1 : Heap) (locs1 : List Loc), t.heap = H1 → s.vm.Alike t.vm → px u → BX E u t → H.size ≤ H1.size → (∀ q : Nat, q < H.size → ¬ AX q → H1[q]? = H[q]?) → va_S A0 H0 H1 locs1 → H1[q9]? = some ce → ce.vm = .none → s.vm.findClass E = some ce.cls → vx_W p l e R s m args below meth c H1 locs1 (cells + mc) (slots + ms) Q (F0 m pc ls rest) q9)
    (kk : ∀ (r : UInt64) (u : S) (t : State) (H1 : Heap) (locs1 : List Loc), t.heap = H1 → s.vm.Alike t.vm → post r u → B u t → H.size ≤ H1.size → (∀ q : Nat, q < H.size → ¬ A1 q → H1[q]? = H[q]?) → va_S A0 H0 H1 locs1 → W p l e R s m args below meth c H1 locs1 (cells + mc) (slots + ms) Q (F0 m (pc + 3) ls (.double r :: rest))) : W p l e R s m args below meth c H locs cells slots Q (F0 m pc ls st0) := by
  intro T hT X
  rcases hr T hT X with ⟨v, st₀, t, T', L, h0, X', hL, e1, e2, ⟨⟨r, u, hv, hp, hb⟩, hF⟩, st⟩ | ⟨q, st₀, t, T', L, E, ce, h0, X', hL, e1, e2, ⟨u, hp, hb, hF⟩, hce, hcv, hcl, st⟩
  · cases hv
    obtain ⟨k1, k2, k3⟩ := vx_keep h0 e1 hS hA hf hL hF
    obtain ⟨t2, a1, b1⟩ := kk r u t T'.heap (locs ++ L) e1.symm (by rw [← e2]; exact X'.warmed.alike) hp hb k1 k2 k3 T' rfl X'
    exact ⟨t2, st t2 a1, b1⟩
  · obtain ⟨k1, k2, k3⟩ := vx_keep h0 e1 hS hAX hf hL hF
    obtain ⟨t2, a1, b1⟩ := kx E ce q u t T'.heap (locs ++ L) e1.symm (by rw [← e2]; exact X'.warmed.alike) hp hb k1 k2 k3 (by rw [e1]; exact hce) hcv hcl T' rfl X'
    exact ⟨t2, st.trans a1, b1⟩
theorem vx_callv {S SX : Type} {post : S → Prop} {px : SX → Prop} {B : S → State → Prop} {BX : String → SX → State → Prop} {AX : Nat → Prop} (hr : vx_Run p l e R s m args below meth c H locs cells slots mc ms (F0 m pc ls st0) rest (va_Qv post B A1 a) (vx_X px BX AX) free) (hS : va_S A0 H0 H locs) (hA : ∀ q, q < H.size → A1 q → A0 q) (hf : ∀ q, free q → A0 q) (hAX : ∀ q, q < H.size → AX q → A0 q)
    (kx : ∀ (E : String) (ce : Cell) (q9 : Addr) (u : SX) (t : State) (H1 : Heap) (locs1 : List Loc), t.heap = H1 → s.vm.Alike t.vm → px u → BX E u t → H.size ≤ H1.size → (∀ q : Nat, q < H.size → ¬ AX q → H1[q]? = H[q]?) → va_S A0 H0 H1 locs1 → H1[q9]? = some ce → ce.vm = .none → s.vm.findClass E = some ce.cls → vx_W p l e R s m args below meth c H1 locs1 (cells + mc) (slots + ms) Q (F0 m pc ls rest) q9)
    (kk : ∀ (u : S) (t : State) (H1 : Heap) (locs1 : List Loc), t.heap = H1 → s.vm.Alike t.vm → post u → B u t → H.size ≤ H1.size → (∀ q : Nat, q < H.size → ¬ A1 q → H1[q]? = H[q]?) → va_S A0 H0 H1 locs1 → W p l e R s m args below meth c H1 locs1 (cells + mc) (slots + ms) Q (F0 m (pc + 3) ls (rest))) : W p l e R s m args below meth c H locs cells slots Q (F0 m pc ls st0) := by
  intro T hT X
  rcases hr T hT X with ⟨v, st₀, t, T', L, h0, X', hL, e1, e2, ⟨⟨u, hv, hp, hb⟩, hF⟩, st⟩ | ⟨q, st₀, t, T', L, E, ce, h0, X', hL, e1, e2, ⟨u, hp, hb, hF⟩, hce, hcv, hcl, st⟩
  · cases hv
    obtain ⟨k1, k2, k3⟩ := vx_keep h0 e1 hS hA hf hL hF
    obtain ⟨t2, a1, b1⟩ := kk u t T'.heap (locs ++ L) e1.symm (by rw [← e2]; exact X'.warmed.alike) hp hb k1 k2 k3 T' rfl X'
    exact ⟨t2, st t2 a1, b1⟩
  · obtain ⟨k1, k2, k3⟩ := vx_keep h0 e1 hS hAX hf hL hF
    obtain ⟨t2, a1, b1⟩ := kx E ce q u t T'.heap (locs ++ L) e1.symm (by rw [← e2]; exact X'.warmed.alike) hp hb k1 k2 k3 (by rw [e1]; exact hce) hcv hcl T' rfl X'
    exact ⟨t2, st.trans a1, b1⟩
/-- caught by the row x of this method's table; the rows ahead don't take it -/
theorem vx_catch {own name : String} {E : String} {ce : Cell} {q : Addr} (hown : s.vm.findClass own = some m.cls) (pre : List ExceptionTableEntry) (x : ExceptionTableEntry) (suf : List ExceptionTableEntry) (hsplit : c.exceptionTable.toList = pre ++ x :: suf)
    (hpass : ∀ z ∈ pre, covers z pc = false ∨ (z.catchType ≠ 0 ∧ ∃ nm : String, (Cond.classLink own z.catchType nm).before args s = true ∧ va_Nc E nm s)) (hx : covers x pc = true) (h0 : x.catchType ≠ 0)
    (hlink : (Cond.classLink own x.catchType name).before args s = true) (hcast : (Cond.castable E name).before args s = true) (hcell : H[q]? = some ce) (hv : ce.vm = .none) (hcl : s.vm.findClass E = some ce.cls)
    (kk : W p l e R s m args below meth c H locs cells slots Q (F0 m x.handlerPc ls [.ref q])) : vx_W p l e R s m args below meth c H locs cells slots Q (F0 m pc ls rest) q := by
  intro T hT X
  have hpl : e.platform.magicAccessors = ({} : Platform).magicAccessors := by rw [X.admits.platform]
  obtain ⟨c3, c4, hc3, hc4, hasg⟩ := Cond.castable_spec hcast
  cases Option.some.inj (hc3.symm.trans hcl)
  obtain ⟨c5, hc5, hcl5⟩ := Cond.classLink_spec hown hlink e.platform hpl
  cases Option.some.inj (hc4.symm.trans hc5)
  obtain ⟨vm', X', st⟩ := X.thenCaughtThrough q (g := F0 m pc ls rest) rfl (Steps.refl _) (by rw [hT]; exact hcell) (by rw [hv]; rfl) (by obtain ⟨k9, h9, -⟩ := Vm.findClass_spec hcl; exact ⟨k9, h9⟩) pre x suf hsplit
    (fun z hz => by
      rcases hpass z hz with h | ⟨hz0, nm, hl1, hn1⟩
      · exact Or.inl h
      · obtain ⟨c6, hc6, hcl6⟩ := Cond.classLink_spec hown hl1 e.platform hpl
        obtain ⟨a8, b8, h1, h2, h3⟩ := hn1
        cases Option.some.inj (h1.symm.trans hcl)
        cases Option.some.inj (h2.symm.trans hc6)
        exact Or.inr ⟨hz0, _, hcl6, h3⟩) hx (Or.inr ⟨h0, c4, hcl5, hasg⟩)
  obtain ⟨t, a1, b1⟩ := kk (T.setVm vm') hT X'
  exact ⟨t, st.trans a1, b1⟩
end Rows
section Ends
variable {p : Program} {l : Launch} {e : Env} {R : Room} {s : State} {m : MethodId} {args : Array Value} {below : List Frame} {meth : Method} {c : Code} {H : Heap} {locs : List Loc} {cells slots : Nat} {Q : State → Prop}
variable {mc ms : Nat} {free : Addr → Prop} {A0 A1 : Nat → Prop} {H0 : Heap} {a : Array Value} {ls : Array Slot} {st0 rest : List Value}
variable {Qc : Array Value → State → Outcome → State → Prop} {XC : String → State → State → Prop}
/-- what a body that may throw owes at its end -/
def vx_MQ (below : List Frame) (Qc : Array Value → State → Outcome → State → Prop) (XC : String → State → State → Prop) (a : Array Value) (s : State) (mc ms : Nat) (free : Addr → Prop) : State → Prop := fun t =>
  ∃ o, t.status = .running ∧ Ended t below o ∧ vx_Q Qc XC mc ms free a s o t
theorem vx_ret {g : JFrame} {mc ms : Nat} (k : W p l e R s m args below meth c H locs cells slots (MQ below Qc args s mc ms free) g) : W p l e R s m args below meth c H locs cells slots (vx_MQ below Qc XC args s mc ms free) g := by
  intro T hT X
  obtain ⟨t, a1, o, b1, b2, b3, b4⟩ := k T hT X
  exact ⟨t, a1, o, b1, b2, Or.inl ⟨b3, b4⟩⟩
/-- not caught here: it goes on to the caller -/
theorem vx_widen {g : JFrame} {q : Addr} {k n : Nat} (h1 : cells ≤ k) (h2 : slots ≤ n) (kk : vx_W p l e R s m args below meth c H locs k n Q g q) : vx_W p l e R s m args below meth c H locs cells slots Q g q := fun T hT X => kk T hT (stand_widen X h1 h2)
theorem vx_out {pc : Nat} {E : String} {ce : Cell} {q : Addr} {mc ms : Nat} (hout : ∀ x ∈ c.exceptionTable.toList, covers x pc = false) (hlocks : meth.locks = false) (hcell : H[q]? = some ce) (hv : ce.vm = .none) (hcl : s.vm.findClass E = some ce.cls)
    (hx : ∀ t : State, t.heap = H → s.vm.Alike t.vm → XC E s t) (hf : ∀ z ∈ locs, free z.base) (hc : cells ≤ mc) (hs : slots ≤ ms) :
    vx_W p l e R s m args below meth c H locs cells slots (vx_MQ below Qc XC args s mc ms free) (F0 m pc ls rest) q := by
  intro T hT X
  obtain ⟨st1, hrun, hend, hW, hsm⟩ := X.leaveThrown q (g := F0 m pc ls rest) rfl rfl rfl hout hlocks
  have hcell9 : (T.setFrames (.throwing q :: below)).heap[q]? = some ce := by
    show T.heap[q]? = some ce
    rw [hT]; exact hcell
  exact ⟨_, st1, .threw q, hrun, hend, Or.inr ⟨q, rfl, E, ce, locs, hx _ hT hW.alike, hcell9, hv, hcl, hW, hsm.mono hc hs, hf⟩⟩
theorem vx_frame {U : State} {k n : Nat} (h : s.sameButNew ({ U with vm := s.vm } : State) locs k n) : s.heap.size ≤ U.heap.size ∧ ∀ q : Nat, q < s.heap.size → (∀ z ∈ locs, z.base ≠ q) → U.heap[q]? = s.heap[q]? := by
  obtain ⟨-, h2, -, -, -, h6⟩ := h
  refine ⟨h2, fun q hq hz => ?_⟩
  obtain ⟨c9, e1, e2, e3, e4⟩ := h6 q _ (Array.getElem?_eq_getElem hq)
  have hs : c9.slots = (s.heap[q]).slots := Array.ext_getElem? fun i => e4 i fun hm => hz _ hm rfl
  have h9 : c9 = s.heap[q] := by
    rw [hs] at e2
    exact e2
  have e5 : U.heap[q]? = some c9 := e1
  rw [e5, h9, Array.getElem?_eq_getElem hq]
/-- the words of a throw but the four that speak of the heap -/
def vx_no (w : Cond) : Bool := decide (w ≠ .isRef (.static Bundle.tN "UNASSIGNED_STACK" Bundle.steD)) && decide (w ≠ .isRef (.static Bundle.tN "SUPPRESSED_SENTINEL" Bundle.listD)) && decide (w ≠ .laysStatic Bundle.tN "UNASSIGNED_STACK" Bundle.steD) && decide (w ≠ .laysStatic Bundle.tN "SUPPRESSED_SENTINEL" Bundle.listD)
def vx_at0 (own : String) (ic : Nat) (X : String) (names : List String) : List Cond := (Bundle.ownAtoms0 own ic X names).filter vx_no
def vx_atS (own : String) (ic : Nat) (X : String) (names : List String) : List Cond := (Bundle.ownAtoms own ic X names).filter vx_no
/-- a word that the tables alone decide, or a good one -/
def vx_ot (w : Cond) : Bool := w.onTables || goodWord w
theorem vx_ot_at {args a' : Array Value} {s U : State} {w : Cond} (hW : s.WarmedH U.vm) (hvm : s.vm = U.vm) (hg : vx_ot w = true) (h : w.before args s = true) : w.before a' U = true := by
  simp only [vx_ot, Bool.or_eq_true] at hg
  rcases hg with hg | hg
  · exact va_tabs hg hvm h
  · exact word_at hW (good_of_word hg) h
/-- a list's words: the good ones out of the method's own list, the others by premises of their own -/
theorem vx_hat {args : Array Value} {s : State} {L B : List Cond} (h1 : ∀ w ∈ L.filter goodWord, w.before args s = true) (h2 : ∀ w ∈ L.filter (fun w => !goodWord w), w ∈ B) (h3 : ∀ w ∈ B, w.before args s = true) : ∀ w ∈ L, w.before args s = true := by
  intro w hw
  by_cases g : goodWord w = true
  · exact h1 w (List.mem_filter.mpr ⟨hw, g⟩)
  · refine h3 w (h2 w (List.mem_filter.mpr ⟨hw, ?_⟩))
    show (!goodWord w) = true
    cases hgw : goodWord w
    · rfl
    · exact absurd hgw g
theorem vx_c {args : Array Value} {s : State} {w : Cond} {B : List Cond} (h : w.before args s = true) (t : ∀ w ∈ B, w.before args s = true) : ∀ w' ∈ w :: B, w'.before args s = true := fun w' h' => (List.mem_cons.mp h').elim (fun e => by rw [e]; exact h) (t w')
theorem vx_n {args : Array Value} {s : State} : ∀ w ∈ ([] : List Cond), w.before args s = true := fun _ h => nomatch h
theorem vx_own {args : Array Value} {s : State} {L : List Cond} (h1 : ∀ w ∈ L.filter vx_no, w.before args s = true)
    (hU : (Cond.isRef (.static Bundle.tN "UNASSIGNED_STACK" Bundle.steD)).before args s = true) (hN : (Cond.isRef (.static Bundle.tN "SUPPRESSED_SENTINEL" Bundle.listD)).before args s = true)
    (lU : (Cond.laysStatic Bundle.tN "UNASSIGNED_STACK" Bundle.steD).before args s = true) (lN : (Cond.laysStatic Bundle.tN "SUPPRESSED_SENTINEL" Bundle.listD).before args s = true) : ∀ w ∈ L, w.before args s = true := by
  intro w hw
  by_cases e1 : w = .isRef (.static Bundle.tN "UNASSIGNED_STACK" Bundle.steD)
  · rw [e1]; exact hU
  · by_cases e2 : w = .isRef (.static Bundle.tN "SUPPRESSED_SENTINEL" Bundle.listD)
    · rw [e2]; exact hN
    · by_cases e3 : w = .laysStatic Bundle.tN "UNASSIGNED_STACK" Bundle.steD
      · rw [e3]; exact lU
      · by_cases e4 : w = .laysStatic Bundle.tN "SUPPRESSED_SENTINEL" Bundle.listD
        · rw [e4]; exact lN
        · exact h1 w (List.mem_filter.mpr ⟨hw, by unfold vx_no; rw [decide_eq_true e1, decide_eq_true e2, decide_eq_true e3, decide_eq_true e4]; rfl⟩)
/-- where a static field lies, its class's statics cell in H -/
def vx_L (C n d : String) (A : Nat → Prop) (U : State) (H : Heap) : Prop := ∃ (c : ClassId) (k : Class) (i : Nat) (f : Field) (a : Nat) (cell : Cell), U.vm.findClass C = some c ∧ U.fieldFound? C n d = some (c, k, i, f) ∧ f.isStatic = true ∧ k.statics = some a ∧ H[a]? = some cell ∧ cell.vm.isStatics = true ∧ cell.cls = c ∧ f.slot < cell.slots.size ∧ k.staticTypes[f.slot]? = some f.type ∧ ¬ A a
theorem vx_L.moved {C n d : String} {A : Nat → Prop} {u U : State} {H : Heap} (hvm : u.vm.Alike U.vm) (h : vx_L C n d A u H) : vx_L C n d A U H := by
  obtain ⟨c, k, i, f, a, cell, h1, h2, h3, h4, h5, h6, h7, h8, h9, h10⟩ := h
  obtain ⟨k', hi', he⟩ := State.fieldFound?_setVm hvm h2
  exact ⟨c, k', i, f, a, cell, by rw [hvm.findClass]; exact h1, hi', h3, by rw [he]; exact h4, h5, h6, h7, h8, by rw [he]; exact h9, h10⟩
theorem vx_L.kept {C n d : String} {A : Nat → Prop} {U : State} {H H1 : Heap} (h : vx_L C n d A U H) (hq : ∀ a : Nat, a < H.size → ¬ A a → H1[a]? = H[a]?) : vx_L C n d A U H1 := by
  obtain ⟨c, k, i, f, a, cell, h1, h2, h3, h4, h5, h6, h7, h8, h9, h10⟩ := h
  exact ⟨c, k, i, f, a, cell, h1, h2, h3, h4, by rw [hq a (Array.getElem?_eq_some_iff.mp h5).1 h10]; exact h5, h6, h7, h8, h9, h10⟩
theorem vx_L.narrow {C n d : String} {A B : Nat → Prop} {U : State} {H : Heap} (h : vx_L C n d A U H) (hAB : ∀ q, B q → A q) : vx_L C n d B U H := by
  obtain ⟨c, k, i, f, a, cell, h1, h2, h3, h4, h5, h6, h7, h8, h9, h10⟩ := h
  exact ⟨c, k, i, f, a, cell, h1, h2, h3, h4, h5, h6, h7, h8, h9, fun z => h10 (hAB _ z)⟩
theorem vx_L.word {C n d : String} {A : Nat → Prop} {s : State} {args : Array Value} (h : vx_L C n d A s s.heap) : (Cond.laysStatic C n d).before args s = true := by
  obtain ⟨c, k, i, f, a, cell, h1, h2, h3, h4, h5, h6, h7, h8, h9, -⟩ := h
  show (Cond.laysStatic C n d).holds args s none s [] = true
  exact Cond.laysStatic_of h1 h2 h3 h4 h5 h6 h7 h8 h9
/-- .. and what it holds: null or some reference -/
def vx_Zq (C n d : String) (A : Nat → Prop) (U : State) (H : Heap) : Prop := va_Zq C n d A U H ∧ vx_L C n d A U H
theorem vx_Zq.moved {C n d : String} {A : Nat → Prop} {u U : State} {H : Heap} (hvm : u.vm.Alike U.vm) (h : vx_Zq C n d A u H) : vx_Zq C n d A U H := ⟨va_Zq.moved hvm h.1, vx_L.moved hvm h.2⟩
theorem vx_Zq.kept {C n d : String} {A : Nat → Prop} {U : State} {H H1 : Heap} (h : vx_Zq C n d A U H) (hq : ∀ a : Nat, a < H.size → ¬ A a → H1[a]? = H[a]?) : vx_Zq C n d A U H1 := ⟨va_Zq.kept h.1 hq, vx_L.kept h.2 hq⟩
theorem vx_Zq.narrow {C n d : String} {A B : Nat → Prop} {U : State} {H : Heap} (h : vx_Zq C n d A U H) (hAB : ∀ q, B q → A q) : vx_Zq C n d B U H := ⟨va_Zq.narrow h.1 hAB, vx_L.narrow h.2 hAB⟩
theorem vx_Zqof {args : Array Value} {s : State} {C n d : String} {A : Nat → Prop} (hl : (Cond.laysStatic C n d).before args s = true) (hini : (Cond.initialized C).before args s = true) (h : (Cond.isRef (.static C n d)).before args s = true) (hA : ∀ a : Nat, a < s.heap.size → ¬ A a) : vx_Zq C n d A s s.heap := by
  refine ⟨va_Zqof hl hini h hA, ?_⟩
  obtain ⟨c, k, i, f, a, cell, h1, h2, h3, h4, h5, h6, h7, h8, h9⟩ := Cond.laysStatic_spec hl
  exact ⟨c, k, i, f, a, cell, h1, h2, h3, h4, h5, h6, h7, h8, h9, hA a (Array.getElem?_eq_some_iff.mp h5).1⟩
theorem vx_isRef {C n d : String} {v : Value} {A : Nat → Prop} {s : State} {args : Array Value} (h : va_Z C n d v A s s.heap) (hv : v.isRef = true) : (Cond.isRef (.static C n d)).before args s = true := by
  obtain ⟨cf, kf, fi, f, a, cell, h1, h2, h3, h4, h5, h6, h7, -⟩ := h
  have he : (Term.static C n d).eval args s none [] s = some v := by
    simp [Term.eval, State.fieldNamed?, h1, h2, h4, h5, h6, h7]
  simp only [Cond.before, Cond.holds, Cond.value, he]
  cases v <;> simp_all [Value.isRef]
theorem vx_isRefq {C n d : String} {A : Nat → Prop} {s : State} {args : Array Value} (h : va_Zq C n d A s s.heap) : (Cond.isRef (.static C n d)).before args s = true := by
  rcases h with h | ⟨t, h⟩
  · exact vx_isRef h rfl
  · exact vx_isRef h rfl
/-- the same frame, seen from here: as if the method were called anew in this heap -/
theorem vx_rebase {T : State} (X : Stand p l e R s m args below meth c T locs cells slots) {R' : Room} (hf : R'.frames ≤ R.frames) (hl : R'.locals ≤ R.locals) (hc : cells + R'.cells ≤ R.cells) (hs : slots + R'.slots ≤ R.slots) :
    Stand p l e R' ((T.setVm s.vm).setFrames (.invoking m args :: below)) m args below meth c T [] 0 0 := by
  have htop : (T.setVm s.vm).topJava?.isSome := X.here.top
  have hF : ((T.setVm s.vm).setFrames (.invoking m args :: below)).frames = .invoking m args :: below := State.frames_setFrames _ (State.cur_lt_of_top htop)
  obtain ⟨g₀, hg0⟩ := Option.isSome_iff_exists.mp htop
  obtain ⟨r, hr⟩ := State.topJava?_eq_some.mp hg0
  have hl9 : e.platform.stackLimits (T.setVm s.vm).me = e.platform.stackLimits s.me := X.limits
  have hb9 : (T.setVm s.vm).me.stackBytes = s.me.stackBytes := X.bytes
  refine ⟨X.admits, X.cas, X.clock, hF, ?_, X.hears, X.method, X.code, X.here, X.tail, X.warmed, ?_, ?_, ?_⟩
  · have h := X.room
    have hU : ((T.setVm s.vm).setFrames (.invoking m args :: below)).localsInUse = s.localsInUse := by
      rw [State.localsInUse_invoking hF (meth := meth) (c := c) X.method X.code, State.localsInUse_invoking X.frames X.method X.code]
    simp only [State.hasRoom, Bool.and_eq_true, decide_eq_true_eq] at h ⊢
    obtain ⟨⟨⟨⟨h1, h2, h3, h4, h5, h6⟩, h7⟩, h8⟩, h9⟩ := h
    rw [X.frames, List.length_cons] at h2 h3
    have q1 := X.heapSize
    have q2 := X.used
    simp only [hF, hU, List.length_cons, State.stackLimits_setFrames, State.stackBytes_setFrames, hl9, hb9]
    refine ⟨⟨⟨⟨by omega, by omega, by omega, by omega, by omega, h6⟩, ?_⟩, ?_⟩, X.book⟩
    · show T.heap.size + R'.cells ≤ e.platform.maxCells
      omega
    · show T.slotsUsed + R'.slots ≤ e.platform.maxSlots
      omega
  · rw [State.stackLimits_setFrames]; rfl
  · rw [State.stackBytes_setFrames]; rfl
  · refine ⟨?_, Nat.le_refl _, Nat.le_refl _, ?_, ?_, fun a c9 h9 => ⟨c9, h9, rfl, rfl, fun _ _ => rfl⟩⟩
    · obtain ⟨t, ht, -⟩ := State.frames_cons hr
      show T.setVm s.vm = { ((T.setVm s.vm).setFrames (.invoking m args :: below)).setFrames (T.setVm s.vm).frames with heap := T.heap, slotsUsed := T.slotsUsed }
      rw [State.setFrames_setFrames, State.setFrames_self ht]
      rfl
    · show T.slotsUsed = T.slotsUsed + ((T.heap.toList.drop T.heap.size).map (·.slots.size)).sum
      rw [List.drop_eq_nil_of_le (Nat.le_of_eq Array.length_toList)]
      rfl
    · show ((T.heap.toList.drop T.heap.size).map (·.slots.size)).sum ≤ 0
      rw [List.drop_eq_nil_of_le (Nat.le_of_eq Array.length_toList)]
      exact Nat.le_refl _
/-- 'throw new E()': new; dup; invokespecial; athrow -/
theorem vx_throw0 {cc : ByteArray} {pc : Nat} (hexec : p.tables.exec = Jvm.exec) (hb : c.code = cc) (hl : l.stackTraces = false) {own cls : String} {names : List String} {ik ic mc ms : Nat} {A : Nat → Prop}
    (hown : s.vm.findClass own = some m.cls) (hcls : Bundle.fit cls = true) (hnames : ∀ n ∈ names, Bundle.fit n = true)
    (hk : (Cond.classLink own ik cls).before args s = true) (hini : (Cond.initialized cls).before args s = true) (hat : ∀ w ∈ vx_at0 own ic cls names, w.before args s = true)
    (hgood : ∀ w ∈ Cond.classLink own ik cls :: Cond.initialized cls :: vx_at0 own ic cls names, vx_ot w = true)
    (hU : vx_Zq Bundle.tN "UNASSIGNED_STACK" Bundle.steD A s s.heap) (hN : vx_Zq Bundle.tN "SUPPRESSED_SENTINEL" Bundle.listD A s s.heap) (hS : va_S A s.heap H locs) (hsize : ls.size = c.maxLocals)
    (d0 : decode cc pc = .ok (.new ik, 3)) (d3 : decode cc (pc + 3) = .ok (.dup, 1)) (d4 : decode cc (pc + 4) = .ok (.invokespecial ic, 3)) (d7 : decode cc (pc + 7) = .ok (.athrow, 1))
    (hout : ∀ x ∈ c.exceptionTable.toList, covers x (pc + 7) = false)
    (hRframes : names.length + 3 < R.frames) (hRlocals : (rest.map fun v => v.category).sum + (13 * (names.length + 1) + 42) ≤ R.locals) (hRcells : cells + 1 ≤ R.cells) (hRslots : slots + 6 ≤ R.slots) (hlocks : meth.locks = false)
    (hx : ∀ t : State, s.vm.Alike t.vm → H.size ≤ t.heap.size → (∀ q : Nat, q < H.size → t.heap[q]? = H[q]?) → XC cls s t)
    (hf : ∀ z ∈ locs, free z.base) (hc : cells + 1 ≤ mc) (hs : slots + 6 ≤ ms) :
    W p l e R s m args below meth c H locs cells slots (vx_MQ below Qc XC args s mc ms free) (F0 m pc ls rest) := by
  intro T hT X
  have htr : e.platform.stackTraces = false := (show e.platform.stackTraces = l.stackTraces by rw [X.admits.platform]).trans hl
  have Y := vx_rebase X (R' := { frames := R.frames, locals := R.locals, cells := 1, slots := 6 }) (Nat.le_refl _) (Nat.le_refl _) hRcells hRslots
  obtain ⟨s', hA⟩ : ∃ z, z = (T.setVm s.vm).setFrames (.invoking m args :: below) := ⟨_, rfl⟩
  rw [← hA] at Y
  have hvm : s'.vm = s.vm := by rw [hA]; rfl
  have hhp : s'.heap = H := by rw [hA]; exact hT
  have hW0 : s.WarmedH s'.vm := by rw [hvm]; exact State.WarmedH.refl s
  have hat' : ∀ w ∈ vx_at0 own ic cls names, w.before args s' = true := fun w hw => vx_ot_at hW0 hvm.symm (hgood w (List.mem_cons_of_mem _ (List.mem_cons_of_mem _ hw))) (hat w hw)
  have hk' : (Cond.classLink own ik cls).before args s' = true := vx_ot_at hW0 hvm.symm (hgood _ List.mem_cons_self) hk
  have hini' : (Cond.initialized cls).before args s' = true := vx_ot_at hW0 hvm.symm (hgood _ (List.mem_cons_of_mem _ List.mem_cons_self)) hini
  have hU' : vx_Zq Bundle.tN "UNASSIGNED_STACK" Bundle.steD A s' s'.heap := by rw [hhp]; exact vx_Zq.moved hW0.alike (hU.kept hS.2.1)
  have hN' : vx_Zq Bundle.tN "SUPPRESSED_SENTINEL" Bundle.listD A s' s'.heap := by rw [hhp]; exact vx_Zq.moved hW0.alike (hN.kept hS.2.1)
  have h : ∀ w ∈ Bundle.ownAtoms0 own ic cls names, w.before args s' = true := vx_own hat' (vx_isRefq hU'.1) (vx_isRefq hN'.1) hU'.2.word hN'.2.word
  have hown' : s'.vm.findClass own = some m.cls := by rw [hvm]; exact hown
  have hins : (Cond.instantiable cls 6).before args s' = true := h _ (by simp [Bundle.ownAtoms0])
  obtain ⟨vm₁, cX, kX, hfX, hkX, -, -, X₁, st1⟩ := Y.newCold hexec (own := own) (C := cls) (index := ik) (n := 6) hown' hk' hins hini'
    (g := F0 m pc ls rest) rfl (by rw [hb]; exact d0) (Nat.le_refl _) (Nat.le_refl _)
  generalize hT1 : (T.setVm vm₁).pushCell { cls := cX, slots := kX.instanceTypes.map defaultValue, vm := .none } = T1 at X₁ st1
  have hcat : (Value.ref T.heap.size).category = 1 := rfl
  have hcellA : T1.heap[T.heap.size]? = some (freshCell cX kX) := by rw [← hT1]; exact State.heap_pushCell_size _ _
  have d3' : decode c.code (pc + 3) = .ok (.dup, 1) := by rw [hb]; exact d3
  obtain ⟨U, hsteps, hrun, hend, hW, hsame, ce, hce, hO⟩ := X₁.ctorThrow0 hexec htr (own := own) (cls := cls) (names := names) (ic := ic) hown' hcls hnames h (fun x hx => nomatch hx) hfX hkX hcellA (by rw [hhp, hT]; exact Nat.le_refl _)
    (g := { method := m, pc := pc + 4, locals := ls, stack := .ref T.heap.size :: .ref T.heap.size :: rest, locked := none }) rfl hsize rfl rfl (rest := rest) rfl
    (by rw [hb]; exact d4) (by rw [hb]; exact d7) hout hRframes (by simp only [List.map_cons, List.sum_cons, hcat]; omega) hlocks
  obtain ⟨f1, f2⟩ := vx_frame hsame
  rw [hhp] at f1 f2
  have hWs : s.WarmedH U.vm := State.WarmedH.trans hW0 hW
  have hcl : s.vm.findClass cls = some ce.cls := by
    have h9 := hO.cls
    rw [hvm] at h9
    exact h9
  have hall : s.sameButNew ({ U with vm := s.vm } : State) locs mc ms := by
    subst hA
    obtain ⟨e1, e2⟩ := hsame
    rw [State.setFrames_setFrames] at e1
    have h2 : (T.setVm s.vm).sameButNew ({ U with vm := s.vm } : State) [] (0 + 1) (0 + 6) := ⟨e1, e2⟩
    have h3 := X.same.trans h2
    rw [List.append_nil] at h3
    exact h3.mono hc hs
  refine ⟨U, ?_, .threw T.heap.size, hrun, hend, Or.inr ⟨T.heap.size, rfl, cls, ce, locs, hx U hWs.alike f1 (fun q hq => f2 q hq (fun z hz => nomatch hz)), hce, hO.vm, hcl, hWs, hall, hf⟩⟩
  refine st1 _ ?_
  show Steps p.tables e below (T1.setTop { method := m, pc := pc + 3, locals := ls, stack := .ref T.heap.size :: rest, locked := none }) _
  jvm_step X₁.here [X₁.here.top, hexec, d3', Value.category]
  exact hsteps
/-- 'throw new E("text")': new; dup; ldc; invokespecial; athrow -/
theorem vx_throwS {cc : ByteArray} {pc : Nat} (hexec : p.tables.exec = Jvm.exec) (hb : c.code = cc) (hl : l.stackTraces = false) {own cls text : String} {names : List String} {ik is ic mc ms sa : Nat} {A : Nat → Prop}
    (hown : s.vm.findClass own = some m.cls) (hcls : Bundle.fit cls = true) (hnames : ∀ n ∈ names, Bundle.fit n = true)
    (hk : (Cond.classLink own ik cls).before args s = true) (hini : (Cond.initialized cls).before args s = true) (hstr : vk_R own is text sa s) (hat : ∀ w ∈ vx_atS own ic cls names, w.before args s = true)
    (hgood : ∀ w ∈ Cond.classLink own ik cls :: Cond.initialized cls :: vx_atS own ic cls names, vx_ot w = true)
    (hU : vx_Zq Bundle.tN "UNASSIGNED_STACK" Bundle.steD A s s.heap) (hN : vx_Zq Bundle.tN "SUPPRESSED_SENTINEL" Bundle.listD A s s.heap) (hS : va_S A s.heap H locs) (hsize : ls.size = c.maxLocals)
    (d0 : decode cc pc = .ok (.new ik, 3)) (d3 : decode cc (pc + 3) = .ok (.dup, 1)) (d4 : decode cc (pc + 4) = .ok (.ldc is, 2)) (d6 : decode cc (pc + 6) = .ok (.invokespecial ic, 3)) (d9 : decode cc (pc + 9) = .ok (.athrow, 1))
    (hout : ∀ x ∈ c.exceptionTable.toList, covers x (pc + 9) = false)
    (hRframes : names.length + 3 < R.frames) (hRlocals : (rest.map fun v => v.category).sum + (13 * (names.length + 1) + 43) ≤ R.locals) (hRcells : cells + 1 ≤ R.cells) (hRslots : slots + 6 ≤ R.slots) (hlocks : meth.locks = false)
    (hx : ∀ t : State, s.vm.Alike t.vm → H.size ≤ t.heap.size → (∀ q : Nat, q < H.size → t.heap[q]? = H[q]?) → XC cls s t)
    (hf : ∀ z ∈ locs, free z.base) (hc : cells + 1 ≤ mc) (hs : slots + 6 ≤ ms) :
    W p l e R s m args below meth c H locs cells slots (vx_MQ below Qc XC args s mc ms free) (F0 m pc ls rest) := by
  intro T hT X
  have htr : e.platform.stackTraces = false := (show e.platform.stackTraces = l.stackTraces by rw [X.admits.platform]).trans hl
  have Y := vx_rebase X (R' := { frames := R.frames, locals := R.locals, cells := 1, slots := 6 }) (Nat.le_refl _) (Nat.le_refl _) hRcells hRslots
  obtain ⟨s', hA⟩ : ∃ z, z = (T.setVm s.vm).setFrames (.invoking m args :: below) := ⟨_, rfl⟩
  rw [← hA] at Y
  have hvm : s'.vm = s.vm := by rw [hA]; rfl
  have hhp : s'.heap = H := by rw [hA]; exact hT
  have hW0 : s.WarmedH s'.vm := by rw [hvm]; exact State.WarmedH.refl s
  have hat' : ∀ w ∈ vx_atS own ic cls names, w.before args s' = true := fun w hw => vx_ot_at hW0 hvm.symm (hgood w (List.mem_cons_of_mem _ (List.mem_cons_of_mem _ hw))) (hat w hw)
  have hk' : (Cond.classLink own ik cls).before args s' = true := vx_ot_at hW0 hvm.symm (hgood _ List.mem_cons_self) hk
  have hini' : (Cond.initialized cls).before args s' = true := vx_ot_at hW0 hvm.symm (hgood _ (List.mem_cons_of_mem _ List.mem_cons_self)) hini
  have hU' : vx_Zq Bundle.tN "UNASSIGNED_STACK" Bundle.steD A s' s'.heap := by rw [hhp]; exact vx_Zq.moved hW0.alike (hU.kept hS.2.1)
  have hN' : vx_Zq Bundle.tN "SUPPRESSED_SENTINEL" Bundle.listD A s' s'.heap := by rw [hhp]; exact vx_Zq.moved hW0.alike (hN.kept hS.2.1)
  have h : ∀ w ∈ Bundle.ownAtoms own ic cls names, w.before args s' = true := vx_own hat' (vx_isRefq hU'.1) (vx_isRefq hN'.1) hU'.2.word hN'.2.word
  have hown' : s'.vm.findClass own = some m.cls := by rw [hvm]; exact hown
  have hins : (Cond.instantiable cls 6).before args s' = true := h _ (by simp [Bundle.ownAtoms])
  obtain ⟨vm₁, cX, kX, hfX, hkX, -, -, X₁, st1⟩ := Y.newCold hexec (own := own) (C := cls) (index := ik) (n := 6) hown' hk' hins hini'
    (g := F0 m pc ls rest) rfl (by rw [hb]; exact d0) (Nat.le_refl _) (Nat.le_refl _)
  generalize hT1 : (T.setVm vm₁).pushCell { cls := cX, slots := kX.instanceTypes.map defaultValue, vm := .none } = T1 at X₁ st1
  have hcat : (Value.ref T.heap.size).category = 1 := rfl
  have hcellA : T1.heap[T.heap.size]? = some (freshCell cX kX) := by rw [← hT1]; exact State.heap_pushCell_size _ _
  have d3' : decode c.code (pc + 3) = .ok (.dup, 1) := by rw [hb]; exact d3
  have d4' : decode c.code (pc + 4) = .ok (.ldc is, 2) := by rw [hb]; exact d4
  have hstr' : vk_R own is text sa s' := vk_R.warm hW0 hstr
  obtain ⟨U, hsteps, hrun, hend, hW, hsame, ce, hce, hO⟩ := X₁.ctorThrowS hexec htr (own := own) (cls := cls) (names := names) (ic := ic) hown' hcls hnames h (fun x hx => nomatch hx) hfX hkX hcellA (by rw [hhp, hT]; exact Nat.le_refl _) (msg := .ref sa) rfl
    (g := { method := m, pc := pc + 6, locals := ls, stack := .ref sa :: .ref T.heap.size :: .ref T.heap.size :: rest, locked := none }) rfl hsize rfl rfl (rest := rest) rfl
    (by rw [hb]; exact d6) (by rw [hb]; exact d9) hout hRframes (by simp only [List.map_cons, List.sum_cons, hcat]; omega) hlocks
  obtain ⟨f1, f2⟩ := vx_frame hsame
  rw [hhp] at f1 f2
  have hWs : s.WarmedH U.vm := State.WarmedH.trans hW0 hW
  have hcl : s.vm.findClass cls = some ce.cls := by
    have h9 := hO.cls
    rw [hvm] at h9
    exact h9
  have hall : s.sameButNew ({ U with vm := s.vm } : State) locs mc ms := by
    subst hA
    obtain ⟨e1, e2⟩ := hsame
    rw [State.setFrames_setFrames] at e1
    have h2 : (T.setVm s.vm).sameButNew ({ U with vm := s.vm } : State) [] (0 + 1) (0 + 6) := ⟨e1, e2⟩
    have h3 := X.same.trans h2
    rw [List.append_nil] at h3
    exact h3.mono hc hs
  refine ⟨U, ?_, .threw T.heap.size, hrun, hend, Or.inr ⟨T.heap.size, rfl, cls, ce, locs, hx U hWs.alike f1 (fun q hq => f2 q hq (fun z hz => nomatch hz)), hce, hO.vm, hcl, hWs, hall, hf⟩⟩
  refine st1 _ ?_
  show Steps p.tables e below (T1.setTop { method := m, pc := pc + 3, locals := ls, stack := .ref T.heap.size :: rest, locked := none }) _
  jvm_step X₁.here [X₁.here.top, hexec, d3', Value.category]
  exact X₁.ldcString hexec (own := own) (text := text) (index := is) (a := sa) hown' hstr'.1 hstr'.2
    (g := { method := m, pc := pc + 4, locals := ls, stack := .ref T.heap.size :: .ref T.heap.size :: rest, locked := none }) rfl d4' _ hsteps
/-- 'throw new E("text")', the text by a wide index -/
theorem vx_throwSW {cc : ByteArray} {pc : Nat} (hexec : p.tables.exec = Jvm.exec) (hb : c.code = cc) (hl : l.stackTraces = false) {own cls text : String} {names : List String} {ik is ic mc ms sa : Nat} {A : Nat → Prop}
    (hown : s.vm.findClass own = some m.cls) (hcls : Bundle.fit cls = true) (hnames : ∀ n ∈ names, Bundle.fit n = true)
    (hk : (Cond.classLink own ik cls).before args s = true) (hini : (Cond.initialized cls).before args s = true) (hstr : vk_R own is text sa s) (hat : ∀ w ∈ vx_atS own ic cls names, w.before args s = true)
    (hgood : ∀ w ∈ Cond.classLink own ik cls :: Cond.initialized cls :: vx_atS own ic cls names, vx_ot w = true)
    (hU : vx_Zq Bundle.tN "UNASSIGNED_STACK" Bundle.steD A s s.heap) (hN : vx_Zq Bundle.tN "SUPPRESSED_SENTINEL" Bundle.listD A s s.heap) (hS : va_S A s.heap H locs) (hsize : ls.size = c.maxLocals)
    (d0 : decode cc pc = .ok (.new ik, 3)) (d3 : decode cc (pc + 3) = .ok (.dup, 1)) (d4 : decode cc (pc + 4) = .ok (.ldc_w is, 3)) (d7 : decode cc (pc + 7) = .ok (.invokespecial ic, 3)) (d10 : decode cc (pc + 10) = .ok (.athrow, 1))
    (hout : ∀ x ∈ c.exceptionTable.toList, covers x (pc + 10) = false)
    (hRframes : names.length + 3 < R.frames) (hRlocals : (rest.map fun v => v.category).sum + (13 * (names.length + 1) + 43) ≤ R.locals) (hRcells : cells + 1 ≤ R.cells) (hRslots : slots + 6 ≤ R.slots) (hlocks : meth.locks = false)
    (hx : ∀ t : State, s.vm.Alike t.vm → H.size ≤ t.heap.size → (∀ q : Nat, q < H.size → t.heap[q]? = H[q]?) → XC cls s t)
    (hf : ∀ z ∈ locs, free z.base) (hc : cells + 1 ≤ mc) (hs : slots + 6 ≤ ms) :
    W p l e R s m args below meth c H locs cells slots (vx_MQ below Qc XC args s mc ms free) (F0 m pc ls rest) := by
  intro T hT X
  have htr : e.platform.stackTraces = false := (show e.platform.stackTraces = l.stackTraces by rw [X.admits.platform]).trans hl
  have Y := vx_rebase X (R' := { frames := R.frames, locals := R.locals, cells := 1, slots := 6 }) (Nat.le_refl _) (Nat.le_refl _) hRcells hRslots
  obtain ⟨s', hA⟩ : ∃ z, z = (T.setVm s.vm).setFrames (.invoking m args :: below) := ⟨_, rfl⟩
  rw [← hA] at Y
  have hvm : s'.vm = s.vm := by rw [hA]; rfl
  have hhp : s'.heap = H := by rw [hA]; exact hT
  have hW0 : s.WarmedH s'.vm := by rw [hvm]; exact State.WarmedH.refl s
  have hat' : ∀ w ∈ vx_atS own ic cls names, w.before args s' = true := fun w hw => vx_ot_at hW0 hvm.symm (hgood w (List.mem_cons_of_mem _ (List.mem_cons_of_mem _ hw))) (hat w hw)
  have hk' : (Cond.classLink own ik cls).before args s' = true := vx_ot_at hW0 hvm.symm (hgood _ List.mem_cons_self) hk
  have hini' : (Cond.initialized cls).before args s' = true := vx_ot_at hW0 hvm.symm (hgood _ (List.mem_cons_of_mem _ List.mem_cons_self)) hini
  have hU' : vx_Zq Bundle.tN "UNASSIGNED_STACK" Bundle.steD A s' s'.heap := by rw [hhp]; exact vx_Zq.moved hW0.alike (hU.kept hS.2.1)
  have hN' : vx_Zq Bundle.tN "SUPPRESSED_SENTINEL" Bundle.listD A s' s'.heap := by rw [hhp]; exact vx_Zq.moved hW0.alike (hN.kept hS.2.1)
  have h : ∀ w ∈ Bundle.ownAtoms own ic cls names, w.before args s' = true := vx_own hat' (vx_isRefq hU'.1) (vx_isRefq hN'.1) hU'.2.word hN'.2.word
  have hown' : s'.vm.findClass own = some m.cls := by rw [hvm]; exact hown
  have hins : (Cond.instantiable cls 6).before args s' = true := h _ (by simp [Bundle.ownAtoms])
  obtain ⟨vm₁, cX, kX, hfX, hkX, -, -, X₁, st1⟩ := Y.newCold hexec (own := own) (C := cls) (index := ik) (n := 6) hown' hk' hins hini'
    (g := F0 m pc ls rest) rfl (by rw [hb]; exact d0) (Nat.le_refl _) (Nat.le_refl _)
  generalize hT1 : (T.setVm vm₁).pushCell { cls := cX, slots := kX.instanceTypes.map defaultValue, vm := .none } = T1 at X₁ st1
  have hcat : (Value.ref T.heap.size).category = 1 := rfl
  have hcellA : T1.heap[T.heap.size]? = some (freshCell cX kX) := by rw [← hT1]; exact State.heap_pushCell_size _ _
  have d3' : decode c.code (pc + 3) = .ok (.dup, 1) := by rw [hb]; exact d3
  have d4' : decode c.code (pc + 4) = .ok (.ldc_w is, 3) := by rw [hb]; exact d4
  have hstr' : vk_R own is text sa s' := vk_R.warm hW0 hstr
  obtain ⟨U, hsteps, hrun, hend, hW, hsame, ce, hce, hO⟩ := X₁.ctorThrowS hexec htr (own := own) (cls := cls) (names := names) (ic := ic) hown' hcls hnames h (fun x hx => nomatch hx) hfX hkX hcellA (by rw [hhp, hT]; exact Nat.le_refl _) (msg := .ref sa) rfl
    (g := { method := m, pc := pc + 7, locals := ls, stack := .ref sa :: .ref T.heap.size :: .ref T.heap.size :: rest, locked := none }) rfl hsize rfl rfl (rest := rest) rfl
    (by rw [hb]; exact d7) (by rw [hb]; exact d10) hout hRframes (by simp only [List.map_cons, List.sum_cons, hcat]; omega) hlocks
  obtain ⟨f1, f2⟩ := vx_frame hsame
  rw [hhp] at f1 f2
  have hWs : s.WarmedH U.vm := State.WarmedH.trans hW0 hW
  have hcl : s.vm.findClass cls = some ce.cls := by
    have h9 := hO.cls
    rw [hvm] at h9
    exact h9
  have hall : s.sameButNew ({ U with vm := s.vm } : State) locs mc ms := by
    subst hA
    obtain ⟨e1, e2⟩ := hsame
    rw [State.setFrames_setFrames] at e1
    have h2 : (T.setVm s.vm).sameButNew ({ U with vm := s.vm } : State) [] (0 + 1) (0 + 6) := ⟨e1, e2⟩
    have h3 := X.same.trans h2
    rw [List.append_nil] at h3
    exact h3.mono hc hs
  refine ⟨U, ?_, .threw T.heap.size, hrun, hend, Or.inr ⟨T.heap.size, rfl, cls, ce, locs, hx U hWs.alike f1 (fun q hq => f2 q hq (fun z hz => nomatch hz)), hce, hO.vm, hcl, hWs, hall, hf⟩⟩
  refine st1 _ ?_
  show Steps p.tables e below (T1.setTop { method := m, pc := pc + 3, locals := ls, stack := .ref T.heap.size :: rest, locked := none }) _
  jvm_step X₁.here [X₁.here.top, hexec, d3', Value.category]
  exact X₁.ldcStringW hexec (own := own) (text := text) (index := is) (a := sa) hown' hstr'.1 hstr'.2
    (g := { method := m, pc := pc + 4, locals := ls, stack := .ref T.heap.size :: .ref T.heap.size :: rest, locked := none }) rfl d4' _ hsteps
end Ends
section Bodies
variable {l : Launch}
theorem vx_ofW {y : MethodName} {ws ws' : List Cond} {rm : Room} {Pc : Array Value → State → Prop} {Qc : Array Value → State → Outcome → State → Prop} {XC : String → State → State → Prop} {mc ms : Nat} {free : Addr → Prop} {cc : ByteArray} {maxL : Nat} {ret : Option FieldType}
    (hy : plainName y.cls = true) (hw : ws = Cond.code y cc maxL ret :: ws')
    (body : ∀ p e s m args below meth c s₁, BodyLoose p l y (headSpec ws rm) cc maxL ret e s m args below meth c s₁ → c.maxLocals = maxL → (∀ x ∈ c.exceptionTable.toList, False) → Pc args s →
      W p l e (headSpec ws rm).room s m args below meth c s.heap [] 0 0 (vx_MQ below Qc XC args s mc ms free) (entryFrame m args maxL)) : vx_Met l y ws rm Pc Qc XC mc ms free := by
  refine MetFree.of_bodyS (code := cc) (maxLocals := maxL) (ret := ret) hy ?_ ?_
  · intro args s m h hn
    obtain ⟨meth, c, h1, h2, h3, h4, h5, h6, -, -⟩ := Cond.code_spec hn (atoms_spec (ws := ws) h _ (by rw [hw]; exact List.mem_cons_self))
    exact ⟨meth, c, h1, h2, h3, h4, h5, h6⟩
  · intro p e s m args below meth c s₁ B hml hP _
    have hh0 : s₁.heap = s.heap := by rw [B.state]; rfl
    have ht : ∀ x ∈ c.exceptionTable.toList, False := by
      obtain ⟨meth9, c9, h1, h2, -, -, -, -, h7, -⟩ := Cond.code_spec B.named (atoms_spec (ws := ws) B.pre _ (by rw [hw]; exact List.mem_cons_self))
      cases Option.some.inj (h1.symm.trans B.method)
      cases Option.some.inj (h2.symm.trans (Stand.of_body B).code)
      intro x hx
      rw [Array.isEmpty_iff.mp h7] at hx
      cases hx
    obtain ⟨t, a1, o, b1, b2, b3⟩ := body p e s m args below meth c s₁ B hml ht hP s₁ hh0 (Stand.of_body B)
    exact ⟨t, o, a1, b1, b2, b3⟩
/-- the table of a body with handlers -/
theorem vx_table {p : Program} {x y : MethodName} {S : Spec} {cc bytes : ByteArray} {maxL maxL' : Nat} {ret ret' : Option FieldType} {e : Env} {s s₁ : State} {m : MethodId} {args : Array Value} {below : List Frame} {meth : Method} {c : Code} {hh : List (Nat × Nat × Nat × Nat)}
    (B : BodyLoose p l y S cc maxL ret e s m args below meth c s₁) (h : (Cond.codeWith y bytes maxL' ret' hh).before args s = true) : c.exceptionTable.toList = tableOf hh := by
  obtain ⟨m9, meth9, c9, hn9, h1, h2, -, -, h6, -⟩ := Cond.codeWith_spec h
  cases Option.some.inj (hn9.symm.trans B.named)
  cases Option.some.inj (h1.symm.trans B.method)
  cases Option.some.inj (h2.symm.trans (Stand.of_body B).code)
  rw [← h6, table_eq]
end Bodies
end VXA
/-! ===== END ===== -/
/-! ===== BEGIN a static call of a method with an exception table ===== -/
section VXS
variable {p : Program} {l : Launch} {e : Env} {R : Room} {s : State} {m : MethodId} {args : Array Value} {below : List Frame} {meth : Method} {c : Code} {T : State} {H : Heap} {locs : List Loc} {cells slots : Nat}
abbrev vx_CSW (R : Room) (s : State) (args : Array Value) (own : String) (index : Nat) (y : MethodName) (bytes : ByteArray) (maxL : Nat) (ret : Option FieldType) (hh : List (Nat × Nat × Nat × Nat)) (ws : List Cond) (rm : Room) (mc ms n : Nat) : Prop :=
  (rm.cells = mc ∧ rm.slots = ms ∧ rm.frames + 1 ≤ R.frames ∧ 8 + (maxL + 11) + rm.locals ≤ R.locals ∧ (∀ w ∈ ws, ∀ (a' : Array Value) (U : State), s.WarmedH U.vm → w.before a' U = true) ∧ Cond.codeWith y bytes maxL ret hh ∈ ws) ∧
  (Cond.codeWith y bytes maxL ret hh).before args s = true ∧ (Cond.initialized y.cls).before args s = true ∧ (y.cls ≠ "java/lang/invoke/MethodHandle" ∧ y.cls ≠ "java/lang/invoke/VarHandle") ∧
  (∀ sig, parseMethodDescriptor y.desc = some sig → n = sig.parameters.length) ∧ (Cond.methodLink own index y).before args s = true ∧ (Cond.static y).before args s = true
theorem vx_cwSW {own : String} {index maxL mc ms : Nat} {y : MethodName} {bytes : ByteArray} {ret : Option FieldType} {hh : List (Nat × Nat × Nat × Nat)} {Ts ws ws' : List Cond} {rm : Room} (n : Nat) (ht : ∀ w ∈ Ts, w.before args s = true) (hT : GoodIn Ts (va_wsS own index y ws)) (hw : ws = Cond.codeWith y bytes maxL ret hh :: ws') (hrc : rm.cells = mc) (hrs : rm.slots = ms)
    (hd : y.cls ≠ "java/lang/invoke/MethodHandle" ∧ y.cls ≠ "java/lang/invoke/VarHandle" ∧ (parseMethodDescriptor y.desc).map (fun d => d.parameters.length) = some n) (hR : rm.frames + 1 ≤ R.frames ∧ 8 + (maxL + 11) + rm.locals ≤ R.locals) :
    vx_CSW R s args own index y bytes maxL ret hh ws rm mc ms n := by
  have ok : ∀ w ∈ va_wsS own index y ws, w.before args s = true := fun w h => ht w (hT w h).1
  have hG : GoodIn Ts ws := fun w h => hT w (by unfold va_wsS; exact List.mem_append_right _ h)
  have hc : Cond.codeWith y bytes maxL ret hh ∈ ws := by rw [hw]; exact List.mem_cons_self
  refine ⟨⟨hrc, hrs, hR.1, hR.2, pay_in ht hG, hc⟩, ht _ (hG _ hc).1, ok _ (by simp [va_wsS]), ⟨hd.1, hd.2.1⟩, fun sig h => ?_, ok _ (by simp [va_wsS]), ok _ (by simp [va_wsS])⟩
  have h2 := hd.2.2
  rw [h] at h2
  exact (Option.some.inj h2).symm
theorem vx_callSW (X : Stand p l e R s m args below meth c T locs cells slots) (hexec : p.tables.exec = Jvm.exec) {own : String} {index : Nat} {y : MethodName} {bytes : ByteArray} {maxL : Nat} {ret : Option FieldType} {hh : List (Nat × Nat × Nat × Nat)}
    (hown : s.vm.findClass own = some m.cls) (hlink : (Cond.methodLink own index y).before args s = true) (hstat : (Cond.static y).before args s = true) (hinit : (Cond.initialized y.cls).before args s = true)
    (hcode : (Cond.codeWith y bytes maxL ret hh).before args s = true) (hy : y.cls ≠ "java/lang/invoke/MethodHandle" ∧ y.cls ≠ "java/lang/invoke/VarHandle")
    {W9 : Nat} {Pre : Pt → Array Value → Prop} {Post : Pt → Array Value → Option Value → Pt → Prop} (hK : Back l R p e below s args y 3 W9 Pre Post)
    {g : JFrame} (hg : g.method = m) (hsize : g.locals.size = c.maxLocals) {argsL rest : List Value} (hlen : ∀ sig, parseMethodDescriptor y.desc = some sig → argsL.length = sig.parameters.length)
    (hstack : g.stack = argsL.reverse ++ rest) (hW : 2 * g.monitorRoom + (rest.map fun v => v.category).sum ≤ W9) (hdg : decode c.code g.pc = .ok (.invokestatic index, 3))
    (hpre : ∀ vm₁, s.WarmedH vm₁ → Pre ⟨T.setVm vm₁, locs, cells, slots⟩ argsL.toArray) :
    ∃ (v : Option Value) (vm₁ : Vm) (B : Pt), s.WarmedH vm₁ ∧ Stand p l e R s m args below meth c B.U B.locs B.cells B.slots ∧ Post ⟨T.setVm vm₁, locs, cells, slots⟩ argsL.toArray v B ∧
      ∀ target, Steps p.tables e below (B.U.setTop { g with pc := g.pc + 3, stack := v.toList ++ rest }) target → Steps p.tables e below (T.setTop g) target := by
  obtain ⟨mk, methM, cM, hnamed, hmethM, -, -, -, -, -, -, hsigM⟩ := Cond.codeWith_spec hcode
  have hstatic : methM.isStatic = true := Cond.static_spec hnamed hmethM hstat
  obtain ⟨kP, hkP, -⟩ := className_of_methodNamed hnamed
  have hinitP : kP.init = .initialized := Cond.initialized_spec (findClass_of_methodNamed hnamed) hkP hinit
  obtain ⟨vm₁, X₁, hstep₁⟩ := X.invokestatic hexec hown hlink hnamed hmethM hstatic hkP hinitP hy (g := g) hg (argsL := argsL) (rest := rest) (hlen _ hsigM) hstack hdg
  obtain ⟨v, B, X', hpost, hsteps⟩ := hK m meth c ⟨T.setVm vm₁, locs, cells, slots⟩ { g with stack := rest } (.invokestatic index) mk argsL.toArray X₁ hg hsize hdg hW (X₁.named hnamed) (hpre vm₁ X₁.warmed)
  exact ⟨v, vm₁, B, X₁.warmed, X', hpost, fun target h => hstep₁ _ fun acts => by rw [doInvoke_state]; exact hsteps.trans h⟩
theorem vx_runSW {y : MethodName} {bytes cc : ByteArray} {maxL nL mc ms n index : Nat} {ret : Option FieldType} {hh : List (Nat × Nat × Nat × Nat)} {ws : List Cond} {rm : Room} {Pc : Array Value → State → Prop} {Qc : Array Value → State → Outcome → State → Prop} {free : Addr → Prop} {Ts : List Cond} {own : String} {As rest : List Value} {g : JFrame}
    (S : CallFix p m c cc nL s args Ts own) (hM : Met l y ws rm Pc Qc mc ms free) (cw : vx_CSW R s args own index y bytes maxL ret hh ws rm mc ms n) (hp : PreS s H Pc As)
    (hg : g.method = m) (hn : As.length = n) (hsize : g.locals.size = nL) (hstack : g.stack = As.reverse ++ rest) (hW : 2 * g.monitorRoom + (rest.map fun v => v.category).sum ≤ 8) (hdg : decode cc g.pc = .ok (.invokestatic index, 3)) (hf : cells + mc ≤ R.cells ∧ slots + ms ≤ R.slots) :
    va_Run p l e R s m args below meth c H locs cells slots mc ms g rest (Qc As.toArray) (free) := by
  obtain ⟨⟨hrc, hrs, hfr, hlo, hws, hcw⟩, hcode, hini, hy, hlen, hl, hstt⟩ := cw
  have hK : Back l R p e below s args y 3 8 (PreOf R mc ms Pc) (PostOf Qc mc ms free) := va_backW (hh := hh) (bytes := bytes) (maxL := maxL) (ret := ret) hM hp.1 hrc hrs hfr hlo hws hcw (fun a' U hW => word_at hW (Or.inl (by first | rfl | simp [Cond.onTables, Cond.keeps, Cond.steady])) hini)
  obtain ⟨hx, hb, hml, ho, -⟩ := S
  intro T hT X
  obtain ⟨v, vm₁, ⟨U', l2, c2, s2⟩, hW₁, X', ⟨g', mk, t, L, e1, e2, hq, h1, hL, h2, h3⟩, st⟩ := vx_callSW X hx (hh := hh) (bytes := bytes) (maxL := maxL) (ret := ret) ho hl hstt hini hcode hy hK hg (hsize.trans hml.symm) (argsL := As) (rest := rest) (fun sig h => hn.trans (hlen sig h)) hstack hW (by rw [hb]; exact hdg)
    (fun vm₁ hW₁ => ⟨hf.1, hf.2, hp.2 (T.setVm vm₁) hT hW₁⟩)
  dsimp only [Pt.U, Pt.locs, Pt.cells, Pt.slots] at X' e1 e2 h1 h2 h3 st
  subst h1; subst h2; subst h3
  exact ⟨v, (T.setVm vm₁).calling g' mk As.toArray, t, U', L, hT, X', hL, e1, e2, hq, st⟩
/-- not caught here, past rows that name other classes: it goes on to the caller -/
theorem vx_outP {p : Program} {l : Launch} {e : Env} {R : Room} {s : State} {m : MethodId} {args : Array Value} {below : List Frame} {meth : Method} {c : Code} {H : Heap} {locs : List Loc} {cells slots : Nat} {free : Addr → Prop} {ls : Array Slot} {rest : List Value} {Qc : Array Value → State → Outcome → State → Prop} {XC : String → State → State → Prop}
    {pc : Nat} {own E : String} {ce : Cell} {q : Addr} {mc ms : Nat} (hown : s.vm.findClass own = some m.cls) (hlocks : meth.locks = false)
    (hpass : ∀ z ∈ c.exceptionTable.toList, covers z pc = false ∨ (z.catchType ≠ 0 ∧ ∃ nm : String, (Cond.classLink own z.catchType nm).before args s = true ∧ va_Nc E nm s)) (hcell : H[q]? = some ce) (hv : ce.vm = .none) (hcl : s.vm.findClass E = some ce.cls)
    (hx : ∀ t : State, t.heap = H → s.vm.Alike t.vm → XC E s t) (hf : ∀ z ∈ locs, free z.base) (hc : cells ≤ mc) (hs : slots ≤ ms) :
    vx_W p l e R s m args below meth c H locs cells slots (vx_MQ below Qc XC args s mc ms free) (F0 m pc ls rest) q := by
  intro T hT X
  have hpl : e.platform.magicAccessors = ({} : Platform).magicAccessors := by rw [X.admits.platform]
  obtain ⟨vm', hW', X', st⟩ := X.outThrough hlocks q (g := F0 m pc ls rest) rfl rfl rfl (cell := ce) (by rw [hT]; exact hcell) (by rw [hv]; rfl)
    (by obtain ⟨k9, h9, -⟩ := Vm.findClass_spec hcl; exact ⟨k9, h9⟩) (fun z hz => by
      rcases hpass z hz with h | ⟨hz0, nm, hl1, hn1⟩
      · exact Or.inl h
      · obtain ⟨c6, hc6, hcl6⟩ := Cond.classLink_spec hown hl1 e.platform hpl
        obtain ⟨a8, b8, h1, h2, h3⟩ := hn1
        cases Option.some.inj (h1.symm.trans hcl)
        cases Option.some.inj (h2.symm.trans hc6)
        exact Or.inr ⟨hz0, _, hcl6, h3⟩)
  obtain ⟨g₀, hfr⟩ := X'.frames_eq
  have hcell9 : ((T.setVm vm').setFrames (.throwing q :: below)).heap[q]? = some ce := by
    show T.heap[q]? = some ce
    rw [hT]; exact hcell
  have hend : Ended ((T.setVm vm').setFrames (.throwing q :: below)) below (.threw q) := State.frames_setFrames _ (State.cur_lt_of_frames hfr)
  refine ⟨(T.setVm vm').setFrames (.throwing q :: below), ?_, .threw q, X'.here.running, hend, Or.inr ⟨q, rfl, E, ce, locs, hx _ hT (X'.ends _).1.alike, hcell9, hv, hcl, (X'.ends _).1, (X'.ends _).2.mono hc hs, hf⟩⟩
  rw [X.pushThrowing_eq]
  exact st
/-- a thing of a world lies in the heap -/
theorem vx_lt {D : va_G} {cl : List vw_C} {ws : va_W} {H1 : Heap} (h : va_P D cl ws H1) {k : Nat} {q : Nat × va_E} (hk : ws[k]? = some q) : q.1 < H1.size := (h k q hk).lt
end VXS
/-! ===== END ===== -/
/-! ===== BEGIN methods with a table of their own: called by a name, returning or throwing ===== -/
section VXH
/-! vx_backW, vx_callVX, vx_callSX, vx_callVW, vx_runVW, vx_runVX, vx_runSX, vx_ofWH follow the same proofs as their sisters above (Free/Laws.lean, Shelf42/LK1.lean); vx_outP calls Shelf42/NT130.lean (outThrough). -/
section
variable {l : Launch} {R : Room} {p : Program} {e : Env} {below : List Frame} {s : State} {sargs : Array Value} {y : MethodName} {len W9 : Nat}
theorem vx_backW {ws : List Cond} {rm : Room} {Pc : Array Value → State → Prop} {Qc : Array Value → State → Outcome → State → Prop} {XC : String → State → State → Prop} {mc ms : Nat} {free : Addr → Prop} {bytes : ByteArray} {maxL : Nat} {ret : Option FieldType} {hh : List (Nat × Nat × Nat × Nat)}
    (hM : vx_Met l y ws rm Pc Qc XC mc ms free) (hblind : FrameBlind Pc) (hrc : rm.cells = mc) (hrs : rm.slots = ms)
    (hframes : rm.frames + 1 ≤ R.frames) (hlocals : W9 + (maxL + 11) + rm.locals ≤ R.locals)
    (hws : ∀ w ∈ ws, ∀ a' U, s.WarmedH U.vm → w.before a' U = true) (hcode : Cond.codeWith y bytes maxL ret hh ∈ ws) (hinit : ∀ a' U, s.WarmedH U.vm → (Cond.initialized y.cls).before a' U = true) :
    vx_Back l R p e below s sargs y len W9 (PreOf R mc ms Pc) (PostOf Qc mc ms free) (vx_Post XC mc ms free) := by
  intro m meth c A g ig mk a X hg hsize hdg hW hn hp
  have h1 : (headSpec ws rm).pre.before a A.U = true := atoms_intro fun w hw => hws w hw _ _ X.warmed
  have h2 : (Cond.codeWith y bytes maxL ret hh).before a A.U = true := hws _ hcode _ _ X.warmed
  have h3 : (Cond.initialized y.cls).before a A.U = true := hinit _ _ X.warmed
  have h4 : A.cells + (headSpec ws rm).room.cells ≤ R.cells := by rw [show (headSpec ws rm).room.cells = mc from hrc]; exact hp.1
  have h5 : A.slots + (headSpec ws rm).room.slots ≤ R.slots := by rw [show (headSpec ws rm).room.slots = ms from hrs]; exact hp.2.1
  have hPc : Pc a (A.U.calling g mk a) := hblind _ _ _ _ hp.2.2
  obtain ⟨U, Ls, c0, s0⟩ := A
  dsimp only [Pt.U, Pt.locs, Pt.cells, Pt.slots] at h1 h2 h3 h4 h5 X hn hPc ⊢
  obtain ⟨m9, methY, cY, hn9, hmY, hcY, -, hlY, -⟩ := Cond.codeWith_spec h2
  cases Option.some.inj (hn9.symm.trans hn)
  obtain ⟨kY, hkY, -⟩ := className_of_methodNamed hn
  have hinitY : kY.init = .initialized := Cond.initialized_spec (findClass_of_methodNamed hn) hkY h3
  have h : At U g.method c below := by rw [hg]; exact X.here
  have hlocals9 : W9 + (maxL + 11) + (headSpec ws rm).room.locals ≤ R.locals := hlocals
  have happ : (headSpec ws rm).appliesLoose y e.platform (U.calling g mk a) = true :=
    Spec.appliesLoose_calling (g := g) h hdg hn hkY hinitY
      (X.room_calling (g := g) (R' := (headSpec ws rm).room) hsize hmY hcY hframes (by rw [hlY]; omega) h4 h5) h1
  obtain ⟨mid, hmid⟩ := h.above
  have hfr : (U.setTop g).frames = (.java g :: mid) ++ below := by rw [State.frames_setTop' g h.top, hmid]; rfl
  obtain ⟨o, s₂, hsteps, -, hend, hq⟩ := Steps.callFree hM p X.admits X.cas X.clock (acts := []) hfr happ hPc trivial
  have hq' : vx_Q Qc XC mc ms free a (U.calling g mk a) o s₂ := hq
  rw [State.frames_setTop' g h.top] at hend
  obtain ⟨g₀, hg0⟩ := Option.isSome_iff_exists.mp h.top
  obtain ⟨r, hr⟩ := State.topJava?_eq_some.mp hg0
  have hr' : (({ U with heap := s₂.heap, slotsUsed := s₂.slotsUsed } : State).setVm s₂.vm).frames = .java g₀ :: r := hr
  rcases hq' with ⟨hqc, L, hfe, hL⟩ | ⟨q, rfl, E, ce, L, hx, hce, hcv, hcl, hW₂, hsm, hL⟩
  · obtain ⟨⟨v, rfl⟩, hW₂, e2, q2, q3, q4, q5, q6⟩ := id hfe
    have e3 : s₂ = ({ (U.calling g mk a).setFrames s₂.frames with heap := s₂.heap, slotsUsed := s₂.slotsUsed } : State).setVm s₂.vm := by
      have : s₂ = ({ s₂ with vm := (U.calling g mk a).vm } : State).setVm s₂.vm := rfl
      rw [e2] at this
      exact this
    obtain ⟨c₂, i₂, len₂, hc₂, hd₂, hf₂⟩ := hend
    have hW' : U.WarmedH s₂.vm := hW₂
    have hcc : c₂ = c := by
      have h1 : s₂.code? g.method = U.code? g.method := by
        rw [State.code?_eq, State.code?_eq, hW'.alike.method?]
      exact Option.some.inj (hc₂.symm.trans (h1.trans h.code))
    subst hcc
    have hlen : len₂ = len := by rw [hdg] at hd₂; cases hd₂; rfl
    subst hlen
    have hs₂ : s₂ = (({ U with heap := s₂.heap, slotsUsed := s₂.slotsUsed } : State).setVm s₂.vm).setTop { g with pc := g.pc + len₂, stack := v.toList ++ g.stack } := by
      refine e3.trans ?_
      rw [hf₂, State.calling_eq h.top, State.setFrames_setFrames, State.setTop_of_frames _ hr', hr]
      rfl
    have hsame : U.sameButNew ({ U with heap := s₂.heap, slotsUsed := s₂.slotsUsed } : State) L mc ms := by
      refine ⟨?_, q2, q3, q4, q5, q6⟩
      obtain ⟨t, ht, -⟩ := State.frames_cons hr
      show ({ U with heap := s₂.heap, slotsUsed := s₂.slotsUsed } : State) = { U.setFrames U.frames with heap := s₂.heap, slotsUsed := s₂.slotsUsed }
      rw [State.setFrames_self ht]
    subst hg
    refine Or.inl ⟨v, ⟨(({ U with heap := s₂.heap, slotsUsed := s₂.slotsUsed } : State).setVm s₂.vm), Ls ++ L, c0 + mc, s0 + ms⟩,
      ⟨X.admits, X.cas, X.clock, X.frames, X.room, X.hears, X.method, X.code, (X.here.setHeapUsed s₂.heap s₂.slotsUsed).setVm hW'.alike, X.tail, State.WarmedH.trans X.warmed hW', X.limits, X.bytes, X.same.trans (hsame.setVm s.vm)⟩,
      ⟨g, mk, s₂, L, rfl, rfl, hqc, rfl, hL, rfl, rfl⟩, ?_⟩
    show Steps p.tables e below _ ((({ U with heap := s₂.heap, slotsUsed := s₂.slotsUsed } : State).setVm s₂.vm).setTop { g with pc := g.pc + len₂, stack := v.toList ++ g.stack })
    rw [← hs₂]
    exact hsteps
  · obtain ⟨e2, q2, q3, q4, q5, q6⟩ := id hsm
    have e3 : s₂ = ({ (U.calling g mk a).setFrames s₂.frames with heap := s₂.heap, slotsUsed := s₂.slotsUsed } : State).setVm s₂.vm := by
      have : s₂ = ({ s₂ with vm := (U.calling g mk a).vm } : State).setVm s₂.vm := rfl
      rw [e2] at this
      exact this
    have hf₂ : s₂.frames = .throwing q :: .java g :: U.frames.tail := hend
    have hW' : U.WarmedH s₂.vm := hW₂
    have hs₂ : s₂ = ((({ U with heap := s₂.heap, slotsUsed := s₂.slotsUsed } : State).setVm s₂.vm).setTop g).pushFrame (.throwing q) := by
      refine e3.trans ?_
      rw [hf₂, State.calling_eq h.top, State.setFrames_setFrames, State.pushFrame, State.frames_setTop _ hr', State.setTop_of_frames _ hr', State.setFrames_setFrames, hr]
      rfl
    have hsame : U.sameButNew ({ U with heap := s₂.heap, slotsUsed := s₂.slotsUsed } : State) L mc ms := by
      refine ⟨?_, q2, q3, q4, q5, q6⟩
      obtain ⟨t, ht, -⟩ := State.frames_cons hr
      show ({ U with heap := s₂.heap, slotsUsed := s₂.slotsUsed } : State) = { U.setFrames U.frames with heap := s₂.heap, slotsUsed := s₂.slotsUsed }
      rw [State.setFrames_self ht]
    subst hg
    refine Or.inr ⟨q, ⟨(({ U with heap := s₂.heap, slotsUsed := s₂.slotsUsed } : State).setVm s₂.vm), Ls ++ L, c0 + mc, s0 + ms⟩,
      ⟨X.admits, X.cas, X.clock, X.frames, X.room, X.hears, X.method, X.code, (X.here.setHeapUsed s₂.heap s₂.slotsUsed).setVm hW'.alike, X.tail, State.WarmedH.trans X.warmed hW', X.limits, X.bytes, X.same.trans (hsame.setVm s.vm)⟩,
      ⟨g, mk, s₂, L, E, ce, rfl, rfl, hx, hce, hcv, hcl, rfl, hL, rfl, rfl⟩, ?_⟩
    show Steps p.tables e below _ (((({ U with heap := s₂.heap, slotsUsed := s₂.slotsUsed } : State).setVm s₂.vm).setTop g).pushFrame (.throwing q))
    rw [← hs₂]
    exact hsteps
end
variable {p : Program} {l : Launch} {e : Env} {R : Room} {s : State} {m : MethodId} {args : Array Value} {below : List Frame} {meth : Method} {c : Code} {T : State} {H : Heap} {locs : List Loc} {cells slots : Nat}
theorem vx_callVX (X : Stand p l e R s m args below meth c T locs cells slots) (hexec : p.tables.exec = Jvm.exec) {own C : String} {index : Nat} {y : MethodName} {bytes : ByteArray} {maxL : Nat} {ret : Option FieldType} {hh : List (Nat × Nat × Nat × Nat)}
    (hown : s.vm.findClass own = some m.cls) (hlink : (Cond.methodLink own index y).before args s = true) (hinst : (Cond.instanceMethod y).before args s = true) (hsel : (Cond.selects C y y).before args s = true)
    (hcode : (Cond.codeWith y bytes maxL ret hh).before args s = true) (hy : y.cls ≠ "java/lang/invoke/MethodHandle" ∧ y.cls ≠ "java/lang/invoke/VarHandle")
    {W9 : Nat} {Pre : Pt → Array Value → Prop} {Post : Pt → Array Value → Option Value → Pt → Prop} {PostX : Pt → Array Value → Addr → Pt → Prop} (hK : vx_Back l R p e below s args y 3 W9 Pre Post PostX)
    {b : Addr} {cellB : Cell} (hcell : T.heap[b]? = some cellB) (hobj : cellB.vm.isStatics = false) (hcls : s.vm.findClass C = some cellB.cls)
    {g : JFrame} (hg : g.method = m) (hsize : g.locals.size = c.maxLocals) {argsL rest : List Value} (hlen : ∀ sig, parseMethodDescriptor y.desc = some sig → argsL.length = sig.parameters.length)
    (hstack : g.stack = argsL.reverse ++ .ref b :: rest) (hW : 2 * g.monitorRoom + (rest.map fun v => v.category).sum ≤ W9) (hdg : decode c.code g.pc = .ok (.invokevirtual index, 3))
    (hpre : ∀ vm₁, s.WarmedH vm₁ → Pre ⟨T.setVm vm₁, locs, cells, slots⟩ (Value.ref b :: argsL).toArray) :
    (∃ (v : Option Value) (vm₁ : Vm) (B : Pt), s.WarmedH vm₁ ∧ Stand p l e R s m args below meth c B.U B.locs B.cells B.slots ∧ Post ⟨T.setVm vm₁, locs, cells, slots⟩ (Value.ref b :: argsL).toArray v B ∧
      ∀ target, Steps p.tables e below (B.U.setTop { g with pc := g.pc + 3, stack := v.toList ++ rest }) target → Steps p.tables e below (T.setTop g) target) ∨
    (∃ (q : Addr) (vm₁ : Vm) (B : Pt), s.WarmedH vm₁ ∧ Stand p l e R s m args below meth c B.U B.locs B.cells B.slots ∧ PostX ⟨T.setVm vm₁, locs, cells, slots⟩ (Value.ref b :: argsL).toArray q B ∧
      Steps p.tables e below (T.setTop g) ((B.U.setTop { g with stack := rest }).pushFrame (.throwing q))) := by
  obtain ⟨mk, methM, hnamed, hmethM, hstM, habM⟩ := Cond.instanceMethod_spec hinst
  obtain ⟨m8, methM', cM, hn8, hmethM', -, -, -, -, -, -, hsigM⟩ := Cond.codeWith_spec hcode
  cases Option.some.inj (hn8.symm.trans hnamed)
  cases hmethM.symm.trans hmethM'
  obtain ⟨c2, r2, m2, q1, q2, q3, q4, kP, hkP, hkPi⟩ := Cond.selects_spec hsel
  cases hcls.symm.trans q1
  cases (State.methodFound?_of_named hnamed hy).symm.trans q2
  cases hnamed.symm.trans q3
  have hselP : selectMethod e.platform s.vm cellB.cls mk = .method mk := by rw [Launch.admits_selectMethod X.admits]; exact q4
  obtain ⟨vm₁, X₁, hstep₁⟩ := X.invokevirtual hexec hown hlink hnamed hmethM hstM hkP hkPi hy (a := b) (cell := cellB) hcell
    (fun z h => by rw [h] at hobj; cases hobj) hselP hmethM habM hkP hkPi (g := g) hg (argsL := argsL) (rest := rest) (hlen _ hsigM) hstack hdg
  rcases hK m meth c ⟨T.setVm vm₁, locs, cells, slots⟩ { g with stack := rest } (.invokevirtual index) mk (Value.ref b :: argsL).toArray X₁ hg hsize hdg hW (X₁.named hnamed) (hpre vm₁ X₁.warmed) with ⟨v, B, X', hpost, hsteps⟩ | ⟨q, B, X', hpost, hsteps⟩
  · exact Or.inl ⟨v, vm₁, B, X₁.warmed, X', hpost, fun target h => hstep₁ _ fun acts => by rw [doInvoke_state]; exact hsteps.trans h⟩
  · exact Or.inr ⟨q, vm₁, B, X₁.warmed, X', hpost, hstep₁ _ fun acts => by rw [doInvoke_state]; exact hsteps⟩
theorem vx_callSX (X : Stand p l e R s m args below meth c T locs cells slots) (hexec : p.tables.exec = Jvm.exec) {own : String} {index : Nat} {y : MethodName} {bytes : ByteArray} {maxL : Nat} {ret : Option FieldType} {hh : List (Nat × Nat × Nat × Nat)}
    (hown : s.vm.findClass own = some m.cls) (hlink : (Cond.methodLink own index y).before args s = true) (hstat : (Cond.static y).before args s = true) (hinit : (Cond.initialized y.cls).before args s = true)
    (hcode : (Cond.codeWith y bytes maxL ret hh).before args s = true) (hy : y.cls ≠ "java/lang/invoke/MethodHandle" ∧ y.cls ≠ "java/lang/invoke/VarHandle")
    {W9 : Nat} {Pre : Pt → Array Value → Prop} {Post : Pt → Array Value → Option Value → Pt → Prop} {PostX : Pt → Array Value → Addr → Pt → Prop} (hK : vx_Back l R p e below s args y 3 W9 Pre Post PostX)
    {g : JFrame} (hg : g.method = m) (hsize : g.locals.size = c.maxLocals) {argsL rest : List Value} (hlen : ∀ sig, parseMethodDescriptor y.desc = some sig → argsL.length = sig.parameters.length)
    (hstack : g.stack = argsL.reverse ++ rest) (hW : 2 * g.monitorRoom + (rest.map fun v => v.category).sum ≤ W9) (hdg : decode c.code g.pc = .ok (.invokestatic index, 3))
    (hpre : ∀ vm₁, s.WarmedH vm₁ → Pre ⟨T.setVm vm₁, locs, cells, slots⟩ argsL.toArray) :
    (∃ (v : Option Value) (vm₁ : Vm) (B : Pt), s.WarmedH vm₁ ∧ Stand p l e R s m args below meth c B.U B.locs B.cells B.slots ∧ Post ⟨T.setVm vm₁, locs, cells, slots⟩ argsL.toArray v B ∧
      ∀ target, Steps p.tables e below (B.U.setTop { g with pc := g.pc + 3, stack := v.toList ++ rest }) target → Steps p.tables e below (T.setTop g) target) ∨
    (∃ (q : Addr) (vm₁ : Vm) (B : Pt), s.WarmedH vm₁ ∧ Stand p l e R s m args below meth c B.U B.locs B.cells B.slots ∧ PostX ⟨T.setVm vm₁, locs, cells, slots⟩ argsL.toArray q B ∧
      Steps p.tables e below (T.setTop g) ((B.U.setTop { g with stack := rest }).pushFrame (.throwing q))) := by
  obtain ⟨mk, methM, cM, hnamed, hmethM, -, -, -, -, -, -, hsigM⟩ := Cond.codeWith_spec hcode
  have hstatic : methM.isStatic = true := Cond.static_spec hnamed hmethM hstat
  obtain ⟨kP, hkP, -⟩ := className_of_methodNamed hnamed
  have hinitP : kP.init = .initialized := Cond.initialized_spec (findClass_of_methodNamed hnamed) hkP hinit
  obtain ⟨vm₁, X₁, hstep₁⟩ := X.invokestatic hexec hown hlink hnamed hmethM hstatic hkP hinitP hy (g := g) hg (argsL := argsL) (rest := rest) (hlen _ hsigM) hstack hdg
  rcases hK m meth c ⟨T.setVm vm₁, locs, cells, slots⟩ { g with stack := rest } (.invokestatic index) mk argsL.toArray X₁ hg hsize hdg hW (X₁.named hnamed) (hpre vm₁ X₁.warmed) with ⟨v, B, X', hpost, hsteps⟩ | ⟨q, B, X', hpost, hsteps⟩
  · exact Or.inl ⟨v, vm₁, B, X₁.warmed, X', hpost, fun target h => hstep₁ _ fun acts => by rw [doInvoke_state]; exact hsteps.trans h⟩
  · exact Or.inr ⟨q, vm₁, B, X₁.warmed, X', hpost, hstep₁ _ fun acts => by rw [doInvoke_state]; exact hsteps⟩
theorem vx_callVW (X : Stand p l e R s m args below meth c T locs cells slots) (hexec : p.tables.exec = Jvm.exec) {own C : String} {index : Nat} {y : MethodName} {bytes : ByteArray} {maxL : Nat} {ret : Option FieldType} {hh : List (Nat × Nat × Nat × Nat)}
    (hown : s.vm.findClass own = some m.cls) (hlink : (Cond.methodLink own index y).before args s = true) (hinst : (Cond.instanceMethod y).before args s = true) (hsel : (Cond.selects C y y).before args s = true)
    (hcode : (Cond.codeWith y bytes maxL ret hh).before args s = true) (hy : y.cls ≠ "java/lang/invoke/MethodHandle" ∧ y.cls ≠ "java/lang/invoke/VarHandle")
    {W9 : Nat} {Pre : Pt → Array Value → Prop} {Post : Pt → Array Value → Option Value → Pt → Prop} (hK : Back l R p e below s args y 3 W9 Pre Post)
    {b : Addr} {cellB : Cell} (hcell : T.heap[b]? = some cellB) (hobj : cellB.vm.isStatics = false) (hcls : s.vm.findClass C = some cellB.cls)
    {g : JFrame} (hg : g.method = m) (hsize : g.locals.size = c.maxLocals) {argsL rest : List Value} (hlen : ∀ sig, parseMethodDescriptor y.desc = some sig → argsL.length = sig.parameters.length)
    (hstack : g.stack = argsL.reverse ++ .ref b :: rest) (hW : 2 * g.monitorRoom + (rest.map fun v => v.category).sum ≤ W9) (hdg : decode c.code g.pc = .ok (.invokevirtual index, 3))
    (hpre : ∀ vm₁, s.WarmedH vm₁ → Pre ⟨T.setVm vm₁, locs, cells, slots⟩ (Value.ref b :: argsL).toArray) :
    ∃ (v : Option Value) (vm₁ : Vm) (B : Pt), s.WarmedH vm₁ ∧ Stand p l e R s m args below meth c B.U B.locs B.cells B.slots ∧ Post ⟨T.setVm vm₁, locs, cells, slots⟩ (Value.ref b :: argsL).toArray v B ∧
      ∀ target, Steps p.tables e below (B.U.setTop { g with pc := g.pc + 3, stack := v.toList ++ rest }) target → Steps p.tables e below (T.setTop g) target := by
  obtain ⟨mk, methM, hnamed, hmethM, hstM, habM⟩ := Cond.instanceMethod_spec hinst
  obtain ⟨m8, methM', cM, hn8, hmethM', -, -, -, -, -, -, hsigM⟩ := Cond.codeWith_spec hcode
  cases Option.some.inj (hn8.symm.trans hnamed)
  cases hmethM.symm.trans hmethM'
  obtain ⟨c2, r2, m2, q1, q2, q3, q4, kP, hkP, hkPi⟩ := Cond.selects_spec hsel
  cases hcls.symm.trans q1
  cases (State.methodFound?_of_named hnamed hy).symm.trans q2
  cases hnamed.symm.trans q3
  have hselP : selectMethod e.platform s.vm cellB.cls mk = .method mk := by rw [Launch.admits_selectMethod X.admits]; exact q4
  obtain ⟨vm₁, X₁, hstep₁⟩ := X.invokevirtual hexec hown hlink hnamed hmethM hstM hkP hkPi hy (a := b) (cell := cellB) hcell
    (fun z h => by rw [h] at hobj; cases hobj) hselP hmethM habM hkP hkPi (g := g) hg (argsL := argsL) (rest := rest) (hlen _ hsigM) hstack hdg
  obtain ⟨v, B, X', hpost, hsteps⟩ := hK m meth c ⟨T.setVm vm₁, locs, cells, slots⟩ { g with stack := rest } (.invokevirtual index) mk (Value.ref b :: argsL).toArray X₁ hg hsize hdg hW (X₁.named hnamed) (hpre vm₁ X₁.warmed)
  exact ⟨v, vm₁, B, X₁.warmed, X', hpost, fun target h => hstep₁ _ fun acts => by rw [doInvoke_state]; exact hsteps.trans h⟩
abbrev vx_CVW (R : Room) (s : State) (args : Array Value) (own C : String) (index : Nat) (y : MethodName) (bytes : ByteArray) (maxL : Nat) (ret : Option FieldType) (hh : List (Nat × Nat × Nat × Nat)) (ws : List Cond) (rm : Room) (mc ms n : Nat) : Prop :=
  (rm.cells = mc ∧ rm.slots = ms ∧ rm.frames + 1 ≤ R.frames ∧ 8 + (maxL + 11) + rm.locals ≤ R.locals ∧ (∀ w ∈ ws, ∀ (a' : Array Value) (U : State), s.WarmedH U.vm → w.before a' U = true) ∧ Cond.codeWith y bytes maxL ret hh ∈ ws) ∧
  (Cond.codeWith y bytes maxL ret hh).before args s = true ∧ (Cond.initialized y.cls).before args s = true ∧ (y.cls ≠ "java/lang/invoke/MethodHandle" ∧ y.cls ≠ "java/lang/invoke/VarHandle") ∧
  (∀ sig, parseMethodDescriptor y.desc = some sig → n = sig.parameters.length) ∧ (Cond.methodLink own index y).before args s = true ∧ (Cond.instanceMethod y).before args s = true ∧ (Cond.selects C y y).before args s = true
theorem vx_cwVW {own C : String} {index maxL mc ms : Nat} {y : MethodName} {bytes : ByteArray} {ret : Option FieldType} {hh : List (Nat × Nat × Nat × Nat)} {Ts ws ws' : List Cond} {rm : Room} (n : Nat) (ht : ∀ w ∈ Ts, w.before args s = true) (hT : GoodIn Ts (wsV own index C y ws)) (hw : ws = Cond.codeWith y bytes maxL ret hh :: ws') (hrc : rm.cells = mc) (hrs : rm.slots = ms)
    (hd : y.cls = C ∧ y.cls ≠ "java/lang/invoke/MethodHandle" ∧ y.cls ≠ "java/lang/invoke/VarHandle" ∧ (parseMethodDescriptor y.desc).map (fun d => d.parameters.length) = some n) (hR : rm.frames + 1 ≤ R.frames ∧ 8 + (maxL + 11) + rm.locals ≤ R.locals) :
    vx_CVW R s args own C index y bytes maxL ret hh ws rm mc ms n := by
  obtain ⟨hC, hd⟩ := hd
  subst hC
  have ok : ∀ w ∈ wsV own index y.cls y ws, w.before args s = true := fun w h => ht w (hT w h).1
  have hG : GoodIn Ts ws := fun w h => hT w (by unfold wsV; exact List.mem_append_right _ h)
  have hc : Cond.codeWith y bytes maxL ret hh ∈ ws := by rw [hw]; exact List.mem_cons_self
  refine ⟨⟨hrc, hrs, hR.1, hR.2, pay_in ht hG, hc⟩, ht _ (hG _ hc).1, ok _ (by simp [wsV]), ⟨hd.1, hd.2.1⟩, fun sig h => ?_, ok _ (by simp [wsV]), ok _ (by simp [wsV]), ok _ (by simp [wsV])⟩
  have h2 := hd.2.2
  rw [h] at h2
  exact (Option.some.inj h2).symm
theorem vx_runVW {y : MethodName} {bytes cc : ByteArray} {maxL nL mc ms n index : Nat} {ret : Option FieldType} {hh : List (Nat × Nat × Nat × Nat)} {ws : List Cond} {rm : Room} {Pc : Array Value → State → Prop} {Qc : Array Value → State → Outcome → State → Prop} {free : Addr → Prop} {Ts : List Cond} {own C : String} {b : Addr} {As rest : List Value} {g : JFrame}
    (S : CallFix p m c cc nL s args Ts own) (hM : Met l y ws rm Pc Qc mc ms free) (cw : vx_CVW R s args own C index y bytes maxL ret hh ws rm mc ms n) (hp : PreV s H C b Pc As)
    (hg : g.method = m) (hn : As.length = n) (hsize : g.locals.size = nL) (hstack : g.stack = As.reverse ++ .ref b :: rest) (hW : 2 * g.monitorRoom + (rest.map fun v => v.category).sum ≤ 8) (hdg : decode cc g.pc = .ok (.invokevirtual index, 3)) (hf : cells + mc ≤ R.cells ∧ slots + ms ≤ R.slots) :
    va_Run p l e R s m args below meth c H locs cells slots mc ms g rest (Qc (Value.ref b :: As).toArray) free := by
  obtain ⟨⟨hrc, hrs, hfr, hlo, hws, hcw⟩, hcode, hini, hy, hlen, hl, hin, hse⟩ := cw
  have hK : Back l R p e below s args y 3 8 (PreOf R mc ms Pc) (PostOf Qc mc ms free) := va_backW (hh := hh) (bytes := bytes) (maxL := maxL) (ret := ret) hM hp.1 hrc hrs hfr hlo hws hcw (fun a' U hW => word_at hW (Or.inl (by first | rfl | simp [Cond.onTables, Cond.keeps, Cond.steady])) hini)
  obtain ⟨hx, hb, hml, ho, -⟩ := S
  obtain ⟨-, ⟨cellB, hcB, hoB, hclB⟩, hPc⟩ := hp
  intro T hT X
  obtain ⟨v, vm₁, ⟨U', l2, c2, s2⟩, hW₁, X', ⟨g', mk, t, L, e1, e2, hq, h1, hL, h2, h3⟩, st⟩ := vx_callVW X hx (C := C) (hh := hh) (bytes := bytes) (maxL := maxL) (ret := ret) ho hl hin hse hcode hy hK (by rw [hT]; exact hcB) hoB hclB hg (hsize.trans hml.symm) (argsL := As) (rest := rest) (fun sig h => hn.trans (hlen sig h)) hstack hW (by rw [hb]; exact hdg)
    (fun vm₁ hW₁ => ⟨hf.1, hf.2, hPc (T.setVm vm₁) hT hW₁⟩)
  dsimp only [Pt.U, Pt.locs, Pt.cells, Pt.slots] at X' e1 e2 h1 h2 h3 st
  subst h1; subst h2; subst h3
  exact ⟨v, (T.setVm vm₁).calling g' mk (Value.ref b :: As).toArray, t, U', L, hT, X', hL, e1, e2, hq, st⟩
section
variable {y : MethodName} {bytes cc : ByteArray} {maxL nL mc ms n index : Nat} {ret : Option FieldType} {ws : List Cond} {rm : Room} {Pc : Array Value → State → Prop} {Qc : Array Value → State → Outcome → State → Prop} {XC : String → State → State → Prop} {free : Addr → Prop} {Ts : List Cond} {own C : String} {b : Addr} {As rest : List Value} {g : JFrame}
theorem vx_runVX {hh : List (Nat × Nat × Nat × Nat)} (S : CallFix p m c cc nL s args Ts own) (hM : vx_Met l y ws rm Pc Qc XC mc ms free) (cw : vx_CVW R s args own C index y bytes maxL ret hh ws rm mc ms n) (hp : PreV s H C b Pc As)
    (hg : g.method = m) (hn : As.length = n) (hsize : g.locals.size = nL) (hstack : g.stack = As.reverse ++ .ref b :: rest) (hW : 2 * g.monitorRoom + (rest.map fun v => v.category).sum ≤ 8) (hdg : decode cc g.pc = .ok (.invokevirtual index, 3)) (hf : cells + mc ≤ R.cells ∧ slots + ms ≤ R.slots) :
    vx_Run p l e R s m args below meth c H locs cells slots mc ms g rest (Qc (Value.ref b :: As).toArray) XC free := by
  obtain ⟨⟨hrc, hrs, hfr, hlo, hws, hcw⟩, hcode, hini, hy, hlen, hl, hin, hse⟩ := cw
  have hK : vx_Back l R p e below s args y 3 8 (PreOf R mc ms Pc) (PostOf Qc mc ms free) (vx_Post XC mc ms free) := vx_backW (hh := hh) (bytes := bytes) (maxL := maxL) (ret := ret) hM hp.1 hrc hrs hfr hlo hws hcw (fun a' U hW => word_at hW (Or.inl (by first | rfl | simp [Cond.onTables, Cond.keeps, Cond.steady])) hini)
  obtain ⟨hx, hb, hml, ho, -⟩ := S
  obtain ⟨-, ⟨cellB, hcB, hoB, hclB⟩, hPc⟩ := hp
  intro T hT X
  rcases vx_callVX X hx (C := C) (hh := hh) (bytes := bytes) (maxL := maxL) (ret := ret) ho hl hin hse hcode hy hK (by rw [hT]; exact hcB) hoB hclB hg (hsize.trans hml.symm) (argsL := As) (rest := rest) (fun sig h => hn.trans (hlen sig h)) hstack hW (by rw [hb]; exact hdg)
    (fun vm₁ hW₁ => ⟨hf.1, hf.2, hPc (T.setVm vm₁) hT hW₁⟩) with ⟨v, vm₁, ⟨U', l2, c2, s2⟩, hW₁, X', ⟨g', mk, t, L, e1, e2, hq, h1, hL, h2, h3⟩, st⟩ | ⟨q, vm₁, ⟨U', l2, c2, s2⟩, hW₁, X', ⟨g', mk, t, L, E, ce, e1, e2, hq, hce, hcv, hcl, h1, hL, h2, h3⟩, st⟩
  · dsimp only [Pt.U, Pt.locs, Pt.cells, Pt.slots] at X' e1 e2 h1 h2 h3 st
    subst h1; subst h2; subst h3
    exact Or.inl ⟨v, (T.setVm vm₁).calling g' mk (Value.ref b :: As).toArray, t, U', L, hT, X', hL, e1, e2, hq, st⟩
  · dsimp only [Pt.U, Pt.locs, Pt.cells, Pt.slots] at X' e1 e2 h1 h2 h3 st hcl
    subst h1; subst h2; subst h3
    exact Or.inr ⟨q, (T.setVm vm₁).calling g' mk (Value.ref b :: As).toArray, t, U', L, E, ce, hT, X', hL, e1, e2, hq, hce, hcv, vx_cls hW₁ hcl, st⟩
theorem vx_runSX {hh : List (Nat × Nat × Nat × Nat)} (S : CallFix p m c cc nL s args Ts own) (hM : vx_Met l y ws rm Pc Qc XC mc ms free) (cw : vx_CSW R s args own index y bytes maxL ret hh ws rm mc ms n) (hp : PreS s H Pc As)
    (hg : g.method = m) (hn : As.length = n) (hsize : g.locals.size = nL) (hstack : g.stack = As.reverse ++ rest) (hW : 2 * g.monitorRoom + (rest.map fun v => v.category).sum ≤ 8) (hdg : decode cc g.pc = .ok (.invokestatic index, 3)) (hf : cells + mc ≤ R.cells ∧ slots + ms ≤ R.slots) :
    vx_Run p l e R s m args below meth c H locs cells slots mc ms g rest (Qc As.toArray) XC free := by
  obtain ⟨⟨hrc, hrs, hfr, hlo, hws, hcw⟩, hcode, hini, hy, hlen, hl, hstt⟩ := cw
  have hK : vx_Back l R p e below s args y 3 8 (PreOf R mc ms Pc) (PostOf Qc mc ms free) (vx_Post XC mc ms free) := vx_backW (hh := hh) (bytes := bytes) (maxL := maxL) (ret := ret) hM hp.1 hrc hrs hfr hlo hws hcw (fun a' U hW => word_at hW (Or.inl (by first | rfl | simp [Cond.onTables, Cond.keeps, Cond.steady])) hini)
  obtain ⟨hx, hb, hml, ho, -⟩ := S
  intro T hT X
  rcases vx_callSX X hx (hh := hh) (bytes := bytes) (maxL := maxL) (ret := ret) ho hl hstt hini hcode hy hK hg (hsize.trans hml.symm) (argsL := As) (rest := rest) (fun sig h => hn.trans (hlen sig h)) hstack hW (by rw [hb]; exact hdg)
    (fun vm₁ hW₁ => ⟨hf.1, hf.2, hp.2 (T.setVm vm₁) hT hW₁⟩) with ⟨v, vm₁, ⟨U', l2, c2, s2⟩, hW₁, X', ⟨g', mk, t, L, e1, e2, hq, h1, hL, h2, h3⟩, st⟩ | ⟨q, vm₁, ⟨U', l2, c2, s2⟩, hW₁, X', ⟨g', mk, t, L, E, ce, e1, e2, hq, hce, hcv, hcl, h1, hL, h2, h3⟩, st⟩
  · dsimp only [Pt.U, Pt.locs, Pt.cells, Pt.slots] at X' e1 e2 h1 h2 h3 st
    subst h1; subst h2; subst h3
    exact Or.inl ⟨v, (T.setVm vm₁).calling g' mk As.toArray, t, U', L, hT, X', hL, e1, e2, hq, st⟩
  · dsimp only [Pt.U, Pt.locs, Pt.cells, Pt.slots] at X' e1 e2 h1 h2 h3 st hcl
    subst h1; subst h2; subst h3
    exact Or.inr ⟨q, (T.setVm vm₁).calling g' mk As.toArray, t, U', L, E, ce, hT, X', hL, e1, e2, hq, hce, hcv, vx_cls hW₁ hcl, st⟩
end
end VXH
theorem vx_ofWH {l : Launch} {y : MethodName} {ws ws' : List Cond} {rm : Room} {Pc : Array Value → State → Prop} {Qc : Array Value → State → Outcome → State → Prop} {XC : String → State → State → Prop} {mc ms : Nat} {free : Addr → Prop} {cc : ByteArray} {maxL : Nat} {ret : Option FieldType} {hh : List (Nat × Nat × Nat × Nat)}
    (hy : plainName y.cls = true) (hw : ws = Cond.codeWith y cc maxL ret hh :: ws')
    (body : ∀ p e s m args below meth c s₁, BodyLoose p l y (headSpec ws rm) cc maxL ret e s m args below meth c s₁ → c.maxLocals = maxL → Pc args s →
      W p l e (headSpec ws rm).room s m args below meth c s.heap [] 0 0 (vx_MQ below Qc XC args s mc ms free) (entryFrame m args maxL)) : vx_Met l y ws rm Pc Qc XC mc ms free := by
  refine MetFree.of_bodyS (code := cc) (maxLocals := maxL) (ret := ret) hy ?_ ?_
  · intro args s m h hn
    obtain ⟨m9, meth, c, hn9, h1, h2, h3, h4, -, h5, h6, -⟩ := Cond.codeWith_spec (atoms_spec (ws := ws) h _ (by rw [hw]; exact List.mem_cons_self))
    cases hn.symm.trans hn9
    exact ⟨meth, c, h1, h2, h3, h4, h5, h6⟩
  · intro p e s m args below meth c s₁ B hml hP _
    have hh0 : s₁.heap = s.heap := by rw [B.state]; rfl
    obtain ⟨t, a1, o, b1, b2, b3⟩ := body p e s m args below meth c s₁ B hml hP s₁ hh0 (Stand.of_body B)
    exact ⟨t, o, a1, b1, b2, b3⟩
/-! ===== END ===== -/

def RX0 : String := "PalletStack$Item"
def TX0 : u_T := fun k => match k with
  | 0 => ("PalletStack$Item", "kind", "I", false)
  | 1 => ("PalletStack$Item", "weight", "I", false)
  | 2 => ("PalletStack$Item", "strength", "I", false)
  | 3 => ("PalletStack$Item", "isTurned", "Z", false)
  | 4 => ("PalletStack$Item", "width", "I", false)
  | 5 => ("PalletStack$Item", "depth", "I", false)
  | 6 => ("PalletStack$Item", "x", "I", false)
  | 7 => ("PalletStack$Item", "y", "I", false)
  | 8 => ("PalletStack$Item", "bottom", "I", false)
  | 9 => ("PalletStack$Item", "top", "I", false)
  | 10 => ("PalletStack$Item", "ground", "I", false)
  | 11 => ("PalletStack$Item", "load", "I", false)
  | 12 => ("PalletStack$Item", "nextLoad", "I", false)
  | 13 => ("PalletStack$Item", "isOnPallet", "Z", false)
  | 14 => ("PalletStack$Item", "isReached", "Z", false)
  | 15 => ("PalletStack$Item", "supportCount", "I", false)
  | 16 => ("PalletStack$Item", "supports", "[LPalletStack$Item;", true)
  | _ => ("PalletStack$Item", "supportCells", "[I", true)
def tyX0 : Nat → FieldType := fun k => match k with
  | 0 => .int
  | 1 => .int
  | 2 => .int
  | 3 => .boolean
  | 4 => .int
  | 5 => .int
  | 6 => .int
  | 7 => .int
  | 8 => .int
  | 9 => .int
  | 10 => .int
  | 11 => .int
  | 12 => .int
  | 13 => .boolean
  | 14 => .boolean
  | 15 => .int
  | 16 => .array (.object "PalletStack$Item")
  | _ => .array .int
abbrev wsX00 : List Cond := u_ws RX0 TX0 18
theorem nmX0 : ∀ a, a < 18 → ∀ b, b < 18 → a ≠ b → (TX0 a).2.1 ≠ (TX0 b).2.1 := by decide +kernel
theorem tyX0_ok : ∀ k, k < 18 → parseFieldDescriptor (TX0 k).2.2.1 = some (tyX0 k) := by decide +kernel
abbrev cX0_init : ByteArray := prog_2_method_1_code
def yX0_init : MethodName := ⟨RX0, "<init>", "()V"⟩
abbrev cX0_shape : ByteArray := prog_2_method_2_code
def yX0_shape : MethodName := ⟨RX0, "shape", "(LPalletStack$Kind;Z)V"⟩
abbrev cX0_cells : ByteArray := prog_2_method_3_code
def yX0_cells : MethodName := ⟨RX0, "cells", "()I"⟩
abbrev cX0_covers : ByteArray := prog_2_method_4_code
def yX0_covers : MethodName := ⟨RX0, "covers", "(II)Z"⟩
abbrev cX0_cellsInCommon : ByteArray := prog_2_method_5_code
def yX0_cellsInCommon : MethodName := ⟨RX0, "cellsInCommon", "(LPalletStack$Item;)I"⟩
abbrev cX0_standsOn : ByteArray := prog_2_method_6_code
def yX0_standsOn : MethodName := ⟨RX0, "standsOn", "(LPalletStack$Item;)Z"⟩
abbrev cX0_addSupport : ByteArray := prog_2_method_7_code
def yX0_addSupport : MethodName := ⟨RX0, "addSupport", "(LPalletStack$Item;I)V"⟩
abbrev cX0_passLoadDown : ByteArray := prog_2_method_8_code
def yX0_passLoadDown : MethodName := ⟨RX0, "passLoadDown", "()V"⟩
abbrev cX0_reachSupports : ByteArray := prog_2_method_9_code
def yX0_reachSupports : MethodName := ⟨RX0, "reachSupports", "()V"⟩
def RX1 : String := "PalletStack$Kind"
def TX1 : u_T := fun k => match k with
  | 0 => ("PalletStack$Kind", "number", "I", true)
  | 1 => ("PalletStack$Kind", "width", "I", true)
  | 2 => ("PalletStack$Kind", "depth", "I", true)
  | 3 => ("PalletStack$Kind", "height", "I", true)
  | 4 => ("PalletStack$Kind", "weight", "I", true)
  | 5 => ("PalletStack$Kind", "strength", "I", true)
  | 6 => ("PalletStack$Kind", "canTurn", "Z", true)
  | _ => ("PalletStack$Kind", "needsDeck", "Z", true)
def tyX1 : Nat → FieldType := fun k => match k with
  | 0 => .int
  | 1 => .int
  | 2 => .int
  | 3 => .int
  | 4 => .int
  | 5 => .int
  | 6 => .boolean
  | _ => .boolean
abbrev wsX10 : List Cond := u_ws RX1 TX1 8
theorem nmX1 : ∀ a, a < 8 → ∀ b, b < 8 → a ≠ b → (TX1 a).2.1 ≠ (TX1 b).2.1 := by decide +kernel
theorem tyX1_ok : ∀ k, k < 8 → parseFieldDescriptor (TX1 k).2.2.1 = some (tyX1 k) := by decide +kernel
abbrev cX1_init : ByteArray := prog_3_method_1_code
def yX1_init : MethodName := ⟨RX1, "<init>", "(IIIIIII)V"⟩
abbrev cX1_comesBefore : ByteArray := prog_3_method_2_code
def yX1_comesBefore : MethodName := ⟨RX1, "comesBefore", "(LPalletStack$Kind;)Z"⟩
def RX2 : String := "PalletStack$Line"
def TX2 : u_T := fun k => match k with
  | 0 => ("PalletStack$Line", "kind", "LPalletStack$Kind;", true)
  | 1 => ("PalletStack$Line", "count", "I", false)
  | _ => ("PalletStack$Line", "isAside", "Z", false)
def tyX2 : Nat → FieldType := fun k => match k with
  | 0 => .object "PalletStack$Kind"
  | 1 => .int
  | _ => .boolean
abbrev wsX20 : List Cond := u_ws RX2 TX2 3
theorem nmX2 : ∀ a, a < 3 → ∀ b, b < 3 → a ≠ b → (TX2 a).2.1 ≠ (TX2 b).2.1 := by decide +kernel
theorem tyX2_ok : ∀ k, k < 3 → parseFieldDescriptor (TX2 k).2.2.1 = some (tyX2 k) := by decide +kernel
abbrev cX2_init : ByteArray := prog_4_method_1_code
def yX2_init : MethodName := ⟨RX2, "<init>", "(LPalletStack$Kind;I)V"⟩
def RX3 : String := "PalletStack"
def TX3 : u_T := fun k => match k with
  | 0 => ("PalletStack", "kinds", "[LPalletStack$Kind;", true)
  | 1 => ("PalletStack", "kindCount", "I", false)
  | 2 => ("PalletStack", "greatestHeight", "I", false)
  | 3 => ("PalletStack", "support", "I", false)
  | 4 => ("PalletStack", "limit", "I", false)
  | 5 => ("PalletStack", "hasCornerRule", "Z", false)
  | 6 => ("PalletStack", "items", "[LPalletStack$Item;", true)
  | 7 => ("PalletStack", "cameCount", "I", false)
  | 8 => ("PalletStack", "onPalletCount", "I", false)
  | 9 => ("PalletStack", "weightOnPallet", "I", false)
  | 10 => ("PalletStack", "tops", "[I", true)
  | 11 => ("PalletStack", "trial", "LPalletStack$Item;", false)
  | 12 => ("PalletStack", "lines", "[LPalletStack$Line;", true)
  | _ => ("PalletStack", "lineCount", "I", false)
def tyX3 : Nat → FieldType := fun k => match k with
  | 0 => .array (.object "PalletStack$Kind")
  | 1 => .int
  | 2 => .int
  | 3 => .int
  | 4 => .int
  | 5 => .boolean
  | 6 => .array (.object "PalletStack$Item")
  | 7 => .int
  | 8 => .int
  | 9 => .int
  | 10 => .array .int
  | 11 => .object "PalletStack$Item"
  | 12 => .array (.object "PalletStack$Line")
  | _ => .int
abbrev wsX30 : List Cond := u_ws RX3 TX3 14
theorem nmX3 : ∀ a, a < 14 → ∀ b, b < 14 → a ≠ b → (TX3 a).2.1 ≠ (TX3 b).2.1 := by decide +kernel
theorem tyX3_ok : ∀ k, k < 14 → parseFieldDescriptor (TX3 k).2.2.1 = some (tyX3 k) := by decide +kernel
abbrev cX3_init : ByteArray := prog_1_method_1_code
def yX3_init : MethodName := ⟨RX3, "<init>", "()V"⟩
abbrev cX3_addKind : ByteArray := prog_1_method_2_code
def yX3_addKind : MethodName := ⟨RX3, "addKind", "(IIIIII)I"⟩
abbrev cX3_setRules : ByteArray := prog_1_method_3_code
def yX3_setRules : MethodName := ⟨RX3, "setRules", "(IIIZ)I"⟩
abbrev cX3_count : ByteArray := prog_1_method_4_code
def yX3_count : MethodName := ⟨RX3, "count", "(I)I"⟩
abbrev cX3_reason : ByteArray := prog_1_method_5_code
def yX3_reason : MethodName := ⟨RX3, "reason", "(IIIZ)I"⟩
abbrev cX3_put : ByteArray := prog_1_method_6_code
def yX3_put : MethodName := ⟨RX3, "put", "(IIIZ)I"⟩
abbrev cX3_takeOff : ByteArray := prog_1_method_7_code
def yX3_takeOff : MethodName := ⟨RX3, "takeOff", "(I)I"⟩
abbrev cX3_item : ByteArray := prog_1_method_8_code
def yX3_item : MethodName := ⟨RX3, "item", "(II)I"⟩
abbrev cX3_top : ByteArray := prog_1_method_9_code
def yX3_top : MethodName := ⟨RX3, "top", "(II)I"⟩
abbrev cX3_at : ByteArray := prog_1_method_10_code
def yX3_at : MethodName := ⟨RX3, "at", "(III)I"⟩
abbrev cX3_restsOn : ByteArray := prog_1_method_11_code
def yX3_restsOn : MethodName := ⟨RX3, "restsOn", "(II)Z"⟩
abbrev cX3_best : ByteArray := prog_1_method_12_code
def yX3_best : MethodName := ⟨RX3, "best", "(I)I"⟩
abbrev cX3_fill : ByteArray := prog_1_method_13_code
def yX3_fill : MethodName := ⟨RX3, "fill", "(II)I"⟩
abbrev cX3_addLine : ByteArray := prog_1_method_14_code
def yX3_addLine : MethodName := ⟨RX3, "addLine", "(II)I"⟩
abbrev cX3_stack : ByteArray := prog_1_method_15_code
def yX3_stack : MethodName := ⟨RX3, "stack", "()I"⟩
abbrev cX3_line : ByteArray := prog_1_method_16_code
def yX3_line : MethodName := ⟨RX3, "line", "(IZ)I"⟩
abbrev cX3_clear : ByteArray := prog_1_method_17_code
def yX3_clear : MethodName := ⟨RX3, "clear", "()I"⟩
abbrev cX3_sum : ByteArray := prog_1_method_18_code
def yX3_sum : MethodName := ⟨RX3, "sum", "(I)I"⟩
abbrev cX3_middle : ByteArray := prog_1_method_19_code
def yX3_middle : MethodName := ⟨RX3, "middle", "(Z)D"⟩
abbrev cX3_filled : ByteArray := prog_1_method_20_code
def yX3_filled : MethodName := ⟨RX3, "filled", "()D"⟩
abbrev cX3_digest : ByteArray := prog_1_method_21_code
def yX3_digest : MethodName := ⟨RX3, "digest", "()J"⟩
abbrev cX3_isWithin : ByteArray := prog_1_method_22_code
def yX3_isWithin : MethodName := ⟨RX3, "isWithin", "(III)Z"⟩
abbrev cX3_isCell : ByteArray := prog_1_method_23_code
def yX3_isCell : MethodName := ⟨RX3, "isCell", "(II)Z"⟩
abbrev cX3_kindOf : ByteArray := prog_1_method_24_code
def yX3_kindOf : MethodName := ⟨RX3, "kindOf", "(I)LPalletStack$Kind;"⟩
abbrev cX3_itemOf : ByteArray := prog_1_method_25_code
def yX3_itemOf : MethodName := ⟨RX3, "itemOf", "(I)LPalletStack$Item;"⟩
abbrev cX3_lineOf : ByteArray := prog_1_method_26_code
def yX3_lineOf : MethodName := ⟨RX3, "lineOf", "(I)LPalletStack$Line;"⟩
abbrev cX3_topOf : ByteArray := prog_1_method_27_code
def yX3_topOf : MethodName := ⟨RX3, "topOf", "(II)I"⟩
abbrev cX3_countOf : ByteArray := prog_1_method_28_code
def yX3_countOf : MethodName := ⟨RX3, "countOf", "(I)I"⟩
abbrev cX3_factOf : ByteArray := prog_1_method_29_code
def yX3_factOf : MethodName := ⟨RX3, "factOf", "(LPalletStack$Item;I)I"⟩
abbrev cX3_sumOf : ByteArray := prog_1_method_30_code
def yX3_sumOf : MethodName := ⟨RX3, "sumOf", "(I)I"⟩
abbrev cX3_withFacts : ByteArray := prog_1_method_31_code
def yX3_withFacts : MethodName := ⟨RX3, "withFacts", "(JLPalletStack$Item;)J"⟩
abbrev cX3_greatestTop : ByteArray := prog_1_method_32_code
def yX3_greatestTop : MethodName := ⟨RX3, "greatestTop", "()I"⟩
abbrev cX3_greatestLoad : ByteArray := prog_1_method_33_code
def yX3_greatestLoad : MethodName := ⟨RX3, "greatestLoad", "()I"⟩
abbrev cX3_coveredDeck : ByteArray := prog_1_method_34_code
def yX3_coveredDeck : MethodName := ⟨RX3, "coveredDeck", "()I"⟩
abbrev cX3_standingOn : ByteArray := prog_1_method_35_code
def yX3_standingOn : MethodName := ⟨RX3, "standingOn", "(LPalletStack$Item;)I"⟩
abbrev cX3_isCarriedBy : ByteArray := prog_1_method_36_code
def yX3_isCarriedBy : MethodName := ⟨RX3, "isCarriedBy", "(LPalletStack$Item;LPalletStack$Item;)Z"⟩
abbrev cX3_forgetNextLoads : ByteArray := prog_1_method_37_code
def yX3_forgetNextLoads : MethodName := ⟨RX3, "forgetNextLoads", "()V"⟩
abbrev cX3_settleLoads : ByteArray := prog_1_method_38_code
def yX3_settleLoads : MethodName := ⟨RX3, "settleLoads", "()V"⟩
abbrev cX3_isTooMuchLoad : ByteArray := prog_1_method_39_code
def yX3_isTooMuchLoad : MethodName := ⟨RX3, "isTooMuchLoad", "()Z"⟩
abbrev cX3_isInField : ByteArray := prog_1_method_40_code
def yX3_isInField : MethodName := ⟨RX3, "isInField", "(LPalletStack$Kind;IIZ)Z"⟩
abbrev cX3_letDown : ByteArray := prog_1_method_41_code
def yX3_letDown : MethodName := ⟨RX3, "letDown", "(LPalletStack$Kind;IIZ)V"⟩
abbrev cX3_findSupports : ByteArray := prog_1_method_42_code
def yX3_findSupports : MethodName := ⟨RX3, "findSupports", "()V"⟩
abbrev cX3_isGround : ByteArray := prog_1_method_43_code
def yX3_isGround : MethodName := ⟨RX3, "isGround", "(II)Z"⟩
abbrev cX3_hasGroundAtCorners : ByteArray := prog_1_method_44_code
def yX3_hasGroundAtCorners : MethodName := ⟨RX3, "hasGroundAtCorners", "()Z"⟩
abbrev cX3_brokenRule : ByteArray := prog_1_method_45_code
def yX3_brokenRule : MethodName := ⟨RX3, "brokenRule", "(LPalletStack$Kind;)I"⟩
abbrev cX3_firstReason : ByteArray := prog_1_method_46_code
def yX3_firstReason : MethodName := ⟨RX3, "firstReason", "(LPalletStack$Kind;IIZ)I"⟩
abbrev cX3_bestPlace : ByteArray := prog_1_method_47_code
def yX3_bestPlace : MethodName := ⟨RX3, "bestPlace", "(LPalletStack$Kind;)I"⟩
abbrev cX3_xOf : ByteArray := prog_1_method_48_code
def yX3_xOf : MethodName := ⟨RX3, "xOf", "(I)I"⟩
abbrev cX3_yOf : ByteArray := prog_1_method_49_code
def yX3_yOf : MethodName := ⟨RX3, "yOf", "(I)I"⟩
abbrev cX3_isTurnedIn : ByteArray := prog_1_method_50_code
def yX3_isTurnedIn : MethodName := ⟨RX3, "isTurnedIn", "(I)Z"⟩
abbrev cX3_putAtBest : ByteArray := prog_1_method_51_code
def yX3_putAtBest : MethodName := ⟨RX3, "putAtBest", "(LPalletStack$Kind;)Z"⟩
abbrev cX3_putTrial : ByteArray := prog_1_method_52_code
def yX3_putTrial : MethodName := ⟨RX3, "putTrial", "()V"⟩
abbrev cX3_layTop : ByteArray := prog_1_method_53_code
def yX3_layTop : MethodName := ⟨RX3, "layTop", "(LPalletStack$Item;)V"⟩
abbrev cX3_layAllTops : ByteArray := prog_1_method_54_code
def yX3_layAllTops : MethodName := ⟨RX3, "layAllTops", "()V"⟩
abbrev cX3_nextLine : ByteArray := prog_1_method_55_code
def yX3_nextLine : MethodName := ⟨RX3, "nextLine", "()LPalletStack$Line;"⟩
def RX4 : String := "PalletStackModel"
def TX4 : u_T := fun k => match k with
  | 0 => ("PalletStackModel", "thrown", "I", false)
  | 1 => ("PalletStackModel", "kinds", "I", false)
  | 2 => ("PalletStackModel", "kindTable", "[I", true)
  | 3 => ("PalletStackModel", "highest", "I", false)
  | 4 => ("PalletStackModel", "support", "I", false)
  | 5 => ("PalletStackModel", "limit", "I", false)
  | 6 => ("PalletStackModel", "areCorners", "Z", false)
  | 7 => ("PalletStackModel", "came", "I", false)
  | 8 => ("PalletStackModel", "table", "[I", true)
  | 9 => ("PalletStackModel", "loads", "[I", true)
  | 10 => ("PalletStackModel", "lines", "I", false)
  | 11 => ("PalletStackModel", "lineKinds", "[I", true)
  | 12 => ("PalletStackModel", "lineCounts", "[I", true)
  | _ => ("PalletStackModel", "tried", "I", false)
def tyX4 : Nat → FieldType := fun k => match k with
  | 0 => .int
  | 1 => .int
  | 2 => .array .int
  | 3 => .int
  | 4 => .int
  | 5 => .int
  | 6 => .boolean
  | 7 => .int
  | 8 => .array .int
  | 9 => .array .int
  | 10 => .int
  | 11 => .array .int
  | 12 => .array .int
  | _ => .int
abbrev wsX40 : List Cond := u_ws RX4 TX4 14
theorem nmX4 : ∀ a, a < 14 → ∀ b, b < 14 → a ≠ b → (TX4 a).2.1 ≠ (TX4 b).2.1 := by decide +kernel
theorem tyX4_ok : ∀ k, k < 14 → parseFieldDescriptor (TX4 k).2.2.1 = some (tyX4 k) := by decide +kernel
abbrev cX4_init : ByteArray := prog_6_method_1_code
def yX4_init : MethodName := ⟨RX4, "<init>", "()V"⟩
abbrev cX4_thrown : ByteArray := prog_6_method_2_code
def yX4_thrown : MethodName := ⟨RX4, "thrown", "()I"⟩
abbrev cX4_fail : ByteArray := prog_6_method_3_code
def yX4_fail : MethodName := ⟨RX4, "fail", "(I)I"⟩
abbrev cX4_isIn : ByteArray := prog_6_method_4_code
def yX4_isIn : MethodName := ⟨RX4, "isIn", "(III)Z"⟩
abbrev cX4_isKind : ByteArray := prog_6_method_5_code
def yX4_isKind : MethodName := ⟨RX4, "isKind", "(I)Z"⟩
abbrev cX4_kind : ByteArray := prog_6_method_6_code
def yX4_kind : MethodName := ⟨RX4, "kind", "(II)I"⟩
abbrev cX4_canTurn : ByteArray := prog_6_method_7_code
def yX4_canTurn : MethodName := ⟨RX4, "canTurn", "(I)Z"⟩
abbrev cX4_needsDeck : ByteArray := prog_6_method_8_code
def yX4_needsDeck : MethodName := ⟨RX4, "needsDeck", "(I)Z"⟩
abbrev cX4_addKind : ByteArray := prog_6_method_9_code
def yX4_addKind : MethodName := ⟨RX4, "addKind", "(IIIIII)I"⟩
abbrev cX4_setRules : ByteArray := prog_6_method_10_code
def yX4_setRules : MethodName := ⟨RX4, "setRules", "(IIIZ)I"⟩
abbrev cX4_present : ByteArray := prog_6_method_11_code
def yX4_present : MethodName := ⟨RX4, "present", "()I"⟩
abbrev cX4_counted : ByteArray := prog_6_method_12_code
def yX4_counted : MethodName := ⟨RX4, "counted", "(I)I"⟩
abbrev cX4_count : ByteArray := prog_6_method_13_code
def yX4_count : MethodName := ⟨RX4, "count", "(I)I"⟩
abbrev cX4_get : ByteArray := prog_6_method_14_code
def yX4_get : MethodName := ⟨RX4, "get", "(II)I"⟩
abbrev cX4_isHere : ByteArray := prog_6_method_15_code
def yX4_isHere : MethodName := ⟨RX4, "isHere", "(I)Z"⟩
abbrev cX4_isItem : ByteArray := prog_6_method_16_code
def yX4_isItem : MethodName := ⟨RX4, "isItem", "(I)Z"⟩
abbrev cX4_wide : ByteArray := prog_6_method_17_code
def yX4_wide : MethodName := ⟨RX4, "wide", "(I)I"⟩
abbrev cX4_deep : ByteArray := prog_6_method_18_code
def yX4_deep : MethodName := ⟨RX4, "deep", "(I)I"⟩
abbrev cX4_topOf : ByteArray := prog_6_method_19_code
def yX4_topOf : MethodName := ⟨RX4, "topOf", "(I)I"⟩
abbrev cX4_covers : ByteArray := prog_6_method_20_code
def yX4_covers : MethodName := ⟨RX4, "covers", "(III)Z"⟩
abbrev cX4_overlap : ByteArray := prog_6_method_21_code
def yX4_overlap : MethodName := ⟨RX4, "overlap", "(IIII)I"⟩
abbrev cX4_common : ByteArray := prog_6_method_22_code
def yX4_common : MethodName := ⟨RX4, "common", "(II)I"⟩
abbrev cX4_standsOn : ByteArray := prog_6_method_23_code
def yX4_standsOn : MethodName := ⟨RX4, "standsOn", "(II)Z"⟩
abbrev cX4_cells : ByteArray := prog_6_method_24_code
def yX4_cells : MethodName := ⟨RX4, "cells", "(I)I"⟩
abbrev cX4_ground : ByteArray := prog_6_method_25_code
def yX4_ground : MethodName := ⟨RX4, "ground", "(I)I"⟩
abbrev cX4_isGround : ByteArray := prog_6_method_26_code
def yX4_isGround : MethodName := ⟨RX4, "isGround", "(III)Z"⟩
abbrev cX4_hasCorners : ByteArray := prog_6_method_27_code
def yX4_hasCorners : MethodName := ⟨RX4, "hasCorners", "(I)Z"⟩
abbrev cX4_weight : ByteArray := prog_6_method_28_code
def yX4_weight : MethodName := ⟨RX4, "weight", "(I)I"⟩
abbrev cX4_reckonLoads : ByteArray := prog_6_method_29_code
def yX4_reckonLoads : MethodName := ⟨RX4, "reckonLoads", "()V"⟩
abbrev cX4_isTooMuch : ByteArray := prog_6_method_30_code
def yX4_isTooMuch : MethodName := ⟨RX4, "isTooMuch", "()Z"⟩
abbrev cX4_weights : ByteArray := prog_6_method_31_code
def yX4_weights : MethodName := ⟨RX4, "weights", "()I"⟩
abbrev cX4_lay : ByteArray := prog_6_method_32_code
def yX4_lay : MethodName := ⟨RX4, "lay", "(IIIIZ)V"⟩
abbrev cX4_why : ByteArray := prog_6_method_33_code
def yX4_why : MethodName := ⟨RX4, "why", "(IIIZ)I"⟩
abbrev cX4_reason : ByteArray := prog_6_method_34_code
def yX4_reason : MethodName := ⟨RX4, "reason", "(IIIZ)I"⟩
abbrev cX4_add : ByteArray := prog_6_method_35_code
def yX4_add : MethodName := ⟨RX4, "add", "(IIIZ)V"⟩
abbrev cX4_put : ByteArray := prog_6_method_36_code
def yX4_put : MethodName := ⟨RX4, "put", "(IIIZ)I"⟩
abbrev cX4_above : ByteArray := prog_6_method_37_code
def yX4_above : MethodName := ⟨RX4, "above", "(I)I"⟩
abbrev cX4_below : ByteArray := prog_6_method_38_code
def yX4_below : MethodName := ⟨RX4, "below", "(I)I"⟩
abbrev cX4_takeOff : ByteArray := prog_6_method_39_code
def yX4_takeOff : MethodName := ⟨RX4, "takeOff", "(I)I"⟩
abbrev cX4_itemTold : ByteArray := prog_6_method_40_code
def yX4_itemTold : MethodName := ⟨RX4, "itemTold", "(II)I"⟩
abbrev cX4_item : ByteArray := prog_6_method_41_code
def yX4_item : MethodName := ⟨RX4, "item", "(II)I"⟩
abbrev cX4_isCell : ByteArray := prog_6_method_42_code
def yX4_isCell : MethodName := ⟨RX4, "isCell", "(II)Z"⟩
abbrev cX4_top : ByteArray := prog_6_method_43_code
def yX4_top : MethodName := ⟨RX4, "top", "(II)I"⟩
abbrev cX4_at : ByteArray := prog_6_method_44_code
def yX4_at : MethodName := ⟨RX4, "at", "(III)I"⟩
abbrev cX4_rests : ByteArray := prog_6_method_45_code
def yX4_rests : MethodName := ⟨RX4, "rests", "(II)Z"⟩
abbrev cX4_restsOn : ByteArray := prog_6_method_46_code
def yX4_restsOn : MethodName := ⟨RX4, "restsOn", "(II)Z"⟩
abbrev cX4_bestFor : ByteArray := prog_6_method_47_code
def yX4_bestFor : MethodName := ⟨RX4, "bestFor", "(I)I"⟩
abbrev cX4_best : ByteArray := prog_6_method_48_code
def yX4_best : MethodName := ⟨RX4, "best", "(I)I"⟩
abbrev cX4_putBest : ByteArray := prog_6_method_49_code
def yX4_putBest : MethodName := ⟨RX4, "putBest", "(I)Z"⟩
abbrev cX4_fill : ByteArray := prog_6_method_50_code
def yX4_fill : MethodName := ⟨RX4, "fill", "(II)I"⟩
abbrev cX4_addLine : ByteArray := prog_6_method_51_code
def yX4_addLine : MethodName := ⟨RX4, "addLine", "(II)I"⟩
abbrev cX4_isAhead : ByteArray := prog_6_method_52_code
def yX4_isAhead : MethodName := ⟨RX4, "isAhead", "(II)Z"⟩
abbrev cX4_stack : ByteArray := prog_6_method_53_code
def yX4_stack : MethodName := ⟨RX4, "stack", "()I"⟩
abbrev cX4_line : ByteArray := prog_6_method_54_code
def yX4_line : MethodName := ⟨RX4, "line", "(IZ)I"⟩
abbrev cX4_clear : ByteArray := prog_6_method_55_code
def yX4_clear : MethodName := ⟨RX4, "clear", "()I"⟩
abbrev cX4_sumOf : ByteArray := prog_6_method_56_code
def yX4_sumOf : MethodName := ⟨RX4, "sumOf", "(I)I"⟩
abbrev cX4_sum : ByteArray := prog_6_method_57_code
def yX4_sum : MethodName := ⟨RX4, "sum", "(I)I"⟩
abbrev cX4_middle : ByteArray := prog_6_method_58_code
def yX4_middle : MethodName := ⟨RX4, "middle", "(Z)D"⟩
abbrev cX4_filled : ByteArray := prog_6_method_59_code
def yX4_filled : MethodName := ⟨RX4, "filled", "()D"⟩
abbrev cX4_digest : ByteArray := prog_6_method_60_code
def yX4_digest : MethodName := ⟨RX4, "digest", "()J"⟩
def RJ9 : String := "java/lang/Math"
def TJ9 : u_T := fun k => match k with
  | _ => ("", "", "", false)
def tyJ9 : Nat → FieldType := fun k => match k with
  | _ => .int
abbrev wsJ90 : List Cond := u_ws RJ9 TJ9 0
theorem nmJ9 : ∀ a, a < 0 → ∀ b, b < 0 → a ≠ b → (TJ9 a).2.1 ≠ (TJ9 b).2.1 := by decide +kernel
theorem tyJ9_ok : ∀ k, k < 0 → parseFieldDescriptor (TJ9 k).2.2.1 = some (tyJ9 k) := by decide +kernel
abbrev cJ9_max_7cf53 : ByteArray := prog_11_method_65_code
def yJ9_max_7cf53 : MethodName := ⟨RJ9, "max", "(II)I"⟩
abbrev cJ9_min_7cf53 : ByteArray := prog_11_method_69_code
def yJ9_min_7cf53 : MethodName := ⟨RJ9, "min", "(II)I"⟩
def RJ10 : String := "java/lang/System"
def TJ10 : u_T := fun k => match k with
  | _ => ("", "", "", false)
def tyJ10 : Nat → FieldType := fun k => match k with
  | _ => .int
abbrev wsJ100 : List Cond := u_ws RJ10 TJ10 0
theorem nmJ10 : ∀ a, a < 0 → ∀ b, b < 0 → a ≠ b → (TJ10 a).2.1 ≠ (TJ10 b).2.1 := by decide +kernel
theorem tyJ10_ok : ∀ k, k < 0 → parseFieldDescriptor (TJ10 k).2.2.1 = some (tyJ10 k) := by decide +kernel
def RL : String := "PalletStackLaw"
abbrev cL_addKind : ByteArray := method_3_code
def yL_addKind : MethodName := ⟨RL, "addKind", "(LPalletStack;IIIIII[J)I"⟩
abbrev cL_setRules : ByteArray := method_4_code
def yL_setRules : MethodName := ⟨RL, "setRules", "(LPalletStack;IIIZ[J)I"⟩
abbrev cL_count : ByteArray := method_5_code
def yL_count : MethodName := ⟨RL, "count", "(LPalletStack;I[J)I"⟩
abbrev cL_reason : ByteArray := method_6_code
def yL_reason : MethodName := ⟨RL, "reason", "(LPalletStack;IIIZ[J)I"⟩
abbrev cL_put : ByteArray := method_7_code
def yL_put : MethodName := ⟨RL, "put", "(LPalletStack;IIIZ[J)I"⟩
abbrev cL_takeOff : ByteArray := method_8_code
def yL_takeOff : MethodName := ⟨RL, "takeOff", "(LPalletStack;I[J)I"⟩
abbrev cL_item : ByteArray := method_9_code
def yL_item : MethodName := ⟨RL, "item", "(LPalletStack;II[J)I"⟩
abbrev cL_top : ByteArray := method_10_code
def yL_top : MethodName := ⟨RL, "top", "(LPalletStack;II[J)I"⟩
abbrev cL_at : ByteArray := method_11_code
def yL_at : MethodName := ⟨RL, "at", "(LPalletStack;III[J)I"⟩
abbrev cL_restsOn : ByteArray := method_12_code
def yL_restsOn : MethodName := ⟨RL, "restsOn", "(LPalletStack;II[J)I"⟩
abbrev cL_best : ByteArray := method_13_code
def yL_best : MethodName := ⟨RL, "best", "(LPalletStack;I[J)I"⟩
abbrev cL_fill : ByteArray := method_14_code
def yL_fill : MethodName := ⟨RL, "fill", "(LPalletStack;II[J)I"⟩
abbrev cL_addLine : ByteArray := method_15_code
def yL_addLine : MethodName := ⟨RL, "addLine", "(LPalletStack;II[J)I"⟩
abbrev cL_line : ByteArray := method_16_code
def yL_line : MethodName := ⟨RL, "line", "(LPalletStack;IZ[J)I"⟩
abbrev cL_sum : ByteArray := method_17_code
def yL_sum : MethodName := ⟨RL, "sum", "(LPalletStack;I[J)I"⟩
abbrev cL_law : ByteArray := code
def yL_law : MethodName := ⟨RL, "law", "([I)Z"⟩
def wsX0_init : List Cond := .code yX0_init cX0_init 1 none :: ([.methodLink RX0 3 objectInit, .instanceMethod objectInit, .code objectInit ⟨#[0xb1]⟩ 1 none, .fieldLink RX0 9 "PalletStack$Item" "kind" "I", .fieldLink RX0 15 "PalletStack$Item" "weight" "I", .fieldLink RX0 18 "PalletStack$Item" "strength" "I", .fieldLink RX0 21 "PalletStack$Item" "isTurned" "Z", .fieldLink RX0 25 "PalletStack$Item" "width" "I", .fieldLink RX0 28 "PalletStack$Item" "depth" "I", .fieldLink RX0 31 "PalletStack$Item" "x" "I", .fieldLink RX0 34 "PalletStack$Item" "y" "I", .fieldLink RX0 37 "PalletStack$Item" "bottom" "I", .fieldLink RX0 40 "PalletStack$Item" "top" "I", .fieldLink RX0 43 "PalletStack$Item" "ground" "I", .fieldLink RX0 46 "PalletStack$Item" "load" "I", .fieldLink RX0 49 "PalletStack$Item" "nextLoad" "I", .fieldLink RX0 52 "PalletStack$Item" "isOnPallet" "Z", .fieldLink RX0 55 "PalletStack$Item" "isReached" "Z", .fieldLink RX0 58 "PalletStack$Item" "supportCount" "I", .classLink RX0 10 RX0, .fieldLink RX0 61 "PalletStack$Item" "supports" "[LPalletStack$Item;", .arrayClass .int, .fieldLink RX0 65 "PalletStack$Item" "supportCells" "[I"] ++ wsX00)
def wsX0_shape : List Cond := .code yX0_shape cX0_shape 3 none :: ([.fieldLink RX0 69 "PalletStack$Kind" "number" "I", .fieldLink RX0 9 "PalletStack$Item" "kind" "I", .fieldLink RX0 74 "PalletStack$Kind" "weight" "I", .fieldLink RX0 15 "PalletStack$Item" "weight" "I", .fieldLink RX0 75 "PalletStack$Kind" "strength" "I", .fieldLink RX0 18 "PalletStack$Item" "strength" "I", .fieldLink RX0 21 "PalletStack$Item" "isTurned" "Z", .fieldLink RX0 76 "PalletStack$Kind" "depth" "I", .fieldLink RX0 77 "PalletStack$Kind" "width" "I", .fieldLink RX0 25 "PalletStack$Item" "width" "I", .fieldLink RX0 28 "PalletStack$Item" "depth" "I"] ++ wsX10 ++ wsX00)
def wsX1_init : List Cond := .code yX1_init cX1_init 8 none :: ([.methodLink RX1 1 objectInit, .instanceMethod objectInit, .code objectInit ⟨#[0xb1]⟩ 1 none, .fieldLink RX1 7 "PalletStack$Kind" "number" "I", .fieldLink RX1 13 "PalletStack$Kind" "width" "I", .fieldLink RX1 16 "PalletStack$Kind" "depth" "I", .fieldLink RX1 19 "PalletStack$Kind" "height" "I", .fieldLink RX1 22 "PalletStack$Kind" "weight" "I", .fieldLink RX1 25 "PalletStack$Kind" "strength" "I", .fieldLink RX1 28 "PalletStack$Kind" "canTurn" "Z", .fieldLink RX1 32 "PalletStack$Kind" "needsDeck" "Z"] ++ wsX10)
def wsX1_comesBefore : List Cond := .code yX1_comesBefore cX1_comesBefore 2 (some .boolean) :: ([.fieldLink RX1 32 "PalletStack$Kind" "needsDeck" "Z", .fieldLink RX1 25 "PalletStack$Kind" "strength" "I", .fieldLink RX1 22 "PalletStack$Kind" "weight" "I"] ++ wsX10)
def wsX2_init : List Cond := .code yX2_init cX2_init 3 none :: ([.methodLink RX2 1 objectInit, .instanceMethod objectInit, .code objectInit ⟨#[0xb1]⟩ 1 none, .fieldLink RX2 7 "PalletStack$Line" "isAside" "Z", .fieldLink RX2 13 "PalletStack$Line" "kind" "LPalletStack$Kind;", .fieldLink RX2 17 "PalletStack$Line" "count" "I"] ++ wsX20)
def wsX3_init_r1 : List Cond := [Cond.methodLink RX3 3 objectInit, Cond.instanceMethod objectInit, Cond.code objectInit ⟨#[0xb1]⟩ 1 none, Cond.classLink RX3 9 RX1, Cond.fieldLink RX3 11 "PalletStack" "kinds" "[LPalletStack$Kind;", Cond.fieldLink RX3 15 "PalletStack" "kindCount" "I", Cond.fieldLink RX3 19 "PalletStack" "greatestHeight" "I", Cond.fieldLink RX3 22 "PalletStack" "support" "I", Cond.fieldLink RX3 25 "PalletStack" "limit" "I", Cond.fieldLink RX3 28 "PalletStack" "hasCornerRule" "Z", Cond.classLink RX3 32 RX0, Cond.fieldLink RX3 34 "PalletStack" "items" "[LPalletStack$Item;", Cond.fieldLink RX3 38 "PalletStack" "cameCount" "I", Cond.fieldLink RX3 41 "PalletStack" "onPalletCount" "I", Cond.fieldLink RX3 44 "PalletStack" "weightOnPallet" "I", Cond.arrayClass .int, Cond.fieldLink RX3 47 "PalletStack" "tops" "[I", Cond.instantiable RX0 18, Cond.initialized RX0, Cond.fieldLink RX3 52 "PalletStack" "trial" "LPalletStack$Item;", Cond.classLink RX3 56 RX2, Cond.fieldLink RX3 58 "PalletStack" "lines" "[LPalletStack$Line;", Cond.fieldLink RX3 62 "PalletStack" "lineCount" "I", Cond.instanceMethod yX0_init]
def wsX3_init_r2 : List Cond := [Cond.code yX0_init cX0_init 1 none, Cond.methodLink RX0 3 objectInit, Cond.fieldLink RX0 9 "PalletStack$Item" "kind" "I", Cond.fieldLink RX0 15 "PalletStack$Item" "weight" "I", Cond.fieldLink RX0 18 "PalletStack$Item" "strength" "I", Cond.fieldLink RX0 21 "PalletStack$Item" "isTurned" "Z", Cond.fieldLink RX0 25 "PalletStack$Item" "width" "I", Cond.fieldLink RX0 28 "PalletStack$Item" "depth" "I", Cond.fieldLink RX0 31 "PalletStack$Item" "x" "I", Cond.fieldLink RX0 34 "PalletStack$Item" "y" "I", Cond.fieldLink RX0 37 "PalletStack$Item" "bottom" "I", Cond.fieldLink RX0 40 "PalletStack$Item" "top" "I", Cond.fieldLink RX0 43 "PalletStack$Item" "ground" "I", Cond.fieldLink RX0 46 "PalletStack$Item" "load" "I", Cond.fieldLink RX0 49 "PalletStack$Item" "nextLoad" "I", Cond.fieldLink RX0 52 "PalletStack$Item" "isOnPallet" "Z", Cond.fieldLink RX0 55 "PalletStack$Item" "isReached" "Z", Cond.fieldLink RX0 58 "PalletStack$Item" "supportCount" "I", Cond.classLink RX0 10 RX0, Cond.fieldLink RX0 61 "PalletStack$Item" "supports" "[LPalletStack$Item;", Cond.fieldLink RX0 65 "PalletStack$Item" "supportCells" "[I"]
def wsX3_init : List Cond := .code yX3_init cX3_init 2 none :: ((wsX3_init_r1 ++ wsX3_init_r2) ++ wsX30 ++ wsX00)
def wsX3_isWithin : List Cond := .code yX3_isWithin cX3_isWithin 3 (some .boolean) :: ([])
def wsX3_addKind_r1 : List Cond := [Cond.classLink RX3 69 "java/lang/IllegalArgumentException", Cond.initialized "java/lang/IllegalArgumentException", Cond.classLink RX3 72 "java/lang/IllegalStateException", Cond.initialized "java/lang/IllegalStateException", Cond.fieldLink RX3 15 "PalletStack" "kindCount" "I", Cond.fieldLink RX3 11 "PalletStack" "kinds" "[LPalletStack$Kind;", Cond.classLink RX3 9 RX1, Cond.instantiable RX1 8, Cond.initialized RX1, Cond.methodLink RX3 65 yX3_isWithin, Cond.static yX3_isWithin, Cond.initialized RX3, Cond.code yX3_isWithin cX3_isWithin 3 (some .boolean), Cond.methodLink RX3 75 yX1_init, Cond.instanceMethod yX1_init, Cond.code yX1_init cX1_init 8 none, Cond.methodLink RX1 1 objectInit, Cond.instanceMethod objectInit, Cond.code objectInit ⟨#[0xb1]⟩ 1 none, Cond.fieldLink RX1 7 "PalletStack$Kind" "number" "I", Cond.fieldLink RX1 13 "PalletStack$Kind" "width" "I", Cond.fieldLink RX1 16 "PalletStack$Kind" "depth" "I", Cond.fieldLink RX1 19 "PalletStack$Kind" "height" "I", Cond.fieldLink RX1 22 "PalletStack$Kind" "weight" "I"]
def wsX3_addKind_r2 : List Cond := [Cond.fieldLink RX1 25 "PalletStack$Kind" "strength" "I", Cond.fieldLink RX1 28 "PalletStack$Kind" "canTurn" "Z", Cond.fieldLink RX1 32 "PalletStack$Kind" "needsDeck" "Z"]
def wsX3_addKind : List Cond := .code yX3_addKind cX3_addKind 8 (some .int) :: ((wsX3_addKind_r1 ++ wsX3_addKind_r2) ++ wsX30 ++ wsX10 ++ (vx_at0 RX3 71 "java/lang/IllegalArgumentException" ["java/lang/RuntimeException", "java/lang/Exception"]).filter goodWord ++ (vx_at0 RX3 74 "java/lang/IllegalStateException" ["java/lang/RuntimeException", "java/lang/Exception"]).filter goodWord)
def wsX3_setRules : List Cond := .code yX3_setRules cX3_setRules 6 (some .int) :: ([.classLink RX3 69 "java/lang/IllegalArgumentException", .initialized "java/lang/IllegalArgumentException", .fieldLink RX3 19 "PalletStack" "greatestHeight" "I", .fieldLink RX3 22 "PalletStack" "support" "I", .fieldLink RX3 25 "PalletStack" "limit" "I", .fieldLink RX3 28 "PalletStack" "hasCornerRule" "Z", .methodLink RX3 65 yX3_isWithin, .static yX3_isWithin, .initialized RX3, .code yX3_isWithin cX3_isWithin 3 (some .boolean)] ++ wsX30 ++ (vx_at0 RX3 71 "java/lang/IllegalArgumentException" ["java/lang/RuntimeException", "java/lang/Exception"]).filter goodWord)
def wsX3_kindOf : List Cond := .code yX3_kindOf cX3_kindOf 2 (some (.object "PalletStack$Kind")) :: ([.fieldLink RX3 15 "PalletStack" "kindCount" "I", .fieldLink RX3 11 "PalletStack" "kinds" "[LPalletStack$Kind;", .methodLink RX3 65 yX3_isWithin, .static yX3_isWithin, .initialized RX3, .code yX3_isWithin cX3_isWithin 3 (some .boolean)] ++ wsX30)
def wsX3_isInField : List Cond := .code yX3_isInField cX3_isInField 6 (some .boolean) :: ([.fieldLink RX3 245 "PalletStack$Kind" "canTurn" "Z", .fieldLink RX3 248 "PalletStack$Kind" "depth" "I", .fieldLink RX3 249 "PalletStack$Kind" "width" "I", .methodLink RX3 65 yX3_isWithin, .static yX3_isWithin, .initialized RX3, .code yX3_isWithin cX3_isWithin 3 (some .boolean)] ++ wsX10)
def wsX3_topOf : List Cond := .code yX3_topOf cX3_topOf 4 (some .int) :: ([.fieldLink RX3 47 "PalletStack" "tops" "[I"] ++ wsX30)
def wsX3_letDown_r1 : List Cond := [Cond.fieldLink RX3 52 "PalletStack" "trial" "LPalletStack$Item;", Cond.fieldLink RX3 182 "PalletStack$Item" "x" "I", Cond.fieldLink RX3 176 "PalletStack$Item" "y" "I", Cond.fieldLink RX3 179 "PalletStack$Item" "depth" "I", Cond.fieldLink RX3 185 "PalletStack$Item" "width" "I", Cond.fieldLink RX3 131 "PalletStack$Item" "bottom" "I", Cond.fieldLink RX3 254 "PalletStack$Kind" "height" "I", Cond.fieldLink RX3 134 "PalletStack$Item" "top" "I", Cond.fieldLink RX3 214 "PalletStack$Item" "ground" "I", Cond.methodLink RX3 250 yX0_shape, Cond.instanceMethod yX0_shape, Cond.selects RX0 yX0_shape yX0_shape, Cond.initialized RX0, Cond.code yX0_shape cX0_shape 3 none, Cond.fieldLink RX0 69 "PalletStack$Kind" "number" "I", Cond.fieldLink RX0 9 "PalletStack$Item" "kind" "I", Cond.fieldLink RX0 74 "PalletStack$Kind" "weight" "I", Cond.fieldLink RX0 15 "PalletStack$Item" "weight" "I", Cond.fieldLink RX0 75 "PalletStack$Kind" "strength" "I", Cond.fieldLink RX0 18 "PalletStack$Item" "strength" "I", Cond.fieldLink RX0 21 "PalletStack$Item" "isTurned" "Z", Cond.fieldLink RX0 76 "PalletStack$Kind" "depth" "I", Cond.fieldLink RX0 77 "PalletStack$Kind" "width" "I", Cond.fieldLink RX0 25 "PalletStack$Item" "width" "I"]
def wsX3_letDown_r2 : List Cond := [Cond.fieldLink RX0 28 "PalletStack$Item" "depth" "I", Cond.methodLink RX3 124 yX3_topOf, Cond.instanceMethod yX3_topOf, Cond.selects RX3 yX3_topOf yX3_topOf, Cond.initialized RX3, Cond.code yX3_topOf cX3_topOf 4 (some .int), Cond.fieldLink RX3 47 "PalletStack" "tops" "[I"]
def wsX3_letDown : List Cond := .code yX3_letDown cX3_letDown 10 none :: ((wsX3_letDown_r1 ++ wsX3_letDown_r2) ++ wsX30 ++ wsX00 ++ wsX10)
def wsX3_brokenRule_r1 : List Cond := [Cond.fieldLink RX3 52 "PalletStack" "trial" "LPalletStack$Item;", Cond.fieldLink RX3 134 "PalletStack$Item" "top" "I", Cond.fieldLink RX3 19 "PalletStack" "greatestHeight" "I", Cond.fieldLink RX3 267 "PalletStack$Kind" "needsDeck" "Z", Cond.fieldLink RX3 131 "PalletStack$Item" "bottom" "I", Cond.fieldLink RX3 214 "PalletStack$Item" "ground" "I", Cond.fieldLink RX3 22 "PalletStack" "support" "I", Cond.fieldLink RX3 28 "PalletStack" "hasCornerRule" "Z", Cond.fieldLink RX3 44 "PalletStack" "weightOnPallet" "I", Cond.fieldLink RX3 107 "PalletStack$Item" "weight" "I", Cond.fieldLink RX3 25 "PalletStack" "limit" "I", Cond.methodLink RX3 188 yX0_cells, Cond.instanceMethod yX0_cells, Cond.selects RX0 yX0_cells yX0_cells, Cond.initialized RX0, Cond.code yX0_cells cX0_cells 1 (some .int), Cond.fieldLink RX0 25 "PalletStack$Item" "width" "I", Cond.fieldLink RX0 28 "PalletStack$Item" "depth" "I", Cond.methodLink RX3 270 yX3_hasGroundAtCorners, Cond.instanceMethod yX3_hasGroundAtCorners, Cond.selects RX3 yX3_hasGroundAtCorners yX3_hasGroundAtCorners, Cond.initialized RX3, Cond.code yX3_hasGroundAtCorners cX3_hasGroundAtCorners 3 (some .boolean), Cond.fieldLink RX3 182 "PalletStack$Item" "x" "I"]
def wsX3_brokenRule_r2 : List Cond := [Cond.fieldLink RX3 185 "PalletStack$Item" "width" "I", Cond.fieldLink RX3 176 "PalletStack$Item" "y" "I", Cond.fieldLink RX3 179 "PalletStack$Item" "depth" "I", Cond.methodLink RX3 264 yX3_isGround, Cond.instanceMethod yX3_isGround, Cond.selects RX3 yX3_isGround yX3_isGround, Cond.code yX3_isGround cX3_isGround 3 (some .boolean), Cond.methodLink RX3 124 yX3_topOf, Cond.instanceMethod yX3_topOf, Cond.selects RX3 yX3_topOf yX3_topOf, Cond.code yX3_topOf cX3_topOf 4 (some .int), Cond.fieldLink RX3 47 "PalletStack" "tops" "[I", Cond.methodLink RX3 274 yX3_findSupports, Cond.instanceMethod yX3_findSupports, Cond.selects RX3 yX3_findSupports yX3_findSupports, Cond.code yX3_findSupports cX3_findSupports 3 none, Cond.fieldLink RX3 211 "PalletStack$Item" "supportCount" "I", Cond.fieldLink RX3 38 "PalletStack" "cameCount" "I", Cond.methodLink RX3 96 yX3_itemOf, Cond.instanceMethod yX3_itemOf, Cond.selects RX3 yX3_itemOf yX3_itemOf, Cond.code yX3_itemOf cX3_itemOf 3 (some (.object "PalletStack$Item")), Cond.fieldLink RX3 34 "PalletStack" "items" "[LPalletStack$Item;", Cond.fieldLink RX3 104 "PalletStack$Item" "isOnPallet" "Z"]
def wsX3_brokenRule_r3 : List Cond := [Cond.methodLink RX3 257 yX0_cellsInCommon, Cond.instanceMethod yX0_cellsInCommon, Cond.selects RX0 yX0_cellsInCommon yX0_cellsInCommon, Cond.code yX0_cellsInCommon cX0_cellsInCommon 4 (some .int), Cond.fieldLink RX0 31 "PalletStack$Item" "x" "I", Cond.methodLink RX0 78 Lib.Math.min.name, Cond.static Lib.Math.min.name, Cond.initialized "java/lang/Math", Cond.code Lib.Math.min.name Lib.Math.min.code 2 (some .int), Cond.methodLink RX0 84 Lib.Math.max.name, Cond.static Lib.Math.max.name, Cond.code Lib.Math.max.name Lib.Math.max.code 2 (some .int), Cond.fieldLink RX0 34 "PalletStack$Item" "y" "I", Cond.methodLink RX3 260 yX0_addSupport, Cond.instanceMethod yX0_addSupport, Cond.selects RX0 yX0_addSupport yX0_addSupport, Cond.code yX0_addSupport cX0_addSupport 3 none, Cond.fieldLink RX0 58 "PalletStack$Item" "supportCount" "I", Cond.fieldLink RX0 61 "PalletStack$Item" "supports" "[LPalletStack$Item;", Cond.fieldLink RX0 65 "PalletStack$Item" "supportCells" "[I", Cond.methodLink RX3 277 yX3_isTooMuchLoad, Cond.instanceMethod yX3_isTooMuchLoad, Cond.selects RX3 yX3_isTooMuchLoad yX3_isTooMuchLoad, Cond.code yX3_isTooMuchLoad cX3_isTooMuchLoad 3 (some .boolean)]
def wsX3_brokenRule_r4 : List Cond := [Cond.fieldLink RX3 233 "PalletStack$Item" "nextLoad" "I", Cond.fieldLink RX3 242 "PalletStack$Item" "strength" "I", Cond.methodLink RX3 236 yX3_forgetNextLoads, Cond.instanceMethod yX3_forgetNextLoads, Cond.selects RX3 yX3_forgetNextLoads yX3_forgetNextLoads, Cond.code yX3_forgetNextLoads cX3_forgetNextLoads 3 none, Cond.methodLink RX3 239 yX0_passLoadDown, Cond.instanceMethod yX0_passLoadDown, Cond.selects RX0 yX0_passLoadDown yX0_passLoadDown, Cond.code yX0_passLoadDown cX0_passLoadDown 3 none, Cond.fieldLink RX0 43 "PalletStack$Item" "ground" "I", Cond.fieldLink RX0 49 "PalletStack$Item" "nextLoad" "I", Cond.fieldLink RX0 15 "PalletStack$Item" "weight" "I"]
def wsX3_brokenRule : List Cond := .code yX3_brokenRule cX3_brokenRule 2 (some .int) :: ((wsX3_brokenRule_r1 ++ (wsX3_brokenRule_r2 ++ (wsX3_brokenRule_r3 ++ wsX3_brokenRule_r4))) ++ wsX30 ++ wsX00 ++ wsX10)
def wsX3_xOf : List Cond := .code yX3_xOf cX3_xOf 1 (some .int) :: ([])
def wsX3_yOf : List Cond := .code yX3_yOf cX3_yOf 1 (some .int) :: ([])
def wsX3_isTurnedIn : List Cond := .code yX3_isTurnedIn cX3_isTurnedIn 1 (some .boolean) :: ([])
def wsX3_bestPlace_r1 : List Cond := [Cond.fieldLink RX3 52 "PalletStack" "trial" "LPalletStack$Item;", Cond.fieldLink RX3 131 "PalletStack$Item" "bottom" "I", Cond.fieldLink RX3 214 "PalletStack$Item" "ground" "I", Cond.methodLink RX3 291 yX3_xOf, Cond.static yX3_xOf, Cond.initialized RX3, Cond.code yX3_xOf cX3_xOf 1 (some .int), Cond.methodLink RX3 294 yX3_yOf, Cond.static yX3_yOf, Cond.code yX3_yOf cX3_yOf 1 (some .int), Cond.methodLink RX3 297 yX3_isTurnedIn, Cond.static yX3_isTurnedIn, Cond.code yX3_isTurnedIn cX3_isTurnedIn 1 (some .boolean), Cond.methodLink RX3 280 yX3_isInField, Cond.static yX3_isInField, Cond.code yX3_isInField cX3_isInField 6 (some .boolean), Cond.fieldLink RX3 245 "PalletStack$Kind" "canTurn" "Z", Cond.fieldLink RX3 248 "PalletStack$Kind" "depth" "I", Cond.fieldLink RX3 249 "PalletStack$Kind" "width" "I", Cond.methodLink RX3 65 yX3_isWithin, Cond.static yX3_isWithin, Cond.code yX3_isWithin cX3_isWithin 3 (some .boolean), Cond.methodLink RX3 284 yX3_letDown, Cond.instanceMethod yX3_letDown]
def wsX3_bestPlace_r2 : List Cond := [Cond.selects RX3 yX3_letDown yX3_letDown, Cond.code yX3_letDown cX3_letDown 10 none, Cond.fieldLink RX3 182 "PalletStack$Item" "x" "I", Cond.fieldLink RX3 176 "PalletStack$Item" "y" "I", Cond.fieldLink RX3 179 "PalletStack$Item" "depth" "I", Cond.fieldLink RX3 185 "PalletStack$Item" "width" "I", Cond.fieldLink RX3 254 "PalletStack$Kind" "height" "I", Cond.fieldLink RX3 134 "PalletStack$Item" "top" "I", Cond.methodLink RX3 250 yX0_shape, Cond.instanceMethod yX0_shape, Cond.selects RX0 yX0_shape yX0_shape, Cond.initialized RX0, Cond.code yX0_shape cX0_shape 3 none, Cond.fieldLink RX0 69 "PalletStack$Kind" "number" "I", Cond.fieldLink RX0 9 "PalletStack$Item" "kind" "I", Cond.fieldLink RX0 74 "PalletStack$Kind" "weight" "I", Cond.fieldLink RX0 15 "PalletStack$Item" "weight" "I", Cond.fieldLink RX0 75 "PalletStack$Kind" "strength" "I", Cond.fieldLink RX0 18 "PalletStack$Item" "strength" "I", Cond.fieldLink RX0 21 "PalletStack$Item" "isTurned" "Z", Cond.fieldLink RX0 76 "PalletStack$Kind" "depth" "I", Cond.fieldLink RX0 77 "PalletStack$Kind" "width" "I", Cond.fieldLink RX0 25 "PalletStack$Item" "width" "I", Cond.fieldLink RX0 28 "PalletStack$Item" "depth" "I"]
def wsX3_bestPlace_r3 : List Cond := [Cond.methodLink RX3 124 yX3_topOf, Cond.instanceMethod yX3_topOf, Cond.selects RX3 yX3_topOf yX3_topOf, Cond.code yX3_topOf cX3_topOf 4 (some .int), Cond.fieldLink RX3 47 "PalletStack" "tops" "[I", Cond.methodLink RX3 288 yX3_brokenRule, Cond.instanceMethod yX3_brokenRule, Cond.selects RX3 yX3_brokenRule yX3_brokenRule, Cond.code yX3_brokenRule cX3_brokenRule 2 (some .int), Cond.fieldLink RX3 19 "PalletStack" "greatestHeight" "I", Cond.fieldLink RX3 267 "PalletStack$Kind" "needsDeck" "Z", Cond.fieldLink RX3 22 "PalletStack" "support" "I", Cond.fieldLink RX3 28 "PalletStack" "hasCornerRule" "Z", Cond.fieldLink RX3 44 "PalletStack" "weightOnPallet" "I", Cond.fieldLink RX3 107 "PalletStack$Item" "weight" "I", Cond.fieldLink RX3 25 "PalletStack" "limit" "I", Cond.methodLink RX3 188 yX0_cells, Cond.instanceMethod yX0_cells, Cond.selects RX0 yX0_cells yX0_cells, Cond.code yX0_cells cX0_cells 1 (some .int), Cond.methodLink RX3 270 yX3_hasGroundAtCorners, Cond.instanceMethod yX3_hasGroundAtCorners, Cond.selects RX3 yX3_hasGroundAtCorners yX3_hasGroundAtCorners, Cond.code yX3_hasGroundAtCorners cX3_hasGroundAtCorners 3 (some .boolean)]
def wsX3_bestPlace_r4 : List Cond := [Cond.methodLink RX3 264 yX3_isGround, Cond.instanceMethod yX3_isGround, Cond.selects RX3 yX3_isGround yX3_isGround, Cond.code yX3_isGround cX3_isGround 3 (some .boolean), Cond.methodLink RX3 274 yX3_findSupports, Cond.instanceMethod yX3_findSupports, Cond.selects RX3 yX3_findSupports yX3_findSupports, Cond.code yX3_findSupports cX3_findSupports 3 none, Cond.fieldLink RX3 211 "PalletStack$Item" "supportCount" "I", Cond.fieldLink RX3 38 "PalletStack" "cameCount" "I", Cond.methodLink RX3 96 yX3_itemOf, Cond.instanceMethod yX3_itemOf, Cond.selects RX3 yX3_itemOf yX3_itemOf, Cond.code yX3_itemOf cX3_itemOf 3 (some (.object "PalletStack$Item")), Cond.fieldLink RX3 34 "PalletStack" "items" "[LPalletStack$Item;", Cond.fieldLink RX3 104 "PalletStack$Item" "isOnPallet" "Z", Cond.methodLink RX3 257 yX0_cellsInCommon, Cond.instanceMethod yX0_cellsInCommon, Cond.selects RX0 yX0_cellsInCommon yX0_cellsInCommon, Cond.code yX0_cellsInCommon cX0_cellsInCommon 4 (some .int), Cond.fieldLink RX0 31 "PalletStack$Item" "x" "I", Cond.methodLink RX0 78 Lib.Math.min.name, Cond.static Lib.Math.min.name, Cond.initialized "java/lang/Math"]
def wsX3_bestPlace_r5 : List Cond := [Cond.code Lib.Math.min.name Lib.Math.min.code 2 (some .int), Cond.methodLink RX0 84 Lib.Math.max.name, Cond.static Lib.Math.max.name, Cond.code Lib.Math.max.name Lib.Math.max.code 2 (some .int), Cond.fieldLink RX0 34 "PalletStack$Item" "y" "I", Cond.methodLink RX3 260 yX0_addSupport, Cond.instanceMethod yX0_addSupport, Cond.selects RX0 yX0_addSupport yX0_addSupport, Cond.code yX0_addSupport cX0_addSupport 3 none, Cond.fieldLink RX0 58 "PalletStack$Item" "supportCount" "I", Cond.fieldLink RX0 61 "PalletStack$Item" "supports" "[LPalletStack$Item;", Cond.fieldLink RX0 65 "PalletStack$Item" "supportCells" "[I", Cond.methodLink RX3 277 yX3_isTooMuchLoad, Cond.instanceMethod yX3_isTooMuchLoad, Cond.selects RX3 yX3_isTooMuchLoad yX3_isTooMuchLoad, Cond.code yX3_isTooMuchLoad cX3_isTooMuchLoad 3 (some .boolean), Cond.fieldLink RX3 233 "PalletStack$Item" "nextLoad" "I", Cond.fieldLink RX3 242 "PalletStack$Item" "strength" "I", Cond.methodLink RX3 236 yX3_forgetNextLoads, Cond.instanceMethod yX3_forgetNextLoads, Cond.selects RX3 yX3_forgetNextLoads yX3_forgetNextLoads, Cond.code yX3_forgetNextLoads cX3_forgetNextLoads 3 none, Cond.methodLink RX3 239 yX0_passLoadDown, Cond.instanceMethod yX0_passLoadDown]
def wsX3_bestPlace_r6 : List Cond := [Cond.selects RX0 yX0_passLoadDown yX0_passLoadDown, Cond.code yX0_passLoadDown cX0_passLoadDown 3 none, Cond.fieldLink RX0 43 "PalletStack$Item" "ground" "I", Cond.fieldLink RX0 49 "PalletStack$Item" "nextLoad" "I"]
def wsX3_bestPlace : List Cond := .code yX3_bestPlace cX3_bestPlace 7 (some .int) :: ((wsX3_bestPlace_r1 ++ (wsX3_bestPlace_r2 ++ (wsX3_bestPlace_r3 ++ (wsX3_bestPlace_r4 ++ (wsX3_bestPlace_r5 ++ wsX3_bestPlace_r6))))) ++ wsX30 ++ wsX00 ++ wsX10)
def wsX3_putAtBest_r1 : List Cond := [Cond.fieldLink RX3 38 "PalletStack" "cameCount" "I", Cond.methodLink RX3 141 yX3_bestPlace, Cond.instanceMethod yX3_bestPlace, Cond.selects RX3 yX3_bestPlace yX3_bestPlace, Cond.initialized RX3, Cond.code yX3_bestPlace cX3_bestPlace 7 (some .int), Cond.fieldLink RX3 52 "PalletStack" "trial" "LPalletStack$Item;", Cond.fieldLink RX3 131 "PalletStack$Item" "bottom" "I", Cond.fieldLink RX3 214 "PalletStack$Item" "ground" "I", Cond.methodLink RX3 291 yX3_xOf, Cond.static yX3_xOf, Cond.code yX3_xOf cX3_xOf 1 (some .int), Cond.methodLink RX3 294 yX3_yOf, Cond.static yX3_yOf, Cond.code yX3_yOf cX3_yOf 1 (some .int), Cond.methodLink RX3 297 yX3_isTurnedIn, Cond.static yX3_isTurnedIn, Cond.code yX3_isTurnedIn cX3_isTurnedIn 1 (some .boolean), Cond.methodLink RX3 280 yX3_isInField, Cond.static yX3_isInField, Cond.code yX3_isInField cX3_isInField 6 (some .boolean), Cond.fieldLink RX3 245 "PalletStack$Kind" "canTurn" "Z", Cond.fieldLink RX3 248 "PalletStack$Kind" "depth" "I", Cond.fieldLink RX3 249 "PalletStack$Kind" "width" "I"]
def wsX3_putAtBest_r2 : List Cond := [Cond.methodLink RX3 65 yX3_isWithin, Cond.static yX3_isWithin, Cond.code yX3_isWithin cX3_isWithin 3 (some .boolean), Cond.methodLink RX3 284 yX3_letDown, Cond.instanceMethod yX3_letDown, Cond.selects RX3 yX3_letDown yX3_letDown, Cond.code yX3_letDown cX3_letDown 10 none, Cond.fieldLink RX3 182 "PalletStack$Item" "x" "I", Cond.fieldLink RX3 176 "PalletStack$Item" "y" "I", Cond.fieldLink RX3 179 "PalletStack$Item" "depth" "I", Cond.fieldLink RX3 185 "PalletStack$Item" "width" "I", Cond.fieldLink RX3 254 "PalletStack$Kind" "height" "I", Cond.fieldLink RX3 134 "PalletStack$Item" "top" "I", Cond.methodLink RX3 250 yX0_shape, Cond.instanceMethod yX0_shape, Cond.selects RX0 yX0_shape yX0_shape, Cond.initialized RX0, Cond.code yX0_shape cX0_shape 3 none, Cond.fieldLink RX0 69 "PalletStack$Kind" "number" "I", Cond.fieldLink RX0 9 "PalletStack$Item" "kind" "I", Cond.fieldLink RX0 74 "PalletStack$Kind" "weight" "I", Cond.fieldLink RX0 15 "PalletStack$Item" "weight" "I", Cond.fieldLink RX0 75 "PalletStack$Kind" "strength" "I", Cond.fieldLink RX0 18 "PalletStack$Item" "strength" "I"]
def wsX3_putAtBest_r3 : List Cond := [Cond.fieldLink RX0 21 "PalletStack$Item" "isTurned" "Z", Cond.fieldLink RX0 76 "PalletStack$Kind" "depth" "I", Cond.fieldLink RX0 77 "PalletStack$Kind" "width" "I", Cond.fieldLink RX0 25 "PalletStack$Item" "width" "I", Cond.fieldLink RX0 28 "PalletStack$Item" "depth" "I", Cond.methodLink RX3 124 yX3_topOf, Cond.instanceMethod yX3_topOf, Cond.selects RX3 yX3_topOf yX3_topOf, Cond.code yX3_topOf cX3_topOf 4 (some .int), Cond.fieldLink RX3 47 "PalletStack" "tops" "[I", Cond.methodLink RX3 288 yX3_brokenRule, Cond.instanceMethod yX3_brokenRule, Cond.selects RX3 yX3_brokenRule yX3_brokenRule, Cond.code yX3_brokenRule cX3_brokenRule 2 (some .int), Cond.fieldLink RX3 19 "PalletStack" "greatestHeight" "I", Cond.fieldLink RX3 267 "PalletStack$Kind" "needsDeck" "Z", Cond.fieldLink RX3 22 "PalletStack" "support" "I", Cond.fieldLink RX3 28 "PalletStack" "hasCornerRule" "Z", Cond.fieldLink RX3 44 "PalletStack" "weightOnPallet" "I", Cond.fieldLink RX3 107 "PalletStack$Item" "weight" "I", Cond.fieldLink RX3 25 "PalletStack" "limit" "I", Cond.methodLink RX3 188 yX0_cells, Cond.instanceMethod yX0_cells, Cond.selects RX0 yX0_cells yX0_cells]
def wsX3_putAtBest_r4 : List Cond := [Cond.code yX0_cells cX0_cells 1 (some .int), Cond.methodLink RX3 270 yX3_hasGroundAtCorners, Cond.instanceMethod yX3_hasGroundAtCorners, Cond.selects RX3 yX3_hasGroundAtCorners yX3_hasGroundAtCorners, Cond.code yX3_hasGroundAtCorners cX3_hasGroundAtCorners 3 (some .boolean), Cond.methodLink RX3 264 yX3_isGround, Cond.instanceMethod yX3_isGround, Cond.selects RX3 yX3_isGround yX3_isGround, Cond.code yX3_isGround cX3_isGround 3 (some .boolean), Cond.methodLink RX3 274 yX3_findSupports, Cond.instanceMethod yX3_findSupports, Cond.selects RX3 yX3_findSupports yX3_findSupports, Cond.code yX3_findSupports cX3_findSupports 3 none, Cond.fieldLink RX3 211 "PalletStack$Item" "supportCount" "I", Cond.methodLink RX3 96 yX3_itemOf, Cond.instanceMethod yX3_itemOf, Cond.selects RX3 yX3_itemOf yX3_itemOf, Cond.code yX3_itemOf cX3_itemOf 3 (some (.object "PalletStack$Item")), Cond.fieldLink RX3 34 "PalletStack" "items" "[LPalletStack$Item;", Cond.fieldLink RX3 104 "PalletStack$Item" "isOnPallet" "Z", Cond.methodLink RX3 257 yX0_cellsInCommon, Cond.instanceMethod yX0_cellsInCommon, Cond.selects RX0 yX0_cellsInCommon yX0_cellsInCommon, Cond.code yX0_cellsInCommon cX0_cellsInCommon 4 (some .int)]
def wsX3_putAtBest_r5 : List Cond := [Cond.fieldLink RX0 31 "PalletStack$Item" "x" "I", Cond.methodLink RX0 78 Lib.Math.min.name, Cond.static Lib.Math.min.name, Cond.initialized "java/lang/Math", Cond.code Lib.Math.min.name Lib.Math.min.code 2 (some .int), Cond.methodLink RX0 84 Lib.Math.max.name, Cond.static Lib.Math.max.name, Cond.code Lib.Math.max.name Lib.Math.max.code 2 (some .int), Cond.fieldLink RX0 34 "PalletStack$Item" "y" "I", Cond.methodLink RX3 260 yX0_addSupport, Cond.instanceMethod yX0_addSupport, Cond.selects RX0 yX0_addSupport yX0_addSupport, Cond.code yX0_addSupport cX0_addSupport 3 none, Cond.fieldLink RX0 58 "PalletStack$Item" "supportCount" "I", Cond.fieldLink RX0 61 "PalletStack$Item" "supports" "[LPalletStack$Item;", Cond.fieldLink RX0 65 "PalletStack$Item" "supportCells" "[I", Cond.methodLink RX3 277 yX3_isTooMuchLoad, Cond.instanceMethod yX3_isTooMuchLoad, Cond.selects RX3 yX3_isTooMuchLoad yX3_isTooMuchLoad, Cond.code yX3_isTooMuchLoad cX3_isTooMuchLoad 3 (some .boolean), Cond.fieldLink RX3 233 "PalletStack$Item" "nextLoad" "I", Cond.fieldLink RX3 242 "PalletStack$Item" "strength" "I", Cond.methodLink RX3 236 yX3_forgetNextLoads, Cond.instanceMethod yX3_forgetNextLoads]
def wsX3_putAtBest_r6 : List Cond := [Cond.selects RX3 yX3_forgetNextLoads yX3_forgetNextLoads, Cond.code yX3_forgetNextLoads cX3_forgetNextLoads 3 none, Cond.methodLink RX3 239 yX0_passLoadDown, Cond.instanceMethod yX0_passLoadDown, Cond.selects RX0 yX0_passLoadDown yX0_passLoadDown, Cond.code yX0_passLoadDown cX0_passLoadDown 3 none, Cond.fieldLink RX0 43 "PalletStack$Item" "ground" "I", Cond.fieldLink RX0 49 "PalletStack$Item" "nextLoad" "I", Cond.methodLink RX3 93 yX3_putTrial, Cond.instanceMethod yX3_putTrial, Cond.selects RX3 yX3_putTrial yX3_putTrial, Cond.code yX3_putTrial cX3_putTrial 3 none, Cond.fieldLink RX3 41 "PalletStack" "onPalletCount" "I", Cond.methodLink RX3 301 yX3_layTop, Cond.instanceMethod yX3_layTop, Cond.selects RX3 yX3_layTop yX3_layTop, Cond.code yX3_layTop cX3_layTop 4 none, Cond.methodLink RX3 120 yX3_isCell, Cond.static yX3_isCell, Cond.code yX3_isCell cX3_isCell 2 (some .boolean), Cond.methodLink RX3 113 yX3_settleLoads, Cond.instanceMethod yX3_settleLoads, Cond.selects RX3 yX3_settleLoads yX3_settleLoads, Cond.code yX3_settleLoads cX3_settleLoads 3 none]
def wsX3_putAtBest_r7 : List Cond := [Cond.fieldLink RX3 208 "PalletStack$Item" "load" "I"]
def wsX3_putAtBest : List Cond := .code yX3_putAtBest cX3_putAtBest 3 (some .boolean) :: ((wsX3_putAtBest_r1 ++ (wsX3_putAtBest_r2 ++ (wsX3_putAtBest_r3 ++ (wsX3_putAtBest_r4 ++ (wsX3_putAtBest_r5 ++ (wsX3_putAtBest_r6 ++ wsX3_putAtBest_r7)))))) ++ wsX30 ++ wsX00 ++ wsX10)
def wsX3_addLine_r1 : List Cond := [Cond.classLink RX3 78 "java/lang/IndexOutOfBoundsException", Cond.initialized "java/lang/IndexOutOfBoundsException", Cond.classLink RX3 69 "java/lang/IllegalArgumentException", Cond.initialized "java/lang/IllegalArgumentException", Cond.classLink RX3 72 "java/lang/IllegalStateException", Cond.initialized "java/lang/IllegalStateException", Cond.fieldLink RX3 62 "PalletStack" "lineCount" "I", Cond.fieldLink RX3 58 "PalletStack" "lines" "[LPalletStack$Line;", Cond.classLink RX3 56 RX2, Cond.instantiable RX2 3, Cond.initialized RX2, Cond.methodLink RX3 85 yX3_kindOf, Cond.instanceMethod yX3_kindOf, Cond.selects RX3 yX3_kindOf yX3_kindOf, Cond.initialized RX3, Cond.code yX3_kindOf cX3_kindOf 2 (some (.object "PalletStack$Kind")), Cond.fieldLink RX3 15 "PalletStack" "kindCount" "I", Cond.fieldLink RX3 11 "PalletStack" "kinds" "[LPalletStack$Kind;", Cond.methodLink RX3 65 yX3_isWithin, Cond.static yX3_isWithin, Cond.code yX3_isWithin cX3_isWithin 3 (some .boolean), Cond.methodLink RX3 149 yX2_init, Cond.instanceMethod yX2_init, Cond.code yX2_init cX2_init 3 none]
def wsX3_addLine_r2 : List Cond := [Cond.methodLink RX2 1 objectInit, Cond.instanceMethod objectInit, Cond.code objectInit ⟨#[0xb1]⟩ 1 none, Cond.fieldLink RX2 7 "PalletStack$Line" "isAside" "Z", Cond.fieldLink RX2 13 "PalletStack$Line" "kind" "LPalletStack$Kind;", Cond.fieldLink RX2 17 "PalletStack$Line" "count" "I"]
def wsX3_addLine : List Cond := .code yX3_addLine cX3_addLine 5 (some .int) :: ((wsX3_addLine_r1 ++ wsX3_addLine_r2) ++ wsX30 ++ wsX20 ++ (vx_at0 RX3 80 "java/lang/IndexOutOfBoundsException" ["java/lang/RuntimeException", "java/lang/Exception"]).filter goodWord ++ (vx_at0 RX3 71 "java/lang/IllegalArgumentException" ["java/lang/RuntimeException", "java/lang/Exception"]).filter goodWord ++ (vx_at0 RX3 74 "java/lang/IllegalStateException" ["java/lang/RuntimeException", "java/lang/Exception"]).filter goodWord)
def wsX3_lineOf : List Cond := .code yX3_lineOf cX3_lineOf 2 (some (.object "PalletStack$Line")) :: ([.fieldLink RX3 62 "PalletStack" "lineCount" "I", .fieldLink RX3 58 "PalletStack" "lines" "[LPalletStack$Line;", .methodLink RX3 65 yX3_isWithin, .static yX3_isWithin, .initialized RX3, .code yX3_isWithin cX3_isWithin 3 (some .boolean)] ++ wsX30)
def wsX3_nextLine : List Cond := .code yX3_nextLine cX3_nextLine 4 (some (.object "PalletStack$Line")) :: ([.fieldLink RX3 62 "PalletStack" "lineCount" "I", .fieldLink RX3 167 "PalletStack$Line" "count" "I", .fieldLink RX3 156 "PalletStack$Line" "isAside" "Z", .fieldLink RX3 163 "PalletStack$Line" "kind" "LPalletStack$Kind;", .methodLink RX3 152 yX3_lineOf, .instanceMethod yX3_lineOf, .selects RX3 yX3_lineOf yX3_lineOf, .initialized RX3, .code yX3_lineOf cX3_lineOf 2 (some (.object "PalletStack$Line")), .fieldLink RX3 58 "PalletStack" "lines" "[LPalletStack$Line;", .methodLink RX3 65 yX3_isWithin, .static yX3_isWithin, .code yX3_isWithin cX3_isWithin 3 (some .boolean), .methodLink RX3 305 yX1_comesBefore, .instanceMethod yX1_comesBefore, .selects RX1 yX1_comesBefore yX1_comesBefore, .initialized RX1, .code yX1_comesBefore cX1_comesBefore 2 (some .boolean), .fieldLink RX1 32 "PalletStack$Kind" "needsDeck" "Z", .fieldLink RX1 25 "PalletStack$Kind" "strength" "I", .fieldLink RX1 22 "PalletStack$Kind" "weight" "I"] ++ wsX30 ++ wsX20 ++ wsX10)
def wsX3_stack_r1 : List Cond := [Cond.fieldLink RX3 62 "PalletStack" "lineCount" "I", Cond.fieldLink RX3 156 "PalletStack$Line" "isAside" "Z", Cond.fieldLink RX3 163 "PalletStack$Line" "kind" "LPalletStack$Kind;", Cond.fieldLink RX3 167 "PalletStack$Line" "count" "I", Cond.methodLink RX3 152 yX3_lineOf, Cond.instanceMethod yX3_lineOf, Cond.selects RX3 yX3_lineOf yX3_lineOf, Cond.initialized RX3, Cond.code yX3_lineOf cX3_lineOf 2 (some (.object "PalletStack$Line")), Cond.fieldLink RX3 58 "PalletStack" "lines" "[LPalletStack$Line;", Cond.methodLink RX3 65 yX3_isWithin, Cond.static yX3_isWithin, Cond.code yX3_isWithin cX3_isWithin 3 (some .boolean), Cond.methodLink RX3 159 yX3_nextLine, Cond.instanceMethod yX3_nextLine, Cond.selects RX3 yX3_nextLine yX3_nextLine, Cond.code yX3_nextLine cX3_nextLine 4 (some (.object "PalletStack$Line")), Cond.methodLink RX3 305 yX1_comesBefore, Cond.instanceMethod yX1_comesBefore, Cond.selects RX1 yX1_comesBefore yX1_comesBefore, Cond.initialized RX1, Cond.code yX1_comesBefore cX1_comesBefore 2 (some .boolean), Cond.fieldLink RX1 32 "PalletStack$Kind" "needsDeck" "Z", Cond.fieldLink RX1 25 "PalletStack$Kind" "strength" "I"]
def wsX3_stack_r2 : List Cond := [Cond.fieldLink RX1 22 "PalletStack$Kind" "weight" "I", Cond.methodLink RX3 145 yX3_putAtBest, Cond.instanceMethod yX3_putAtBest, Cond.selects RX3 yX3_putAtBest yX3_putAtBest, Cond.code yX3_putAtBest cX3_putAtBest 3 (some .boolean), Cond.fieldLink RX3 38 "PalletStack" "cameCount" "I", Cond.methodLink RX3 141 yX3_bestPlace, Cond.instanceMethod yX3_bestPlace, Cond.selects RX3 yX3_bestPlace yX3_bestPlace, Cond.code yX3_bestPlace cX3_bestPlace 7 (some .int), Cond.fieldLink RX3 52 "PalletStack" "trial" "LPalletStack$Item;", Cond.fieldLink RX3 131 "PalletStack$Item" "bottom" "I", Cond.fieldLink RX3 214 "PalletStack$Item" "ground" "I", Cond.methodLink RX3 291 yX3_xOf, Cond.static yX3_xOf, Cond.code yX3_xOf cX3_xOf 1 (some .int), Cond.methodLink RX3 294 yX3_yOf, Cond.static yX3_yOf, Cond.code yX3_yOf cX3_yOf 1 (some .int), Cond.methodLink RX3 297 yX3_isTurnedIn, Cond.static yX3_isTurnedIn, Cond.code yX3_isTurnedIn cX3_isTurnedIn 1 (some .boolean), Cond.methodLink RX3 280 yX3_isInField, Cond.static yX3_isInField]
def wsX3_stack_r3 : List Cond := [Cond.code yX3_isInField cX3_isInField 6 (some .boolean), Cond.fieldLink RX3 245 "PalletStack$Kind" "canTurn" "Z", Cond.fieldLink RX3 248 "PalletStack$Kind" "depth" "I", Cond.fieldLink RX3 249 "PalletStack$Kind" "width" "I", Cond.methodLink RX3 284 yX3_letDown, Cond.instanceMethod yX3_letDown, Cond.selects RX3 yX3_letDown yX3_letDown, Cond.code yX3_letDown cX3_letDown 10 none, Cond.fieldLink RX3 182 "PalletStack$Item" "x" "I", Cond.fieldLink RX3 176 "PalletStack$Item" "y" "I", Cond.fieldLink RX3 179 "PalletStack$Item" "depth" "I", Cond.fieldLink RX3 185 "PalletStack$Item" "width" "I", Cond.fieldLink RX3 254 "PalletStack$Kind" "height" "I", Cond.fieldLink RX3 134 "PalletStack$Item" "top" "I", Cond.methodLink RX3 250 yX0_shape, Cond.instanceMethod yX0_shape, Cond.selects RX0 yX0_shape yX0_shape, Cond.initialized RX0, Cond.code yX0_shape cX0_shape 3 none, Cond.fieldLink RX0 69 "PalletStack$Kind" "number" "I", Cond.fieldLink RX0 9 "PalletStack$Item" "kind" "I", Cond.fieldLink RX0 74 "PalletStack$Kind" "weight" "I", Cond.fieldLink RX0 15 "PalletStack$Item" "weight" "I", Cond.fieldLink RX0 75 "PalletStack$Kind" "strength" "I"]
def wsX3_stack_r4 : List Cond := [Cond.fieldLink RX0 18 "PalletStack$Item" "strength" "I", Cond.fieldLink RX0 21 "PalletStack$Item" "isTurned" "Z", Cond.fieldLink RX0 76 "PalletStack$Kind" "depth" "I", Cond.fieldLink RX0 77 "PalletStack$Kind" "width" "I", Cond.fieldLink RX0 25 "PalletStack$Item" "width" "I", Cond.fieldLink RX0 28 "PalletStack$Item" "depth" "I", Cond.methodLink RX3 124 yX3_topOf, Cond.instanceMethod yX3_topOf, Cond.selects RX3 yX3_topOf yX3_topOf, Cond.code yX3_topOf cX3_topOf 4 (some .int), Cond.fieldLink RX3 47 "PalletStack" "tops" "[I", Cond.methodLink RX3 288 yX3_brokenRule, Cond.instanceMethod yX3_brokenRule, Cond.selects RX3 yX3_brokenRule yX3_brokenRule, Cond.code yX3_brokenRule cX3_brokenRule 2 (some .int), Cond.fieldLink RX3 19 "PalletStack" "greatestHeight" "I", Cond.fieldLink RX3 267 "PalletStack$Kind" "needsDeck" "Z", Cond.fieldLink RX3 22 "PalletStack" "support" "I", Cond.fieldLink RX3 28 "PalletStack" "hasCornerRule" "Z", Cond.fieldLink RX3 44 "PalletStack" "weightOnPallet" "I", Cond.fieldLink RX3 107 "PalletStack$Item" "weight" "I", Cond.fieldLink RX3 25 "PalletStack" "limit" "I", Cond.methodLink RX3 188 yX0_cells, Cond.instanceMethod yX0_cells]
def wsX3_stack_r5 : List Cond := [Cond.selects RX0 yX0_cells yX0_cells, Cond.code yX0_cells cX0_cells 1 (some .int), Cond.methodLink RX3 270 yX3_hasGroundAtCorners, Cond.instanceMethod yX3_hasGroundAtCorners, Cond.selects RX3 yX3_hasGroundAtCorners yX3_hasGroundAtCorners, Cond.code yX3_hasGroundAtCorners cX3_hasGroundAtCorners 3 (some .boolean), Cond.methodLink RX3 264 yX3_isGround, Cond.instanceMethod yX3_isGround, Cond.selects RX3 yX3_isGround yX3_isGround, Cond.code yX3_isGround cX3_isGround 3 (some .boolean), Cond.methodLink RX3 274 yX3_findSupports, Cond.instanceMethod yX3_findSupports, Cond.selects RX3 yX3_findSupports yX3_findSupports, Cond.code yX3_findSupports cX3_findSupports 3 none, Cond.fieldLink RX3 211 "PalletStack$Item" "supportCount" "I", Cond.methodLink RX3 96 yX3_itemOf, Cond.instanceMethod yX3_itemOf, Cond.selects RX3 yX3_itemOf yX3_itemOf, Cond.code yX3_itemOf cX3_itemOf 3 (some (.object "PalletStack$Item")), Cond.fieldLink RX3 34 "PalletStack" "items" "[LPalletStack$Item;", Cond.fieldLink RX3 104 "PalletStack$Item" "isOnPallet" "Z", Cond.methodLink RX3 257 yX0_cellsInCommon, Cond.instanceMethod yX0_cellsInCommon, Cond.selects RX0 yX0_cellsInCommon yX0_cellsInCommon]
def wsX3_stack_r6 : List Cond := [Cond.code yX0_cellsInCommon cX0_cellsInCommon 4 (some .int), Cond.fieldLink RX0 31 "PalletStack$Item" "x" "I", Cond.methodLink RX0 78 Lib.Math.min.name, Cond.static Lib.Math.min.name, Cond.initialized "java/lang/Math", Cond.code Lib.Math.min.name Lib.Math.min.code 2 (some .int), Cond.methodLink RX0 84 Lib.Math.max.name, Cond.static Lib.Math.max.name, Cond.code Lib.Math.max.name Lib.Math.max.code 2 (some .int), Cond.fieldLink RX0 34 "PalletStack$Item" "y" "I", Cond.methodLink RX3 260 yX0_addSupport, Cond.instanceMethod yX0_addSupport, Cond.selects RX0 yX0_addSupport yX0_addSupport, Cond.code yX0_addSupport cX0_addSupport 3 none, Cond.fieldLink RX0 58 "PalletStack$Item" "supportCount" "I", Cond.fieldLink RX0 61 "PalletStack$Item" "supports" "[LPalletStack$Item;", Cond.fieldLink RX0 65 "PalletStack$Item" "supportCells" "[I", Cond.methodLink RX3 277 yX3_isTooMuchLoad, Cond.instanceMethod yX3_isTooMuchLoad, Cond.selects RX3 yX3_isTooMuchLoad yX3_isTooMuchLoad, Cond.code yX3_isTooMuchLoad cX3_isTooMuchLoad 3 (some .boolean), Cond.fieldLink RX3 233 "PalletStack$Item" "nextLoad" "I", Cond.fieldLink RX3 242 "PalletStack$Item" "strength" "I", Cond.methodLink RX3 236 yX3_forgetNextLoads]
def wsX3_stack_r7 : List Cond := [Cond.instanceMethod yX3_forgetNextLoads, Cond.selects RX3 yX3_forgetNextLoads yX3_forgetNextLoads, Cond.code yX3_forgetNextLoads cX3_forgetNextLoads 3 none, Cond.methodLink RX3 239 yX0_passLoadDown, Cond.instanceMethod yX0_passLoadDown, Cond.selects RX0 yX0_passLoadDown yX0_passLoadDown, Cond.code yX0_passLoadDown cX0_passLoadDown 3 none, Cond.fieldLink RX0 43 "PalletStack$Item" "ground" "I", Cond.fieldLink RX0 49 "PalletStack$Item" "nextLoad" "I", Cond.methodLink RX3 93 yX3_putTrial, Cond.instanceMethod yX3_putTrial, Cond.selects RX3 yX3_putTrial yX3_putTrial, Cond.code yX3_putTrial cX3_putTrial 3 none, Cond.fieldLink RX3 41 "PalletStack" "onPalletCount" "I", Cond.methodLink RX3 301 yX3_layTop, Cond.instanceMethod yX3_layTop, Cond.selects RX3 yX3_layTop yX3_layTop, Cond.code yX3_layTop cX3_layTop 4 none, Cond.methodLink RX3 120 yX3_isCell, Cond.static yX3_isCell, Cond.code yX3_isCell cX3_isCell 2 (some .boolean), Cond.methodLink RX3 113 yX3_settleLoads, Cond.instanceMethod yX3_settleLoads, Cond.selects RX3 yX3_settleLoads yX3_settleLoads]
def wsX3_stack_r8 : List Cond := [Cond.code yX3_settleLoads cX3_settleLoads 3 none, Cond.fieldLink RX3 208 "PalletStack$Item" "load" "I"]
def wsX3_stack : List Cond := .code yX3_stack cX3_stack 4 (some .int) :: ((wsX3_stack_r1 ++ (wsX3_stack_r2 ++ (wsX3_stack_r3 ++ (wsX3_stack_r4 ++ (wsX3_stack_r5 ++ (wsX3_stack_r6 ++ (wsX3_stack_r7 ++ wsX3_stack_r8))))))) ++ wsX30 ++ wsX20 ++ wsX10 ++ wsX00)
def wsX4_init : List Cond := .code yX4_init cX4_init 1 none :: ([.methodLink RX4 1 objectInit, .instanceMethod objectInit, .code objectInit ⟨#[0xb1]⟩ 1 none, .arrayClass .int, .fieldLink RX4 9 "PalletStackModel" "kindTable" "[I", .fieldLink RX4 13 "PalletStackModel" "highest" "I", .fieldLink RX4 17 "PalletStackModel" "support" "I", .fieldLink RX4 20 "PalletStackModel" "limit" "I", .fieldLink RX4 23 "PalletStackModel" "table" "[I", .fieldLink RX4 26 "PalletStackModel" "loads" "[I", .fieldLink RX4 29 "PalletStackModel" "lineKinds" "[I", .fieldLink RX4 32 "PalletStackModel" "lineCounts" "[I"] ++ wsX40)
def wsX4_thrown : List Cond := .code yX4_thrown cX4_thrown 1 (some .int) :: ([.fieldLink RX4 35 "PalletStackModel" "thrown" "I"] ++ wsX40)
def wsX4_isIn : List Cond := .code yX4_isIn cX4_isIn 3 (some .boolean) :: ([])
def wsX4_isKind : List Cond := .code yX4_isKind cX4_isKind 2 (some .boolean) :: ([.fieldLink RX4 38 "PalletStackModel" "kinds" "I", .methodLink RX4 41 yX4_isIn, .static yX4_isIn, .initialized RX4, .code yX4_isIn cX4_isIn 3 (some .boolean)] ++ wsX40)
def wsX4_kind : List Cond := .code yX4_kind cX4_kind 3 (some .int) :: ([.fieldLink RX4 9 "PalletStackModel" "kindTable" "[I"] ++ wsX40)
def wsX4_canTurn : List Cond := .code yX4_canTurn cX4_canTurn 1 (some .boolean) :: ([])
def wsX4_needsDeck : List Cond := .code yX4_needsDeck cX4_needsDeck 1 (some .boolean) :: ([])
def wsX4_addKind : List Cond := .code yX4_addKind cX4_addKind 8 (some .int) :: ([.fieldLink RX4 35 "PalletStackModel" "thrown" "I", .fieldLink RX4 38 "PalletStackModel" "kinds" "I", .arrayClass .int, .fieldLink RX4 9 "PalletStackModel" "kindTable" "[I", .methodLink RX4 49 arraycopyName, .native arraycopyName, .static arraycopyName, .initialized "java/lang/System", .methodLink RX4 41 yX4_isIn, .static yX4_isIn, .initialized RX4, .code yX4_isIn cX4_isIn 3 (some .boolean), .methodLink RX4 45 yX4_fail, .instanceMethod yX4_fail, .selects RX4 yX4_fail yX4_fail, .code yX4_fail cX4_fail 2 (some .int)] ++ wsX40)
def wsX4_setRules : List Cond := .code yX4_setRules cX4_setRules 6 (some .int) :: ([.fieldLink RX4 35 "PalletStackModel" "thrown" "I", .fieldLink RX4 13 "PalletStackModel" "highest" "I", .fieldLink RX4 17 "PalletStackModel" "support" "I", .fieldLink RX4 20 "PalletStackModel" "limit" "I", .fieldLink RX4 55 "PalletStackModel" "areCorners" "Z", .methodLink RX4 41 yX4_isIn, .static yX4_isIn, .initialized RX4, .code yX4_isIn cX4_isIn 3 (some .boolean), .methodLink RX4 45 yX4_fail, .instanceMethod yX4_fail, .selects RX4 yX4_fail yX4_fail, .code yX4_fail cX4_fail 2 (some .int)] ++ wsX40)
def wsX4_get : List Cond := .code yX4_get cX4_get 3 (some .int) :: ([.fieldLink RX4 23 "PalletStackModel" "table" "[I"] ++ wsX40)
def wsX4_topOf : List Cond := .code yX4_topOf cX4_topOf 2 (some .int) :: ([.methodLink RX4 76 yX4_get, .instanceMethod yX4_get, .selects RX4 yX4_get yX4_get, .initialized RX4, .code yX4_get cX4_get 3 (some .int), .fieldLink RX4 23 "PalletStackModel" "table" "[I", .methodLink RX4 80 yX4_kind, .instanceMethod yX4_kind, .selects RX4 yX4_kind yX4_kind, .code yX4_kind cX4_kind 3 (some .int), .fieldLink RX4 9 "PalletStackModel" "kindTable" "[I"] ++ wsX40)
def wsX4_lay_r1 : List Cond := [Cond.arrayClass .int, Cond.fieldLink RX4 23 "PalletStackModel" "table" "[I", Cond.methodLink RX4 49 arraycopyName, Cond.native arraycopyName, Cond.static arraycopyName, Cond.initialized "java/lang/System", Cond.fieldLink RX4 59 "PalletStackModel" "came" "I", Cond.methodLink RX4 94 Lib.Math.max.name, Cond.static Lib.Math.max.name, Cond.initialized "java/lang/Math", Cond.code Lib.Math.max.name Lib.Math.max.code 2 (some .int), Cond.methodLink RX4 62 yX4_isHere, Cond.instanceMethod yX4_isHere, Cond.selects RX4 yX4_isHere yX4_isHere, Cond.initialized RX4, Cond.code yX4_isHere cX4_isHere 2 (some .boolean), Cond.methodLink RX4 104 yX4_common, Cond.instanceMethod yX4_common, Cond.selects RX4 yX4_common yX4_common, Cond.code yX4_common cX4_common 3 (some .int), Cond.methodLink RX4 76 yX4_get, Cond.instanceMethod yX4_get, Cond.selects RX4 yX4_get yX4_get, Cond.code yX4_get cX4_get 3 (some .int)]
def wsX4_lay_r2 : List Cond := [Cond.methodLink RX4 83 yX4_wide, Cond.instanceMethod yX4_wide, Cond.selects RX4 yX4_wide yX4_wide, Cond.code yX4_wide cX4_wide 2 (some .int), Cond.methodLink RX4 80 yX4_kind, Cond.instanceMethod yX4_kind, Cond.selects RX4 yX4_kind yX4_kind, Cond.code yX4_kind cX4_kind 3 (some .int), Cond.fieldLink RX4 9 "PalletStackModel" "kindTable" "[I", Cond.methodLink RX4 97 yX4_overlap, Cond.static yX4_overlap, Cond.code yX4_overlap cX4_overlap 4 (some .int), Cond.methodLink RX4 89 Lib.Math.min.name, Cond.static Lib.Math.min.name, Cond.code Lib.Math.min.name Lib.Math.min.code 2 (some .int), Cond.methodLink RX4 86 yX4_deep, Cond.instanceMethod yX4_deep, Cond.selects RX4 yX4_deep yX4_deep, Cond.code yX4_deep cX4_deep 2 (some .int), Cond.methodLink RX4 101 yX4_topOf, Cond.instanceMethod yX4_topOf, Cond.selects RX4 yX4_topOf yX4_topOf, Cond.code yX4_topOf cX4_topOf 2 (some .int)]
def wsX4_lay : List Cond := .code yX4_lay cX4_lay 9 none :: ((wsX4_lay_r1 ++ wsX4_lay_r2) ++ wsX40)
def wsX4_why_r1 : List Cond := [Cond.fieldLink RX4 13 "PalletStackModel" "highest" "I", Cond.fieldLink RX4 23 "PalletStackModel" "table" "[I", Cond.fieldLink RX4 17 "PalletStackModel" "support" "I", Cond.fieldLink RX4 55 "PalletStackModel" "areCorners" "Z", Cond.fieldLink RX4 20 "PalletStackModel" "limit" "I", Cond.fieldLink RX4 149 "PalletStackModel" "tried" "I", Cond.methodLink RX4 80 yX4_kind, Cond.instanceMethod yX4_kind, Cond.selects RX4 yX4_kind yX4_kind, Cond.initialized RX4, Cond.code yX4_kind cX4_kind 3 (some .int), Cond.fieldLink RX4 9 "PalletStackModel" "kindTable" "[I", Cond.methodLink RX4 129 yX4_canTurn, Cond.static yX4_canTurn, Cond.code yX4_canTurn cX4_canTurn 1 (some .boolean), Cond.methodLink RX4 41 yX4_isIn, Cond.static yX4_isIn, Cond.code yX4_isIn cX4_isIn 3 (some .boolean), Cond.methodLink RX4 132 yX4_lay, Cond.instanceMethod yX4_lay, Cond.selects RX4 yX4_lay yX4_lay, Cond.code yX4_lay cX4_lay 9 none, Cond.arrayClass .int, Cond.methodLink RX4 49 arraycopyName]
def wsX4_why_r2 : List Cond := [Cond.native arraycopyName, Cond.static arraycopyName, Cond.initialized "java/lang/System", Cond.fieldLink RX4 59 "PalletStackModel" "came" "I", Cond.methodLink RX4 94 Lib.Math.max.name, Cond.static Lib.Math.max.name, Cond.initialized "java/lang/Math", Cond.code Lib.Math.max.name Lib.Math.max.code 2 (some .int), Cond.methodLink RX4 62 yX4_isHere, Cond.instanceMethod yX4_isHere, Cond.selects RX4 yX4_isHere yX4_isHere, Cond.code yX4_isHere cX4_isHere 2 (some .boolean), Cond.methodLink RX4 104 yX4_common, Cond.instanceMethod yX4_common, Cond.selects RX4 yX4_common yX4_common, Cond.code yX4_common cX4_common 3 (some .int), Cond.methodLink RX4 76 yX4_get, Cond.instanceMethod yX4_get, Cond.selects RX4 yX4_get yX4_get, Cond.code yX4_get cX4_get 3 (some .int), Cond.methodLink RX4 83 yX4_wide, Cond.instanceMethod yX4_wide, Cond.selects RX4 yX4_wide yX4_wide, Cond.code yX4_wide cX4_wide 2 (some .int)]
def wsX4_why_r3 : List Cond := [Cond.methodLink RX4 97 yX4_overlap, Cond.static yX4_overlap, Cond.code yX4_overlap cX4_overlap 4 (some .int), Cond.methodLink RX4 89 Lib.Math.min.name, Cond.static Lib.Math.min.name, Cond.code Lib.Math.min.name Lib.Math.min.code 2 (some .int), Cond.methodLink RX4 86 yX4_deep, Cond.instanceMethod yX4_deep, Cond.selects RX4 yX4_deep yX4_deep, Cond.code yX4_deep cX4_deep 2 (some .int), Cond.methodLink RX4 101 yX4_topOf, Cond.instanceMethod yX4_topOf, Cond.selects RX4 yX4_topOf yX4_topOf, Cond.code yX4_topOf cX4_topOf 2 (some .int), Cond.methodLink RX4 136 yX4_needsDeck, Cond.static yX4_needsDeck, Cond.code yX4_needsDeck cX4_needsDeck 1 (some .boolean), Cond.methodLink RX4 123 yX4_ground, Cond.instanceMethod yX4_ground, Cond.selects RX4 yX4_ground yX4_ground, Cond.code yX4_ground cX4_ground 4 (some .int), Cond.methodLink RX4 107 yX4_cells, Cond.instanceMethod yX4_cells, Cond.selects RX4 yX4_cells yX4_cells]
def wsX4_why_r4 : List Cond := [Cond.code yX4_cells cX4_cells 2 (some .int), Cond.methodLink RX4 110 yX4_standsOn, Cond.instanceMethod yX4_standsOn, Cond.selects RX4 yX4_standsOn yX4_standsOn, Cond.code yX4_standsOn cX4_standsOn 3 (some .boolean), Cond.methodLink RX4 139 yX4_hasCorners, Cond.instanceMethod yX4_hasCorners, Cond.selects RX4 yX4_hasCorners yX4_hasCorners, Cond.code yX4_hasCorners cX4_hasCorners 6 (some .boolean), Cond.methodLink RX4 117 yX4_isGround, Cond.instanceMethod yX4_isGround, Cond.selects RX4 yX4_isGround yX4_isGround, Cond.code yX4_isGround cX4_isGround 6 (some .boolean), Cond.methodLink RX4 114 yX4_covers, Cond.instanceMethod yX4_covers, Cond.selects RX4 yX4_covers yX4_covers, Cond.code yX4_covers cX4_covers 4 (some .boolean), Cond.methodLink RX4 142 yX4_isTooMuch, Cond.instanceMethod yX4_isTooMuch, Cond.selects RX4 yX4_isTooMuch yX4_isTooMuch, Cond.code yX4_isTooMuch cX4_isTooMuch 3 (some .boolean), Cond.fieldLink RX4 26 "PalletStackModel" "loads" "[I", Cond.methodLink RX4 126 yX4_reckonLoads, Cond.instanceMethod yX4_reckonLoads]
def wsX4_why_r5 : List Cond := [Cond.selects RX4 yX4_reckonLoads yX4_reckonLoads, Cond.code yX4_reckonLoads cX4_reckonLoads 7 none, Cond.methodLink RX4 120 yX4_weight, Cond.instanceMethod yX4_weight, Cond.selects RX4 yX4_weight yX4_weight, Cond.code yX4_weight cX4_weight 2 (some .int), Cond.methodLink RX4 146 yX4_weights, Cond.instanceMethod yX4_weights, Cond.selects RX4 yX4_weights yX4_weights, Cond.code yX4_weights cX4_weights 3 (some .int)]
def wsX4_why : List Cond := .code yX4_why cX4_why 9 (some .int) :: ((wsX4_why_r1 ++ (wsX4_why_r2 ++ (wsX4_why_r3 ++ (wsX4_why_r4 ++ wsX4_why_r5)))) ++ wsX40)
def wsX4_bestFor_r1 : List Cond := [Cond.fieldLink RX4 149 "PalletStackModel" "tried" "I", Cond.methodLink RX4 155 yX4_why, Cond.instanceMethod yX4_why, Cond.selects RX4 yX4_why yX4_why, Cond.initialized RX4, Cond.code yX4_why cX4_why 9 (some .int), Cond.fieldLink RX4 13 "PalletStackModel" "highest" "I", Cond.fieldLink RX4 23 "PalletStackModel" "table" "[I", Cond.fieldLink RX4 17 "PalletStackModel" "support" "I", Cond.fieldLink RX4 55 "PalletStackModel" "areCorners" "Z", Cond.fieldLink RX4 20 "PalletStackModel" "limit" "I", Cond.methodLink RX4 80 yX4_kind, Cond.instanceMethod yX4_kind, Cond.selects RX4 yX4_kind yX4_kind, Cond.code yX4_kind cX4_kind 3 (some .int), Cond.fieldLink RX4 9 "PalletStackModel" "kindTable" "[I", Cond.methodLink RX4 129 yX4_canTurn, Cond.static yX4_canTurn, Cond.code yX4_canTurn cX4_canTurn 1 (some .boolean), Cond.methodLink RX4 41 yX4_isIn, Cond.static yX4_isIn, Cond.code yX4_isIn cX4_isIn 3 (some .boolean), Cond.methodLink RX4 132 yX4_lay, Cond.instanceMethod yX4_lay]
def wsX4_bestFor_r2 : List Cond := [Cond.selects RX4 yX4_lay yX4_lay, Cond.code yX4_lay cX4_lay 9 none, Cond.arrayClass .int, Cond.methodLink RX4 49 arraycopyName, Cond.native arraycopyName, Cond.static arraycopyName, Cond.initialized "java/lang/System", Cond.fieldLink RX4 59 "PalletStackModel" "came" "I", Cond.methodLink RX4 94 Lib.Math.max.name, Cond.static Lib.Math.max.name, Cond.initialized "java/lang/Math", Cond.code Lib.Math.max.name Lib.Math.max.code 2 (some .int), Cond.methodLink RX4 62 yX4_isHere, Cond.instanceMethod yX4_isHere, Cond.selects RX4 yX4_isHere yX4_isHere, Cond.code yX4_isHere cX4_isHere 2 (some .boolean), Cond.methodLink RX4 104 yX4_common, Cond.instanceMethod yX4_common, Cond.selects RX4 yX4_common yX4_common, Cond.code yX4_common cX4_common 3 (some .int), Cond.methodLink RX4 76 yX4_get, Cond.instanceMethod yX4_get, Cond.selects RX4 yX4_get yX4_get, Cond.code yX4_get cX4_get 3 (some .int)]
def wsX4_bestFor_r3 : List Cond := [Cond.methodLink RX4 83 yX4_wide, Cond.instanceMethod yX4_wide, Cond.selects RX4 yX4_wide yX4_wide, Cond.code yX4_wide cX4_wide 2 (some .int), Cond.methodLink RX4 97 yX4_overlap, Cond.static yX4_overlap, Cond.code yX4_overlap cX4_overlap 4 (some .int), Cond.methodLink RX4 89 Lib.Math.min.name, Cond.static Lib.Math.min.name, Cond.code Lib.Math.min.name Lib.Math.min.code 2 (some .int), Cond.methodLink RX4 86 yX4_deep, Cond.instanceMethod yX4_deep, Cond.selects RX4 yX4_deep yX4_deep, Cond.code yX4_deep cX4_deep 2 (some .int), Cond.methodLink RX4 101 yX4_topOf, Cond.instanceMethod yX4_topOf, Cond.selects RX4 yX4_topOf yX4_topOf, Cond.code yX4_topOf cX4_topOf 2 (some .int), Cond.methodLink RX4 136 yX4_needsDeck, Cond.static yX4_needsDeck, Cond.code yX4_needsDeck cX4_needsDeck 1 (some .boolean), Cond.methodLink RX4 123 yX4_ground, Cond.instanceMethod yX4_ground, Cond.selects RX4 yX4_ground yX4_ground]
def wsX4_bestFor_r4 : List Cond := [Cond.code yX4_ground cX4_ground 4 (some .int), Cond.methodLink RX4 107 yX4_cells, Cond.instanceMethod yX4_cells, Cond.selects RX4 yX4_cells yX4_cells, Cond.code yX4_cells cX4_cells 2 (some .int), Cond.methodLink RX4 110 yX4_standsOn, Cond.instanceMethod yX4_standsOn, Cond.selects RX4 yX4_standsOn yX4_standsOn, Cond.code yX4_standsOn cX4_standsOn 3 (some .boolean), Cond.methodLink RX4 139 yX4_hasCorners, Cond.instanceMethod yX4_hasCorners, Cond.selects RX4 yX4_hasCorners yX4_hasCorners, Cond.code yX4_hasCorners cX4_hasCorners 6 (some .boolean), Cond.methodLink RX4 117 yX4_isGround, Cond.instanceMethod yX4_isGround, Cond.selects RX4 yX4_isGround yX4_isGround, Cond.code yX4_isGround cX4_isGround 6 (some .boolean), Cond.methodLink RX4 114 yX4_covers, Cond.instanceMethod yX4_covers, Cond.selects RX4 yX4_covers yX4_covers, Cond.code yX4_covers cX4_covers 4 (some .boolean), Cond.methodLink RX4 142 yX4_isTooMuch, Cond.instanceMethod yX4_isTooMuch, Cond.selects RX4 yX4_isTooMuch yX4_isTooMuch]
def wsX4_bestFor_r5 : List Cond := [Cond.code yX4_isTooMuch cX4_isTooMuch 3 (some .boolean), Cond.fieldLink RX4 26 "PalletStackModel" "loads" "[I", Cond.methodLink RX4 126 yX4_reckonLoads, Cond.instanceMethod yX4_reckonLoads, Cond.selects RX4 yX4_reckonLoads yX4_reckonLoads, Cond.code yX4_reckonLoads cX4_reckonLoads 7 none, Cond.methodLink RX4 120 yX4_weight, Cond.instanceMethod yX4_weight, Cond.selects RX4 yX4_weight yX4_weight, Cond.code yX4_weight cX4_weight 2 (some .int), Cond.methodLink RX4 146 yX4_weights, Cond.instanceMethod yX4_weights, Cond.selects RX4 yX4_weights yX4_weights, Cond.code yX4_weights cX4_weights 3 (some .int)]
def wsX4_bestFor : List Cond := .code yX4_bestFor cX4_bestFor 8 (some .int) :: ((wsX4_bestFor_r1 ++ (wsX4_bestFor_r2 ++ (wsX4_bestFor_r3 ++ (wsX4_bestFor_r4 ++ wsX4_bestFor_r5)))) ++ wsX40)
def wsX4_putBest_r1 : List Cond := [Cond.fieldLink RX4 59 "PalletStackModel" "came" "I", Cond.methodLink RX4 181 yX4_bestFor, Cond.instanceMethod yX4_bestFor, Cond.selects RX4 yX4_bestFor yX4_bestFor, Cond.initialized RX4, Cond.code yX4_bestFor cX4_bestFor 8 (some .int), Cond.fieldLink RX4 149 "PalletStackModel" "tried" "I", Cond.methodLink RX4 155 yX4_why, Cond.instanceMethod yX4_why, Cond.selects RX4 yX4_why yX4_why, Cond.code yX4_why cX4_why 9 (some .int), Cond.fieldLink RX4 13 "PalletStackModel" "highest" "I", Cond.fieldLink RX4 23 "PalletStackModel" "table" "[I", Cond.fieldLink RX4 17 "PalletStackModel" "support" "I", Cond.fieldLink RX4 55 "PalletStackModel" "areCorners" "Z", Cond.fieldLink RX4 20 "PalletStackModel" "limit" "I", Cond.methodLink RX4 80 yX4_kind, Cond.instanceMethod yX4_kind, Cond.selects RX4 yX4_kind yX4_kind, Cond.code yX4_kind cX4_kind 3 (some .int), Cond.fieldLink RX4 9 "PalletStackModel" "kindTable" "[I", Cond.methodLink RX4 129 yX4_canTurn, Cond.static yX4_canTurn, Cond.code yX4_canTurn cX4_canTurn 1 (some .boolean)]
def wsX4_putBest_r2 : List Cond := [Cond.methodLink RX4 41 yX4_isIn, Cond.static yX4_isIn, Cond.code yX4_isIn cX4_isIn 3 (some .boolean), Cond.methodLink RX4 132 yX4_lay, Cond.instanceMethod yX4_lay, Cond.selects RX4 yX4_lay yX4_lay, Cond.code yX4_lay cX4_lay 9 none, Cond.arrayClass .int, Cond.methodLink RX4 49 arraycopyName, Cond.native arraycopyName, Cond.static arraycopyName, Cond.initialized "java/lang/System", Cond.methodLink RX4 94 Lib.Math.max.name, Cond.static Lib.Math.max.name, Cond.initialized "java/lang/Math", Cond.code Lib.Math.max.name Lib.Math.max.code 2 (some .int), Cond.methodLink RX4 62 yX4_isHere, Cond.instanceMethod yX4_isHere, Cond.selects RX4 yX4_isHere yX4_isHere, Cond.code yX4_isHere cX4_isHere 2 (some .boolean), Cond.methodLink RX4 104 yX4_common, Cond.instanceMethod yX4_common, Cond.selects RX4 yX4_common yX4_common, Cond.code yX4_common cX4_common 3 (some .int)]
def wsX4_putBest_r3 : List Cond := [Cond.methodLink RX4 76 yX4_get, Cond.instanceMethod yX4_get, Cond.selects RX4 yX4_get yX4_get, Cond.code yX4_get cX4_get 3 (some .int), Cond.methodLink RX4 83 yX4_wide, Cond.instanceMethod yX4_wide, Cond.selects RX4 yX4_wide yX4_wide, Cond.code yX4_wide cX4_wide 2 (some .int), Cond.methodLink RX4 97 yX4_overlap, Cond.static yX4_overlap, Cond.code yX4_overlap cX4_overlap 4 (some .int), Cond.methodLink RX4 89 Lib.Math.min.name, Cond.static Lib.Math.min.name, Cond.code Lib.Math.min.name Lib.Math.min.code 2 (some .int), Cond.methodLink RX4 86 yX4_deep, Cond.instanceMethod yX4_deep, Cond.selects RX4 yX4_deep yX4_deep, Cond.code yX4_deep cX4_deep 2 (some .int), Cond.methodLink RX4 101 yX4_topOf, Cond.instanceMethod yX4_topOf, Cond.selects RX4 yX4_topOf yX4_topOf, Cond.code yX4_topOf cX4_topOf 2 (some .int), Cond.methodLink RX4 136 yX4_needsDeck, Cond.static yX4_needsDeck]
def wsX4_putBest_r4 : List Cond := [Cond.code yX4_needsDeck cX4_needsDeck 1 (some .boolean), Cond.methodLink RX4 123 yX4_ground, Cond.instanceMethod yX4_ground, Cond.selects RX4 yX4_ground yX4_ground, Cond.code yX4_ground cX4_ground 4 (some .int), Cond.methodLink RX4 107 yX4_cells, Cond.instanceMethod yX4_cells, Cond.selects RX4 yX4_cells yX4_cells, Cond.code yX4_cells cX4_cells 2 (some .int), Cond.methodLink RX4 110 yX4_standsOn, Cond.instanceMethod yX4_standsOn, Cond.selects RX4 yX4_standsOn yX4_standsOn, Cond.code yX4_standsOn cX4_standsOn 3 (some .boolean), Cond.methodLink RX4 139 yX4_hasCorners, Cond.instanceMethod yX4_hasCorners, Cond.selects RX4 yX4_hasCorners yX4_hasCorners, Cond.code yX4_hasCorners cX4_hasCorners 6 (some .boolean), Cond.methodLink RX4 117 yX4_isGround, Cond.instanceMethod yX4_isGround, Cond.selects RX4 yX4_isGround yX4_isGround, Cond.code yX4_isGround cX4_isGround 6 (some .boolean), Cond.methodLink RX4 114 yX4_covers, Cond.instanceMethod yX4_covers, Cond.selects RX4 yX4_covers yX4_covers]
def wsX4_putBest_r5 : List Cond := [Cond.code yX4_covers cX4_covers 4 (some .boolean), Cond.methodLink RX4 142 yX4_isTooMuch, Cond.instanceMethod yX4_isTooMuch, Cond.selects RX4 yX4_isTooMuch yX4_isTooMuch, Cond.code yX4_isTooMuch cX4_isTooMuch 3 (some .boolean), Cond.fieldLink RX4 26 "PalletStackModel" "loads" "[I", Cond.methodLink RX4 126 yX4_reckonLoads, Cond.instanceMethod yX4_reckonLoads, Cond.selects RX4 yX4_reckonLoads yX4_reckonLoads, Cond.code yX4_reckonLoads cX4_reckonLoads 7 none, Cond.methodLink RX4 120 yX4_weight, Cond.instanceMethod yX4_weight, Cond.selects RX4 yX4_weight yX4_weight, Cond.code yX4_weight cX4_weight 2 (some .int), Cond.methodLink RX4 146 yX4_weights, Cond.instanceMethod yX4_weights, Cond.selects RX4 yX4_weights yX4_weights, Cond.code yX4_weights cX4_weights 3 (some .int), Cond.methodLink RX4 159 yX4_add, Cond.instanceMethod yX4_add, Cond.selects RX4 yX4_add yX4_add, Cond.code yX4_add cX4_add 5 none]
def wsX4_putBest : List Cond := .code yX4_putBest cX4_putBest 3 (some .boolean) :: ((wsX4_putBest_r1 ++ (wsX4_putBest_r2 ++ (wsX4_putBest_r3 ++ (wsX4_putBest_r4 ++ wsX4_putBest_r5)))) ++ wsX40)
def wsX4_addLine : List Cond := .code yX4_addLine cX4_addLine 3 (some .int) :: ([.fieldLink RX4 35 "PalletStackModel" "thrown" "I", .fieldLink RX4 70 "PalletStackModel" "lines" "I", .fieldLink RX4 29 "PalletStackModel" "lineKinds" "[I", .fieldLink RX4 32 "PalletStackModel" "lineCounts" "[I", .methodLink RX4 152 yX4_isKind, .instanceMethod yX4_isKind, .selects RX4 yX4_isKind yX4_isKind, .initialized RX4, .code yX4_isKind cX4_isKind 2 (some .boolean), .fieldLink RX4 38 "PalletStackModel" "kinds" "I", .methodLink RX4 41 yX4_isIn, .static yX4_isIn, .code yX4_isIn cX4_isIn 3 (some .boolean), .methodLink RX4 45 yX4_fail, .instanceMethod yX4_fail, .selects RX4 yX4_fail yX4_fail, .code yX4_fail cX4_fail 2 (some .int)] ++ wsX40)
def wsX4_isAhead : List Cond := .code yX4_isAhead cX4_isAhead 5 (some .boolean) :: ([.fieldLink RX4 29 "PalletStackModel" "lineKinds" "[I", .methodLink RX4 80 yX4_kind, .instanceMethod yX4_kind, .selects RX4 yX4_kind yX4_kind, .initialized RX4, .code yX4_kind cX4_kind 3 (some .int), .fieldLink RX4 9 "PalletStackModel" "kindTable" "[I", .methodLink RX4 136 yX4_needsDeck, .static yX4_needsDeck, .code yX4_needsDeck cX4_needsDeck 1 (some .boolean)] ++ wsX40)
def wsX4_stack_r1 : List Cond := [Cond.fieldLink RX4 35 "PalletStackModel" "thrown" "I", Cond.arrayClass .boolean, Cond.fieldLink RX4 70 "PalletStackModel" "lines" "I", Cond.fieldLink RX4 32 "PalletStackModel" "lineCounts" "[I", Cond.fieldLink RX4 29 "PalletStackModel" "lineKinds" "[I", Cond.methodLink RX4 187 yX4_isAhead, Cond.instanceMethod yX4_isAhead, Cond.selects RX4 yX4_isAhead yX4_isAhead, Cond.initialized RX4, Cond.code yX4_isAhead cX4_isAhead 5 (some .boolean), Cond.methodLink RX4 80 yX4_kind, Cond.instanceMethod yX4_kind, Cond.selects RX4 yX4_kind yX4_kind, Cond.code yX4_kind cX4_kind 3 (some .int), Cond.fieldLink RX4 9 "PalletStackModel" "kindTable" "[I", Cond.methodLink RX4 136 yX4_needsDeck, Cond.static yX4_needsDeck, Cond.code yX4_needsDeck cX4_needsDeck 1 (some .boolean), Cond.methodLink RX4 184 yX4_putBest, Cond.instanceMethod yX4_putBest, Cond.selects RX4 yX4_putBest yX4_putBest, Cond.code yX4_putBest cX4_putBest 3 (some .boolean), Cond.fieldLink RX4 59 "PalletStackModel" "came" "I", Cond.methodLink RX4 181 yX4_bestFor]
def wsX4_stack_r2 : List Cond := [Cond.instanceMethod yX4_bestFor, Cond.selects RX4 yX4_bestFor yX4_bestFor, Cond.code yX4_bestFor cX4_bestFor 8 (some .int), Cond.fieldLink RX4 149 "PalletStackModel" "tried" "I", Cond.methodLink RX4 155 yX4_why, Cond.instanceMethod yX4_why, Cond.selects RX4 yX4_why yX4_why, Cond.code yX4_why cX4_why 9 (some .int), Cond.fieldLink RX4 13 "PalletStackModel" "highest" "I", Cond.fieldLink RX4 23 "PalletStackModel" "table" "[I", Cond.fieldLink RX4 17 "PalletStackModel" "support" "I", Cond.fieldLink RX4 55 "PalletStackModel" "areCorners" "Z", Cond.fieldLink RX4 20 "PalletStackModel" "limit" "I", Cond.methodLink RX4 129 yX4_canTurn, Cond.static yX4_canTurn, Cond.code yX4_canTurn cX4_canTurn 1 (some .boolean), Cond.methodLink RX4 41 yX4_isIn, Cond.static yX4_isIn, Cond.code yX4_isIn cX4_isIn 3 (some .boolean), Cond.methodLink RX4 132 yX4_lay, Cond.instanceMethod yX4_lay, Cond.selects RX4 yX4_lay yX4_lay, Cond.code yX4_lay cX4_lay 9 none, Cond.arrayClass .int]
def wsX4_stack_r3 : List Cond := [Cond.methodLink RX4 49 arraycopyName, Cond.native arraycopyName, Cond.static arraycopyName, Cond.initialized "java/lang/System", Cond.methodLink RX4 94 Lib.Math.max.name, Cond.static Lib.Math.max.name, Cond.initialized "java/lang/Math", Cond.code Lib.Math.max.name Lib.Math.max.code 2 (some .int), Cond.methodLink RX4 62 yX4_isHere, Cond.instanceMethod yX4_isHere, Cond.selects RX4 yX4_isHere yX4_isHere, Cond.code yX4_isHere cX4_isHere 2 (some .boolean), Cond.methodLink RX4 104 yX4_common, Cond.instanceMethod yX4_common, Cond.selects RX4 yX4_common yX4_common, Cond.code yX4_common cX4_common 3 (some .int), Cond.methodLink RX4 76 yX4_get, Cond.instanceMethod yX4_get, Cond.selects RX4 yX4_get yX4_get, Cond.code yX4_get cX4_get 3 (some .int), Cond.methodLink RX4 83 yX4_wide, Cond.instanceMethod yX4_wide, Cond.selects RX4 yX4_wide yX4_wide, Cond.code yX4_wide cX4_wide 2 (some .int)]
def wsX4_stack_r4 : List Cond := [Cond.methodLink RX4 97 yX4_overlap, Cond.static yX4_overlap, Cond.code yX4_overlap cX4_overlap 4 (some .int), Cond.methodLink RX4 89 Lib.Math.min.name, Cond.static Lib.Math.min.name, Cond.code Lib.Math.min.name Lib.Math.min.code 2 (some .int), Cond.methodLink RX4 86 yX4_deep, Cond.instanceMethod yX4_deep, Cond.selects RX4 yX4_deep yX4_deep, Cond.code yX4_deep cX4_deep 2 (some .int), Cond.methodLink RX4 101 yX4_topOf, Cond.instanceMethod yX4_topOf, Cond.selects RX4 yX4_topOf yX4_topOf, Cond.code yX4_topOf cX4_topOf 2 (some .int), Cond.methodLink RX4 123 yX4_ground, Cond.instanceMethod yX4_ground, Cond.selects RX4 yX4_ground yX4_ground, Cond.code yX4_ground cX4_ground 4 (some .int), Cond.methodLink RX4 107 yX4_cells, Cond.instanceMethod yX4_cells, Cond.selects RX4 yX4_cells yX4_cells, Cond.code yX4_cells cX4_cells 2 (some .int), Cond.methodLink RX4 110 yX4_standsOn, Cond.instanceMethod yX4_standsOn]
def wsX4_stack_r5 : List Cond := [Cond.selects RX4 yX4_standsOn yX4_standsOn, Cond.code yX4_standsOn cX4_standsOn 3 (some .boolean), Cond.methodLink RX4 139 yX4_hasCorners, Cond.instanceMethod yX4_hasCorners, Cond.selects RX4 yX4_hasCorners yX4_hasCorners, Cond.code yX4_hasCorners cX4_hasCorners 6 (some .boolean), Cond.methodLink RX4 117 yX4_isGround, Cond.instanceMethod yX4_isGround, Cond.selects RX4 yX4_isGround yX4_isGround, Cond.code yX4_isGround cX4_isGround 6 (some .boolean), Cond.methodLink RX4 114 yX4_covers, Cond.instanceMethod yX4_covers, Cond.selects RX4 yX4_covers yX4_covers, Cond.code yX4_covers cX4_covers 4 (some .boolean), Cond.methodLink RX4 142 yX4_isTooMuch, Cond.instanceMethod yX4_isTooMuch, Cond.selects RX4 yX4_isTooMuch yX4_isTooMuch, Cond.code yX4_isTooMuch cX4_isTooMuch 3 (some .boolean), Cond.fieldLink RX4 26 "PalletStackModel" "loads" "[I", Cond.methodLink RX4 126 yX4_reckonLoads, Cond.instanceMethod yX4_reckonLoads, Cond.selects RX4 yX4_reckonLoads yX4_reckonLoads, Cond.code yX4_reckonLoads cX4_reckonLoads 7 none, Cond.methodLink RX4 120 yX4_weight]
def wsX4_stack_r6 : List Cond := [Cond.instanceMethod yX4_weight, Cond.selects RX4 yX4_weight yX4_weight, Cond.code yX4_weight cX4_weight 2 (some .int), Cond.methodLink RX4 146 yX4_weights, Cond.instanceMethod yX4_weights, Cond.selects RX4 yX4_weights yX4_weights, Cond.code yX4_weights cX4_weights 3 (some .int), Cond.methodLink RX4 159 yX4_add, Cond.instanceMethod yX4_add, Cond.selects RX4 yX4_add yX4_add, Cond.code yX4_add cX4_add 5 none]
def wsX4_stack : List Cond := .code yX4_stack cX4_stack 5 (some .int) :: ((wsX4_stack_r1 ++ (wsX4_stack_r2 ++ (wsX4_stack_r3 ++ (wsX4_stack_r4 ++ (wsX4_stack_r5 ++ wsX4_stack_r6))))) ++ wsX40)
def wsJ9_max_7cf53 : List Cond := .code yJ9_max_7cf53 cJ9_max_7cf53 2 (some .int) :: ([])
def wsJ9_min_7cf53 : List Cond := .code yJ9_min_7cf53 cJ9_min_7cf53 2 (some .int) :: ([])
def wsL_addKind_r1 : List Cond := [Cond.classLink RL 13 "java/lang/IllegalArgumentException", Cond.classLink RL 15 "java/lang/IllegalStateException", Cond.methodLink RL 7 yX3_addKind, Cond.instanceMethod yX3_addKind, Cond.selects RX3 yX3_addKind yX3_addKind, Cond.initialized RX3, Cond.code yX3_addKind cX3_addKind 8 (some .int), Cond.classLink RX3 69 "java/lang/IllegalArgumentException", Cond.initialized "java/lang/IllegalArgumentException", Cond.classLink RX3 72 "java/lang/IllegalStateException", Cond.initialized "java/lang/IllegalStateException", Cond.fieldLink RX3 15 "PalletStack" "kindCount" "I", Cond.fieldLink RX3 11 "PalletStack" "kinds" "[LPalletStack$Kind;", Cond.classLink RX3 9 RX1, Cond.instantiable RX1 8, Cond.initialized RX1, Cond.methodLink RX3 65 yX3_isWithin, Cond.static yX3_isWithin, Cond.code yX3_isWithin cX3_isWithin 3 (some .boolean), Cond.methodLink RX3 75 yX1_init, Cond.instanceMethod yX1_init, Cond.code yX1_init cX1_init 8 none, Cond.methodLink RX1 1 objectInit, Cond.instanceMethod objectInit]
def wsL_addKind_r2 : List Cond := [Cond.code objectInit ⟨#[0xb1]⟩ 1 none, Cond.fieldLink RX1 7 "PalletStack$Kind" "number" "I", Cond.fieldLink RX1 13 "PalletStack$Kind" "width" "I", Cond.fieldLink RX1 16 "PalletStack$Kind" "depth" "I", Cond.fieldLink RX1 19 "PalletStack$Kind" "height" "I", Cond.fieldLink RX1 22 "PalletStack$Kind" "weight" "I", Cond.fieldLink RX1 25 "PalletStack$Kind" "strength" "I", Cond.fieldLink RX1 28 "PalletStack$Kind" "canTurn" "Z", Cond.fieldLink RX1 32 "PalletStack$Kind" "needsDeck" "Z"]
def wsL_addKind : List Cond := .codeWith yL_addKind cL_addKind 9 (some .int) [(0, 18, 21, 13), (0, 18, 25, 15)] :: ((wsL_addKind_r1 ++ wsL_addKind_r2) ++ wsX30 ++ wsX10 ++ (vx_at0 RX3 71 "java/lang/IllegalArgumentException" ["java/lang/RuntimeException", "java/lang/Exception"]).filter goodWord ++ (vx_at0 RX3 74 "java/lang/IllegalStateException" ["java/lang/RuntimeException", "java/lang/Exception"]).filter goodWord)
def wsL_setRules : List Cond := .codeWith yL_setRules cL_setRules 7 (some .int) [(0, 14, 17, 13)] :: ([.classLink RL 13 "java/lang/IllegalArgumentException", .methodLink RL 17 yX3_setRules, .instanceMethod yX3_setRules, .selects RX3 yX3_setRules yX3_setRules, .initialized RX3, .code yX3_setRules cX3_setRules 6 (some .int), .classLink RX3 69 "java/lang/IllegalArgumentException", .initialized "java/lang/IllegalArgumentException", .fieldLink RX3 19 "PalletStack" "greatestHeight" "I", .fieldLink RX3 22 "PalletStack" "support" "I", .fieldLink RX3 25 "PalletStack" "limit" "I", .fieldLink RX3 28 "PalletStack" "hasCornerRule" "Z", .methodLink RX3 65 yX3_isWithin, .static yX3_isWithin, .code yX3_isWithin cX3_isWithin 3 (some .boolean)] ++ wsX30 ++ (vx_at0 RX3 71 "java/lang/IllegalArgumentException" ["java/lang/RuntimeException", "java/lang/Exception"]).filter goodWord)
def wsL_addLine_r1 : List Cond := [Cond.classLink RL 25 "java/lang/IndexOutOfBoundsException", Cond.classLink RL 13 "java/lang/IllegalArgumentException", Cond.classLink RL 15 "java/lang/IllegalStateException", Cond.methodLink RL 57 yX3_addLine, Cond.instanceMethod yX3_addLine, Cond.selects RX3 yX3_addLine yX3_addLine, Cond.initialized RX3, Cond.code yX3_addLine cX3_addLine 5 (some .int), Cond.classLink RX3 78 "java/lang/IndexOutOfBoundsException", Cond.initialized "java/lang/IndexOutOfBoundsException", Cond.classLink RX3 69 "java/lang/IllegalArgumentException", Cond.initialized "java/lang/IllegalArgumentException", Cond.classLink RX3 72 "java/lang/IllegalStateException", Cond.initialized "java/lang/IllegalStateException", Cond.fieldLink RX3 62 "PalletStack" "lineCount" "I", Cond.fieldLink RX3 58 "PalletStack" "lines" "[LPalletStack$Line;", Cond.classLink RX3 56 RX2, Cond.instantiable RX2 3, Cond.initialized RX2, Cond.methodLink RX3 85 yX3_kindOf, Cond.instanceMethod yX3_kindOf, Cond.selects RX3 yX3_kindOf yX3_kindOf, Cond.code yX3_kindOf cX3_kindOf 2 (some (.object "PalletStack$Kind")), Cond.fieldLink RX3 15 "PalletStack" "kindCount" "I"]
def wsL_addLine_r2 : List Cond := [Cond.fieldLink RX3 11 "PalletStack" "kinds" "[LPalletStack$Kind;", Cond.methodLink RX3 65 yX3_isWithin, Cond.static yX3_isWithin, Cond.code yX3_isWithin cX3_isWithin 3 (some .boolean), Cond.methodLink RX3 149 yX2_init, Cond.instanceMethod yX2_init, Cond.code yX2_init cX2_init 3 none, Cond.methodLink RX2 1 objectInit, Cond.instanceMethod objectInit, Cond.code objectInit ⟨#[0xb1]⟩ 1 none, Cond.fieldLink RX2 7 "PalletStack$Line" "isAside" "Z", Cond.fieldLink RX2 13 "PalletStack$Line" "kind" "LPalletStack$Kind;", Cond.fieldLink RX2 17 "PalletStack$Line" "count" "I"]
def wsL_addLine : List Cond := .codeWith yL_addLine cL_addLine 5 (some .int) [(0, 10, 13, 25), (0, 10, 17, 13), (0, 10, 21, 15)] :: ((wsL_addLine_r1 ++ wsL_addLine_r2) ++ wsX30 ++ wsX20 ++ (vx_at0 RX3 80 "java/lang/IndexOutOfBoundsException" ["java/lang/RuntimeException", "java/lang/Exception"]).filter goodWord ++ (vx_at0 RX3 71 "java/lang/IllegalArgumentException" ["java/lang/RuntimeException", "java/lang/Exception"]).filter goodWord ++ (vx_at0 RX3 74 "java/lang/IllegalStateException" ["java/lang/RuntimeException", "java/lang/Exception"]).filter goodWord)
def wsL_law0_r1 : List Cond := [Cond.classLink RL 8 RX3, Cond.instantiable RX3 14, Cond.initialized RX3, Cond.classLink RL 68 RX4, Cond.instantiable RX4 14, Cond.initialized RX4, Cond.arrayClass .long, Cond.methodLink RL 67 yX3_init, Cond.instanceMethod yX3_init, Cond.code yX3_init cX3_init 2 none, Cond.methodLink RX3 3 objectInit, Cond.instanceMethod objectInit, Cond.code objectInit ⟨#[0xb1]⟩ 1 none, Cond.classLink RX3 9 RX1, Cond.fieldLink RX3 11 "PalletStack" "kinds" "[LPalletStack$Kind;", Cond.fieldLink RX3 15 "PalletStack" "kindCount" "I", Cond.fieldLink RX3 19 "PalletStack" "greatestHeight" "I", Cond.fieldLink RX3 22 "PalletStack" "support" "I", Cond.fieldLink RX3 25 "PalletStack" "limit" "I", Cond.fieldLink RX3 28 "PalletStack" "hasCornerRule" "Z", Cond.classLink RX3 32 RX0, Cond.fieldLink RX3 34 "PalletStack" "items" "[LPalletStack$Item;", Cond.fieldLink RX3 38 "PalletStack" "cameCount" "I", Cond.fieldLink RX3 41 "PalletStack" "onPalletCount" "I"]
def wsL_law0_r2 : List Cond := [Cond.fieldLink RX3 44 "PalletStack" "weightOnPallet" "I", Cond.arrayClass .int, Cond.fieldLink RX3 47 "PalletStack" "tops" "[I", Cond.instantiable RX0 18, Cond.initialized RX0, Cond.fieldLink RX3 52 "PalletStack" "trial" "LPalletStack$Item;", Cond.classLink RX3 56 RX2, Cond.fieldLink RX3 58 "PalletStack" "lines" "[LPalletStack$Line;", Cond.fieldLink RX3 62 "PalletStack" "lineCount" "I", Cond.instanceMethod yX0_init, Cond.code yX0_init cX0_init 1 none, Cond.methodLink RX0 3 objectInit, Cond.fieldLink RX0 9 "PalletStack$Item" "kind" "I", Cond.fieldLink RX0 15 "PalletStack$Item" "weight" "I", Cond.fieldLink RX0 18 "PalletStack$Item" "strength" "I", Cond.fieldLink RX0 21 "PalletStack$Item" "isTurned" "Z", Cond.fieldLink RX0 25 "PalletStack$Item" "width" "I", Cond.fieldLink RX0 28 "PalletStack$Item" "depth" "I", Cond.fieldLink RX0 31 "PalletStack$Item" "x" "I", Cond.fieldLink RX0 34 "PalletStack$Item" "y" "I", Cond.fieldLink RX0 37 "PalletStack$Item" "bottom" "I", Cond.fieldLink RX0 40 "PalletStack$Item" "top" "I", Cond.fieldLink RX0 43 "PalletStack$Item" "ground" "I", Cond.fieldLink RX0 46 "PalletStack$Item" "load" "I"]
def wsL_law0_r3 : List Cond := [Cond.fieldLink RX0 49 "PalletStack$Item" "nextLoad" "I", Cond.fieldLink RX0 52 "PalletStack$Item" "isOnPallet" "Z", Cond.fieldLink RX0 55 "PalletStack$Item" "isReached" "Z", Cond.fieldLink RX0 58 "PalletStack$Item" "supportCount" "I", Cond.classLink RX0 10 RX0, Cond.fieldLink RX0 61 "PalletStack$Item" "supports" "[LPalletStack$Item;", Cond.fieldLink RX0 65 "PalletStack$Item" "supportCells" "[I", Cond.methodLink RL 70 yX4_init, Cond.instanceMethod yX4_init, Cond.code yX4_init cX4_init 1 none, Cond.methodLink RX4 1 objectInit, Cond.fieldLink RX4 9 "PalletStackModel" "kindTable" "[I", Cond.fieldLink RX4 13 "PalletStackModel" "highest" "I", Cond.fieldLink RX4 17 "PalletStackModel" "support" "I", Cond.fieldLink RX4 20 "PalletStackModel" "limit" "I", Cond.fieldLink RX4 23 "PalletStackModel" "table" "[I", Cond.fieldLink RX4 26 "PalletStackModel" "loads" "[I", Cond.fieldLink RX4 29 "PalletStackModel" "lineKinds" "[I", Cond.fieldLink RX4 32 "PalletStackModel" "lineCounts" "[I", Cond.methodLink RL 71 yL_addKind, Cond.static yL_addKind, Cond.initialized RL, Cond.codeWith yL_addKind cL_addKind 9 (some .int) [(0, 18, 21, 13), (0, 18, 25, 15)], Cond.classLink RL 13 "java/lang/IllegalArgumentException"]
def wsL_law0_r4 : List Cond := [Cond.classLink RL 15 "java/lang/IllegalStateException", Cond.methodLink RL 7 yX3_addKind, Cond.instanceMethod yX3_addKind, Cond.selects RX3 yX3_addKind yX3_addKind, Cond.code yX3_addKind cX3_addKind 8 (some .int), Cond.classLink RX3 69 "java/lang/IllegalArgumentException", Cond.initialized "java/lang/IllegalArgumentException", Cond.classLink RX3 72 "java/lang/IllegalStateException", Cond.initialized "java/lang/IllegalStateException", Cond.instantiable RX1 8, Cond.initialized RX1, Cond.methodLink RX3 65 yX3_isWithin, Cond.static yX3_isWithin, Cond.code yX3_isWithin cX3_isWithin 3 (some .boolean), Cond.methodLink RX3 75 yX1_init, Cond.instanceMethod yX1_init, Cond.code yX1_init cX1_init 8 none, Cond.methodLink RX1 1 objectInit, Cond.fieldLink RX1 7 "PalletStack$Kind" "number" "I", Cond.fieldLink RX1 13 "PalletStack$Kind" "width" "I", Cond.fieldLink RX1 16 "PalletStack$Kind" "depth" "I", Cond.fieldLink RX1 19 "PalletStack$Kind" "height" "I", Cond.fieldLink RX1 22 "PalletStack$Kind" "weight" "I", Cond.fieldLink RX1 25 "PalletStack$Kind" "strength" "I"]
def wsL_law0_r5 : List Cond := [Cond.fieldLink RX1 28 "PalletStack$Kind" "canTurn" "Z", Cond.fieldLink RX1 32 "PalletStack$Kind" "needsDeck" "Z", Cond.methodLink RL 76 yX4_addKind, Cond.instanceMethod yX4_addKind, Cond.selects RX4 yX4_addKind yX4_addKind, Cond.code yX4_addKind cX4_addKind 8 (some .int), Cond.fieldLink RX4 35 "PalletStackModel" "thrown" "I", Cond.fieldLink RX4 38 "PalletStackModel" "kinds" "I", Cond.methodLink RX4 49 arraycopyName, Cond.native arraycopyName, Cond.static arraycopyName, Cond.initialized "java/lang/System", Cond.methodLink RX4 41 yX4_isIn, Cond.static yX4_isIn, Cond.code yX4_isIn cX4_isIn 3 (some .boolean), Cond.methodLink RX4 45 yX4_fail, Cond.instanceMethod yX4_fail, Cond.selects RX4 yX4_fail yX4_fail, Cond.code yX4_fail cX4_fail 2 (some .int), Cond.methodLink RL 77 yX4_thrown, Cond.instanceMethod yX4_thrown, Cond.selects RX4 yX4_thrown yX4_thrown, Cond.code yX4_thrown cX4_thrown 1 (some .int), Cond.methodLink RL 81 yL_setRules]
def wsL_law0_r6 : List Cond := [Cond.static yL_setRules, Cond.codeWith yL_setRules cL_setRules 7 (some .int) [(0, 14, 17, 13)], Cond.methodLink RL 17 yX3_setRules, Cond.instanceMethod yX3_setRules, Cond.selects RX3 yX3_setRules yX3_setRules, Cond.code yX3_setRules cX3_setRules 6 (some .int), Cond.methodLink RL 84 yX4_setRules, Cond.instanceMethod yX4_setRules, Cond.selects RX4 yX4_setRules yX4_setRules, Cond.code yX4_setRules cX4_setRules 6 (some .int), Cond.fieldLink RX4 55 "PalletStackModel" "areCorners" "Z", Cond.methodLink RL 85 yL_count, Cond.static yL_count, Cond.codeWith yL_count cL_count 4 (some .int) [(0, 9, 12, 25)], Cond.classLink RL 25 "java/lang/IndexOutOfBoundsException", Cond.methodLink RL 21 yX3_count, Cond.instanceMethod yX3_count, Cond.selects RX3 yX3_count yX3_count, Cond.code yX3_count cX3_count 2 (some .int), Cond.classLink RX3 78 "java/lang/IndexOutOfBoundsException", Cond.initialized "java/lang/IndexOutOfBoundsException", Cond.methodLink RX3 81 yX3_countOf, Cond.instanceMethod yX3_countOf, Cond.selects RX3 yX3_countOf yX3_countOf]
def wsL_law0_r7 : List Cond := [Cond.code yX3_countOf cX3_countOf 2 (some .int), Cond.methodLink RL 88 yX4_count, Cond.instanceMethod yX4_count, Cond.selects RX4 yX4_count yX4_count, Cond.code yX4_count cX4_count 2 (some .int), Cond.methodLink RX4 73 yX4_counted, Cond.instanceMethod yX4_counted, Cond.selects RX4 yX4_counted yX4_counted, Cond.code yX4_counted cX4_counted 2 (some .int), Cond.fieldLink RX4 59 "PalletStackModel" "came" "I", Cond.fieldLink RX4 70 "PalletStackModel" "lines" "I", Cond.methodLink RX4 66 yX4_present, Cond.instanceMethod yX4_present, Cond.selects RX4 yX4_present yX4_present, Cond.code yX4_present cX4_present 3 (some .int), Cond.methodLink RX4 62 yX4_isHere, Cond.instanceMethod yX4_isHere, Cond.selects RX4 yX4_isHere yX4_isHere, Cond.code yX4_isHere cX4_isHere 2 (some .boolean), Cond.methodLink RL 89 yL_reason, Cond.static yL_reason, Cond.codeWith yL_reason cL_reason 7 (some .int) [(0, 14, 17, 25)], Cond.methodLink RL 27 yX3_reason, Cond.instanceMethod yX3_reason]
def wsL_law0_r8 : List Cond := [Cond.selects RX3 yX3_reason yX3_reason, Cond.code yX3_reason cX3_reason 6 (some .int), Cond.methodLink RX3 85 yX3_kindOf, Cond.instanceMethod yX3_kindOf, Cond.selects RX3 yX3_kindOf yX3_kindOf, Cond.code yX3_kindOf cX3_kindOf 2 (some (.object "PalletStack$Kind")), Cond.methodLink RX3 89 yX3_firstReason, Cond.instanceMethod yX3_firstReason, Cond.selects RX3 yX3_firstReason yX3_firstReason, Cond.code yX3_firstReason cX3_firstReason 5 (some .int), Cond.methodLink RX3 280 yX3_isInField, Cond.static yX3_isInField, Cond.code yX3_isInField cX3_isInField 6 (some .boolean), Cond.fieldLink RX3 245 "PalletStack$Kind" "canTurn" "Z", Cond.fieldLink RX3 248 "PalletStack$Kind" "depth" "I", Cond.fieldLink RX3 249 "PalletStack$Kind" "width" "I", Cond.methodLink RX3 284 yX3_letDown, Cond.instanceMethod yX3_letDown, Cond.selects RX3 yX3_letDown yX3_letDown, Cond.code yX3_letDown cX3_letDown 10 none, Cond.fieldLink RX3 182 "PalletStack$Item" "x" "I", Cond.fieldLink RX3 176 "PalletStack$Item" "y" "I", Cond.fieldLink RX3 179 "PalletStack$Item" "depth" "I", Cond.fieldLink RX3 185 "PalletStack$Item" "width" "I"]
def wsL_law0_r9 : List Cond := [Cond.fieldLink RX3 131 "PalletStack$Item" "bottom" "I", Cond.fieldLink RX3 254 "PalletStack$Kind" "height" "I", Cond.fieldLink RX3 134 "PalletStack$Item" "top" "I", Cond.fieldLink RX3 214 "PalletStack$Item" "ground" "I", Cond.methodLink RX3 250 yX0_shape, Cond.instanceMethod yX0_shape, Cond.selects RX0 yX0_shape yX0_shape, Cond.code yX0_shape cX0_shape 3 none, Cond.fieldLink RX0 69 "PalletStack$Kind" "number" "I", Cond.fieldLink RX0 74 "PalletStack$Kind" "weight" "I", Cond.fieldLink RX0 75 "PalletStack$Kind" "strength" "I", Cond.fieldLink RX0 76 "PalletStack$Kind" "depth" "I", Cond.fieldLink RX0 77 "PalletStack$Kind" "width" "I", Cond.methodLink RX3 124 yX3_topOf, Cond.instanceMethod yX3_topOf, Cond.selects RX3 yX3_topOf yX3_topOf, Cond.code yX3_topOf cX3_topOf 4 (some .int), Cond.methodLink RX3 288 yX3_brokenRule, Cond.instanceMethod yX3_brokenRule, Cond.selects RX3 yX3_brokenRule yX3_brokenRule, Cond.code yX3_brokenRule cX3_brokenRule 2 (some .int), Cond.fieldLink RX3 267 "PalletStack$Kind" "needsDeck" "Z", Cond.fieldLink RX3 107 "PalletStack$Item" "weight" "I", Cond.methodLink RX3 188 yX0_cells]
def wsL_law0_r10 : List Cond := [Cond.instanceMethod yX0_cells, Cond.selects RX0 yX0_cells yX0_cells, Cond.code yX0_cells cX0_cells 1 (some .int), Cond.methodLink RX3 270 yX3_hasGroundAtCorners, Cond.instanceMethod yX3_hasGroundAtCorners, Cond.selects RX3 yX3_hasGroundAtCorners yX3_hasGroundAtCorners, Cond.code yX3_hasGroundAtCorners cX3_hasGroundAtCorners 3 (some .boolean), Cond.methodLink RX3 264 yX3_isGround, Cond.instanceMethod yX3_isGround, Cond.selects RX3 yX3_isGround yX3_isGround, Cond.code yX3_isGround cX3_isGround 3 (some .boolean), Cond.methodLink RX3 274 yX3_findSupports, Cond.instanceMethod yX3_findSupports, Cond.selects RX3 yX3_findSupports yX3_findSupports, Cond.code yX3_findSupports cX3_findSupports 3 none, Cond.fieldLink RX3 211 "PalletStack$Item" "supportCount" "I", Cond.methodLink RX3 96 yX3_itemOf, Cond.instanceMethod yX3_itemOf, Cond.selects RX3 yX3_itemOf yX3_itemOf, Cond.code yX3_itemOf cX3_itemOf 3 (some (.object "PalletStack$Item")), Cond.fieldLink RX3 104 "PalletStack$Item" "isOnPallet" "Z", Cond.methodLink RX3 257 yX0_cellsInCommon, Cond.instanceMethod yX0_cellsInCommon, Cond.selects RX0 yX0_cellsInCommon yX0_cellsInCommon]
def wsL_law0_r11 : List Cond := [Cond.code yX0_cellsInCommon cX0_cellsInCommon 4 (some .int), Cond.methodLink RX0 78 Lib.Math.min.name, Cond.static Lib.Math.min.name, Cond.initialized "java/lang/Math", Cond.code Lib.Math.min.name Lib.Math.min.code 2 (some .int), Cond.methodLink RX0 84 Lib.Math.max.name, Cond.static Lib.Math.max.name, Cond.code Lib.Math.max.name Lib.Math.max.code 2 (some .int), Cond.methodLink RX3 260 yX0_addSupport, Cond.instanceMethod yX0_addSupport, Cond.selects RX0 yX0_addSupport yX0_addSupport, Cond.code yX0_addSupport cX0_addSupport 3 none, Cond.methodLink RX3 277 yX3_isTooMuchLoad, Cond.instanceMethod yX3_isTooMuchLoad, Cond.selects RX3 yX3_isTooMuchLoad yX3_isTooMuchLoad, Cond.code yX3_isTooMuchLoad cX3_isTooMuchLoad 3 (some .boolean), Cond.fieldLink RX3 233 "PalletStack$Item" "nextLoad" "I", Cond.fieldLink RX3 242 "PalletStack$Item" "strength" "I", Cond.methodLink RX3 236 yX3_forgetNextLoads, Cond.instanceMethod yX3_forgetNextLoads, Cond.selects RX3 yX3_forgetNextLoads yX3_forgetNextLoads, Cond.code yX3_forgetNextLoads cX3_forgetNextLoads 3 none, Cond.methodLink RX3 239 yX0_passLoadDown, Cond.instanceMethod yX0_passLoadDown]
def wsL_law0_r12 : List Cond := [Cond.selects RX0 yX0_passLoadDown yX0_passLoadDown, Cond.code yX0_passLoadDown cX0_passLoadDown 3 none, Cond.methodLink RL 91 yX4_reason, Cond.instanceMethod yX4_reason, Cond.selects RX4 yX4_reason yX4_reason, Cond.code yX4_reason cX4_reason 5 (some .int), Cond.methodLink RX4 152 yX4_isKind, Cond.instanceMethod yX4_isKind, Cond.selects RX4 yX4_isKind yX4_isKind, Cond.code yX4_isKind cX4_isKind 2 (some .boolean), Cond.methodLink RX4 155 yX4_why, Cond.instanceMethod yX4_why, Cond.selects RX4 yX4_why yX4_why, Cond.code yX4_why cX4_why 9 (some .int), Cond.fieldLink RX4 149 "PalletStackModel" "tried" "I", Cond.methodLink RX4 80 yX4_kind, Cond.instanceMethod yX4_kind, Cond.selects RX4 yX4_kind yX4_kind, Cond.code yX4_kind cX4_kind 3 (some .int), Cond.methodLink RX4 129 yX4_canTurn, Cond.static yX4_canTurn, Cond.code yX4_canTurn cX4_canTurn 1 (some .boolean), Cond.methodLink RX4 132 yX4_lay, Cond.instanceMethod yX4_lay]
def wsL_law0_r13 : List Cond := [Cond.selects RX4 yX4_lay yX4_lay, Cond.code yX4_lay cX4_lay 9 none, Cond.methodLink RX4 94 Lib.Math.max.name, Cond.methodLink RX4 104 yX4_common, Cond.instanceMethod yX4_common, Cond.selects RX4 yX4_common yX4_common, Cond.code yX4_common cX4_common 3 (some .int), Cond.methodLink RX4 76 yX4_get, Cond.instanceMethod yX4_get, Cond.selects RX4 yX4_get yX4_get, Cond.code yX4_get cX4_get 3 (some .int), Cond.methodLink RX4 83 yX4_wide, Cond.instanceMethod yX4_wide, Cond.selects RX4 yX4_wide yX4_wide, Cond.code yX4_wide cX4_wide 2 (some .int), Cond.methodLink RX4 97 yX4_overlap, Cond.static yX4_overlap, Cond.code yX4_overlap cX4_overlap 4 (some .int), Cond.methodLink RX4 89 Lib.Math.min.name, Cond.methodLink RX4 86 yX4_deep, Cond.instanceMethod yX4_deep, Cond.selects RX4 yX4_deep yX4_deep, Cond.code yX4_deep cX4_deep 2 (some .int), Cond.methodLink RX4 101 yX4_topOf]
def wsL_law0_r14 : List Cond := [Cond.instanceMethod yX4_topOf, Cond.selects RX4 yX4_topOf yX4_topOf, Cond.code yX4_topOf cX4_topOf 2 (some .int), Cond.methodLink RX4 136 yX4_needsDeck, Cond.static yX4_needsDeck, Cond.code yX4_needsDeck cX4_needsDeck 1 (some .boolean), Cond.methodLink RX4 123 yX4_ground, Cond.instanceMethod yX4_ground, Cond.selects RX4 yX4_ground yX4_ground, Cond.code yX4_ground cX4_ground 4 (some .int), Cond.methodLink RX4 107 yX4_cells, Cond.instanceMethod yX4_cells, Cond.selects RX4 yX4_cells yX4_cells, Cond.code yX4_cells cX4_cells 2 (some .int), Cond.methodLink RX4 110 yX4_standsOn, Cond.instanceMethod yX4_standsOn, Cond.selects RX4 yX4_standsOn yX4_standsOn, Cond.code yX4_standsOn cX4_standsOn 3 (some .boolean), Cond.methodLink RX4 139 yX4_hasCorners, Cond.instanceMethod yX4_hasCorners, Cond.selects RX4 yX4_hasCorners yX4_hasCorners, Cond.code yX4_hasCorners cX4_hasCorners 6 (some .boolean), Cond.methodLink RX4 117 yX4_isGround, Cond.instanceMethod yX4_isGround]
def wsL_law0_r15 : List Cond := [Cond.selects RX4 yX4_isGround yX4_isGround, Cond.code yX4_isGround cX4_isGround 6 (some .boolean), Cond.methodLink RX4 114 yX4_covers, Cond.instanceMethod yX4_covers, Cond.selects RX4 yX4_covers yX4_covers, Cond.code yX4_covers cX4_covers 4 (some .boolean), Cond.methodLink RX4 142 yX4_isTooMuch, Cond.instanceMethod yX4_isTooMuch, Cond.selects RX4 yX4_isTooMuch yX4_isTooMuch, Cond.code yX4_isTooMuch cX4_isTooMuch 3 (some .boolean), Cond.methodLink RX4 126 yX4_reckonLoads, Cond.instanceMethod yX4_reckonLoads, Cond.selects RX4 yX4_reckonLoads yX4_reckonLoads, Cond.code yX4_reckonLoads cX4_reckonLoads 7 none, Cond.methodLink RX4 120 yX4_weight, Cond.instanceMethod yX4_weight, Cond.selects RX4 yX4_weight yX4_weight, Cond.code yX4_weight cX4_weight 2 (some .int), Cond.methodLink RX4 146 yX4_weights, Cond.instanceMethod yX4_weights, Cond.selects RX4 yX4_weights yX4_weights, Cond.code yX4_weights cX4_weights 3 (some .int), Cond.methodLink RL 92 yL_put, Cond.static yL_put]
def wsL_law0_r16 : List Cond := [Cond.codeWith yL_put cL_put 7 (some .int) [(0, 14, 17, 25), (0, 14, 21, 15)], Cond.methodLink RL 30 yX3_put, Cond.instanceMethod yX3_put, Cond.selects RX3 yX3_put yX3_put, Cond.code yX3_put cX3_put 6 (some .int), Cond.methodLink RX3 93 yX3_putTrial, Cond.instanceMethod yX3_putTrial, Cond.selects RX3 yX3_putTrial yX3_putTrial, Cond.code yX3_putTrial cX3_putTrial 3 none, Cond.methodLink RX3 301 yX3_layTop, Cond.instanceMethod yX3_layTop, Cond.selects RX3 yX3_layTop yX3_layTop, Cond.code yX3_layTop cX3_layTop 4 none, Cond.methodLink RX3 120 yX3_isCell, Cond.static yX3_isCell, Cond.code yX3_isCell cX3_isCell 2 (some .boolean), Cond.methodLink RX3 113 yX3_settleLoads, Cond.instanceMethod yX3_settleLoads, Cond.selects RX3 yX3_settleLoads yX3_settleLoads, Cond.code yX3_settleLoads cX3_settleLoads 3 none, Cond.fieldLink RX3 208 "PalletStack$Item" "load" "I", Cond.methodLink RL 94 yX4_put, Cond.instanceMethod yX4_put, Cond.selects RX4 yX4_put yX4_put]
def wsL_law0_r17 : List Cond := [Cond.code yX4_put cX4_put 5 (some .int), Cond.methodLink RX4 159 yX4_add, Cond.instanceMethod yX4_add, Cond.selects RX4 yX4_add yX4_add, Cond.code yX4_add cX4_add 5 none, Cond.methodLink RL 95 yL_takeOff, Cond.static yL_takeOff, Cond.codeWith yL_takeOff cL_takeOff 4 (some .int) [(0, 9, 12, 25), (0, 9, 15, 15)], Cond.methodLink RL 33 yX3_takeOff, Cond.instanceMethod yX3_takeOff, Cond.selects RX3 yX3_takeOff yX3_takeOff, Cond.code yX3_takeOff cX3_takeOff 3 (some .int), Cond.methodLink RX3 100 yX3_standingOn, Cond.instanceMethod yX3_standingOn, Cond.selects RX3 yX3_standingOn yX3_standingOn, Cond.code yX3_standingOn cX3_standingOn 5 (some .int), Cond.methodLink RX3 223 yX0_standsOn, Cond.instanceMethod yX0_standsOn, Cond.selects RX0 yX0_standsOn yX0_standsOn, Cond.code yX0_standsOn cX0_standsOn 2 (some .boolean), Cond.methodLink RX0 87 yX0_cellsInCommon, Cond.methodLink RX3 110 yX3_layAllTops, Cond.instanceMethod yX3_layAllTops, Cond.selects RX3 yX3_layAllTops yX3_layAllTops]
def wsL_law0_r18 : List Cond := [Cond.code yX3_layAllTops cX3_layAllTops 3 none, Cond.methodLink RL 97 yX4_takeOff, Cond.instanceMethod yX4_takeOff, Cond.selects RX4 yX4_takeOff yX4_takeOff, Cond.code yX4_takeOff cX4_takeOff 2 (some .int), Cond.methodLink RX4 163 yX4_isItem, Cond.instanceMethod yX4_isItem, Cond.selects RX4 yX4_isItem yX4_isItem, Cond.code yX4_isItem cX4_isItem 2 (some .boolean), Cond.methodLink RX4 166 yX4_above, Cond.instanceMethod yX4_above, Cond.selects RX4 yX4_above yX4_above, Cond.code yX4_above cX4_above 4 (some .int), Cond.methodLink RL 98 yL_item, Cond.static yL_item, Cond.codeWith yL_item cL_item 5 (some .int) [(0, 10, 13, 25)], Cond.methodLink RL 36 yX3_item, Cond.instanceMethod yX3_item, Cond.selects RX3 yX3_item yX3_item, Cond.code yX3_item cX3_item 4 (some .int), Cond.methodLink RX3 116 yX3_factOf, Cond.instanceMethod yX3_factOf, Cond.selects RX3 yX3_factOf yX3_factOf, Cond.code yX3_factOf cX3_factOf 3 (some .int)]
def wsL_law0_r19 : List Cond := [Cond.fieldLink RX3 203 "PalletStack$Item" "kind" "I", Cond.fieldLink RX3 205 "PalletStack$Item" "isTurned" "Z", Cond.methodLink RL 101 yX4_item, Cond.instanceMethod yX4_item, Cond.selects RX4 yX4_item yX4_item, Cond.code yX4_item cX4_item 3 (some .int), Cond.methodLink RX4 172 yX4_itemTold, Cond.instanceMethod yX4_itemTold, Cond.selects RX4 yX4_itemTold yX4_itemTold, Cond.code yX4_itemTold cX4_itemTold 3 (some .int), Cond.methodLink RX4 169 yX4_below, Cond.instanceMethod yX4_below, Cond.selects RX4 yX4_below yX4_below, Cond.code yX4_below cX4_below 4 (some .int), Cond.methodLink RL 102 yL_top, Cond.static yL_top, Cond.codeWith yL_top cL_top 5 (some .int) [(0, 10, 13, 25)], Cond.methodLink RL 40 yX3_top, Cond.instanceMethod yX3_top, Cond.selects RX3 yX3_top yX3_top, Cond.code yX3_top cX3_top 3 (some .int), Cond.methodLink RL 104 yX4_top, Cond.instanceMethod yX4_top, Cond.selects RX4 yX4_top yX4_top]
def wsL_law0_r20 : List Cond := [Cond.code yX4_top cX4_top 5 (some .int), Cond.methodLink RX4 175 yX4_isCell, Cond.static yX4_isCell, Cond.code yX4_isCell cX4_isCell 2 (some .boolean), Cond.methodLink RL 105 yL_at, Cond.static yL_at, Cond.codeWith yL_at cL_at 6 (some .int) [(0, 12, 15, 25)], Cond.methodLink RL 43 yX3_at, Cond.instanceMethod yX3_at, Cond.selects RX3 yX3_at yX3_at, Cond.code yX3_at cX3_at 6 (some .int), Cond.methodLink RX3 128 yX0_covers, Cond.instanceMethod yX0_covers, Cond.selects RX0 yX0_covers yX0_covers, Cond.code yX0_covers cX0_covers 3 (some .boolean), Cond.methodLink RL 108 yX4_at, Cond.instanceMethod yX4_at, Cond.selects RX4 yX4_at yX4_at, Cond.code yX4_at cX4_at 5 (some .int), Cond.methodLink RL 109 yL_restsOn, Cond.static yL_restsOn, Cond.codeWith yL_restsOn cL_restsOn 5 (some .int) [(0, 17, 20, 25)], Cond.methodLink RL 47 yX3_restsOn, Cond.instanceMethod yX3_restsOn]
def wsL_law0_r21 : List Cond := [Cond.selects RX3 yX3_restsOn yX3_restsOn, Cond.code yX3_restsOn cX3_restsOn 5 (some .boolean), Cond.methodLink RX3 137 yX3_isCarriedBy, Cond.instanceMethod yX3_isCarriedBy, Cond.selects RX3 yX3_isCarriedBy yX3_isCarriedBy, Cond.code yX3_isCarriedBy cX3_isCarriedBy 5 (some .boolean), Cond.fieldLink RX3 227 "PalletStack$Item" "isReached" "Z", Cond.methodLink RX3 230 yX0_reachSupports, Cond.instanceMethod yX0_reachSupports, Cond.selects RX0 yX0_reachSupports yX0_reachSupports, Cond.code yX0_reachSupports cX0_reachSupports 3 none, Cond.methodLink RL 111 yX4_restsOn, Cond.instanceMethod yX4_restsOn, Cond.selects RX4 yX4_restsOn yX4_restsOn, Cond.code yX4_restsOn cX4_restsOn 3 (some .boolean), Cond.methodLink RX4 178 yX4_rests, Cond.instanceMethod yX4_rests, Cond.selects RX4 yX4_rests yX4_rests, Cond.code yX4_rests cX4_rests 8 (some .boolean), Cond.arrayClass .boolean, Cond.methodLink RL 112 yL_best, Cond.static yL_best, Cond.codeWith yL_best cL_best 4 (some .int) [(0, 9, 12, 25)], Cond.methodLink RL 51 yX3_best]
def wsL_law0_r22 : List Cond := [Cond.instanceMethod yX3_best, Cond.selects RX3 yX3_best yX3_best, Cond.code yX3_best cX3_best 3 (some .int), Cond.methodLink RX3 141 yX3_bestPlace, Cond.instanceMethod yX3_bestPlace, Cond.selects RX3 yX3_bestPlace yX3_bestPlace, Cond.code yX3_bestPlace cX3_bestPlace 7 (some .int), Cond.methodLink RX3 291 yX3_xOf, Cond.static yX3_xOf, Cond.code yX3_xOf cX3_xOf 1 (some .int), Cond.methodLink RX3 294 yX3_yOf, Cond.static yX3_yOf, Cond.code yX3_yOf cX3_yOf 1 (some .int), Cond.methodLink RX3 297 yX3_isTurnedIn, Cond.static yX3_isTurnedIn, Cond.code yX3_isTurnedIn cX3_isTurnedIn 1 (some .boolean), Cond.methodLink RL 114 yX4_best, Cond.instanceMethod yX4_best, Cond.selects RX4 yX4_best yX4_best, Cond.code yX4_best cX4_best 2 (some .int), Cond.methodLink RX4 181 yX4_bestFor, Cond.instanceMethod yX4_bestFor, Cond.selects RX4 yX4_bestFor yX4_bestFor, Cond.code yX4_bestFor cX4_bestFor 8 (some .int)]
def wsL_law0_r23 : List Cond := [Cond.methodLink RL 115 yL_fill, Cond.static yL_fill, Cond.codeWith yL_fill cL_fill 5 (some .int) [(0, 10, 13, 25), (0, 10, 17, 13)], Cond.methodLink RL 54 yX3_fill, Cond.instanceMethod yX3_fill, Cond.selects RX3 yX3_fill yX3_fill, Cond.code yX3_fill cX3_fill 5 (some .int), Cond.methodLink RX3 145 yX3_putAtBest, Cond.instanceMethod yX3_putAtBest, Cond.selects RX3 yX3_putAtBest yX3_putAtBest, Cond.code yX3_putAtBest cX3_putAtBest 3 (some .boolean), Cond.methodLink RL 117 yX4_fill, Cond.instanceMethod yX4_fill, Cond.selects RX4 yX4_fill yX4_fill, Cond.code yX4_fill cX4_fill 4 (some .int), Cond.methodLink RX4 184 yX4_putBest, Cond.instanceMethod yX4_putBest, Cond.selects RX4 yX4_putBest yX4_putBest, Cond.code yX4_putBest cX4_putBest 3 (some .boolean), Cond.methodLink RL 118 yL_addLine, Cond.static yL_addLine, Cond.codeWith yL_addLine cL_addLine 5 (some .int) [(0, 10, 13, 25), (0, 10, 17, 13), (0, 10, 21, 15)], Cond.methodLink RL 57 yX3_addLine, Cond.instanceMethod yX3_addLine]
def wsL_law0_r24 : List Cond := [Cond.selects RX3 yX3_addLine yX3_addLine, Cond.code yX3_addLine cX3_addLine 5 (some .int), Cond.instantiable RX2 3, Cond.initialized RX2, Cond.methodLink RX3 149 yX2_init, Cond.instanceMethod yX2_init, Cond.code yX2_init cX2_init 3 none, Cond.methodLink RX2 1 objectInit, Cond.fieldLink RX2 7 "PalletStack$Line" "isAside" "Z", Cond.fieldLink RX2 13 "PalletStack$Line" "kind" "LPalletStack$Kind;", Cond.fieldLink RX2 17 "PalletStack$Line" "count" "I", Cond.methodLink RL 120 yX4_addLine, Cond.instanceMethod yX4_addLine, Cond.selects RX4 yX4_addLine yX4_addLine, Cond.code yX4_addLine cX4_addLine 3 (some .int), Cond.methodLink RL 121 yX3_stack, Cond.instanceMethod yX3_stack, Cond.selects RX3 yX3_stack yX3_stack, Cond.code yX3_stack cX3_stack 4 (some .int), Cond.fieldLink RX3 156 "PalletStack$Line" "isAside" "Z", Cond.fieldLink RX3 163 "PalletStack$Line" "kind" "LPalletStack$Kind;", Cond.fieldLink RX3 167 "PalletStack$Line" "count" "I", Cond.methodLink RX3 152 yX3_lineOf, Cond.instanceMethod yX3_lineOf]
def wsL_law0_r25 : List Cond := [Cond.selects RX3 yX3_lineOf yX3_lineOf, Cond.code yX3_lineOf cX3_lineOf 2 (some (.object "PalletStack$Line")), Cond.methodLink RX3 159 yX3_nextLine, Cond.instanceMethod yX3_nextLine, Cond.selects RX3 yX3_nextLine yX3_nextLine, Cond.code yX3_nextLine cX3_nextLine 4 (some (.object "PalletStack$Line")), Cond.methodLink RX3 305 yX1_comesBefore, Cond.instanceMethod yX1_comesBefore, Cond.selects RX1 yX1_comesBefore yX1_comesBefore, Cond.code yX1_comesBefore cX1_comesBefore 2 (some .boolean), Cond.methodLink RL 124 yX4_stack, Cond.instanceMethod yX4_stack, Cond.selects RX4 yX4_stack yX4_stack, Cond.code yX4_stack cX4_stack 5 (some .int), Cond.methodLink RX4 187 yX4_isAhead, Cond.instanceMethod yX4_isAhead, Cond.selects RX4 yX4_isAhead yX4_isAhead, Cond.code yX4_isAhead cX4_isAhead 5 (some .boolean), Cond.methodLink RL 125 yL_line, Cond.static yL_line, Cond.codeWith yL_line cL_line 5 (some .int) [(0, 10, 13, 25)], Cond.methodLink RL 60 yX3_line, Cond.instanceMethod yX3_line, Cond.selects RX3 yX3_line yX3_line]
def wsL_law0_r26 : List Cond := [Cond.code yX3_line cX3_line 4 (some .int), Cond.fieldLink RX3 170 "PalletStack$Kind" "number" "I", Cond.methodLink RL 128 yX4_line, Cond.instanceMethod yX4_line, Cond.selects RX4 yX4_line yX4_line, Cond.code yX4_line cX4_line 3 (some .int), Cond.methodLink RL 129 yX3_clear, Cond.instanceMethod yX3_clear, Cond.selects RX3 yX3_clear yX3_clear, Cond.code yX3_clear cX3_clear 4 (some .int), Cond.methodLink RL 132 yX4_clear, Cond.instanceMethod yX4_clear, Cond.selects RX4 yX4_clear yX4_clear, Cond.code yX4_clear cX4_clear 3 (some .int), Cond.methodLink RL 133 yL_sum, Cond.static yL_sum, Cond.codeWith yL_sum cL_sum 4 (some .int) [(0, 9, 12, 25)], Cond.methodLink RL 64 yX3_sum, Cond.instanceMethod yX3_sum, Cond.selects RX3 yX3_sum yX3_sum, Cond.code yX3_sum cX3_sum 2 (some .int), Cond.methodLink RX3 173 yX3_sumOf, Cond.instanceMethod yX3_sumOf, Cond.selects RX3 yX3_sumOf yX3_sumOf]
def wsL_law0_r27 : List Cond := [Cond.code yX3_sumOf cX3_sumOf 2 (some .int), Cond.methodLink RX3 192 yX3_greatestTop, Cond.instanceMethod yX3_greatestTop, Cond.selects RX3 yX3_greatestTop yX3_greatestTop, Cond.code yX3_greatestTop cX3_greatestTop 4 (some .int), Cond.methodLink RX3 217 yX3_greatestLoad, Cond.instanceMethod yX3_greatestLoad, Cond.selects RX3 yX3_greatestLoad yX3_greatestLoad, Cond.code yX3_greatestLoad cX3_greatestLoad 4 (some .int), Cond.methodLink RX3 220 yX3_coveredDeck, Cond.instanceMethod yX3_coveredDeck, Cond.selects RX3 yX3_coveredDeck yX3_coveredDeck, Cond.code yX3_coveredDeck cX3_coveredDeck 4 (some .int), Cond.methodLink RL 135 yX4_sum, Cond.instanceMethod yX4_sum, Cond.selects RX4 yX4_sum yX4_sum, Cond.code yX4_sum cX4_sum 2 (some .int), Cond.methodLink RX4 190 yX4_sumOf, Cond.instanceMethod yX4_sumOf, Cond.selects RX4 yX4_sumOf yX4_sumOf, Cond.code yX4_sumOf cX4_sumOf 4 (some .int), Cond.methodLink RL 136 yX3_middle, Cond.instanceMethod yX3_middle, Cond.selects RX3 yX3_middle yX3_middle]
def wsL_law0_r28 : List Cond := [Cond.code yX3_middle cX3_middle 5 (some .double), Cond.methodLink RL 140 yX4_middle, Cond.instanceMethod yX4_middle, Cond.selects RX4 yX4_middle yX4_middle, Cond.code yX4_middle cX4_middle 4 (some .double), Cond.methodLink RL 141 yX3_filled, Cond.instanceMethod yX3_filled, Cond.selects RX3 yX3_filled yX3_filled, Cond.code yX3_filled cX3_filled 4 (some .double), Cond.methodLink RL 145 yX4_filled, Cond.instanceMethod yX4_filled, Cond.selects RX4 yX4_filled yX4_filled, Cond.code yX4_filled cX4_filled 3 (some .double), Cond.methodLink RL 146 yX3_digest, Cond.instanceMethod yX3_digest, Cond.selects RX3 yX3_digest yX3_digest, Cond.code yX3_digest cX3_digest 5 (some .long), Cond.constantLong RX3 195 (349), Cond.constantLong RX3 197 (31), Cond.methodLink RX3 199 yX3_withFacts, Cond.instanceMethod yX3_withFacts, Cond.selects RX3 yX3_withFacts yX3_withFacts, Cond.code yX3_withFacts cX3_withFacts 7 (some .long), Cond.methodLink RL 150 yX4_digest]
def wsL_law0_r29 : List Cond := [Cond.instanceMethod yX4_digest, Cond.selects RX4 yX4_digest yX4_digest, Cond.code yX4_digest cX4_digest 5 (some .long), Cond.constantLong RX4 193 (349), Cond.constantLong RX4 195 (31)]
def wsL_law0 : List Cond := (wsL_law0_r1 ++ (wsL_law0_r2 ++ (wsL_law0_r3 ++ (wsL_law0_r4 ++ (wsL_law0_r5 ++ (wsL_law0_r6 ++ (wsL_law0_r7 ++ (wsL_law0_r8 ++ (wsL_law0_r9 ++ (wsL_law0_r10 ++ (wsL_law0_r11 ++ (wsL_law0_r12 ++ (wsL_law0_r13 ++ (wsL_law0_r14 ++ (wsL_law0_r15 ++ (wsL_law0_r16 ++ (wsL_law0_r17 ++ (wsL_law0_r18 ++ (wsL_law0_r19 ++ (wsL_law0_r20 ++ (wsL_law0_r21 ++ (wsL_law0_r22 ++ (wsL_law0_r23 ++ (wsL_law0_r24 ++ (wsL_law0_r25 ++ (wsL_law0_r26 ++ (wsL_law0_r27 ++ (wsL_law0_r28 ++ wsL_law0_r29)))))))))))))))))))))))))))) ++ wsX30 ++ wsX40 ++ wsX00 ++ wsX10 ++ wsX20 ++ ([] : List Cond)
def wsL_law : List Cond := wsL_law0 ++ (vx_at0 RX3 71 "java/lang/IllegalArgumentException" ["java/lang/RuntimeException", "java/lang/Exception"]).filter goodWord ++ (vx_at0 RX3 74 "java/lang/IllegalStateException" ["java/lang/RuntimeException", "java/lang/Exception"]).filter goodWord ++ (vx_at0 RX3 80 "java/lang/IndexOutOfBoundsException" ["java/lang/RuntimeException", "java/lang/Exception"]).filter goodWord
theorem wsL_law_x0 : ∀ w ∈ (vx_at0 RX3 71 "java/lang/IllegalArgumentException" ["java/lang/RuntimeException", "java/lang/Exception"]).filter goodWord, w ∈ lw_tbl := by decide +kernel
theorem wsL_law_x1 : ∀ w ∈ (vx_at0 RX3 74 "java/lang/IllegalStateException" ["java/lang/RuntimeException", "java/lang/Exception"]).filter goodWord, w ∈ lw_tbl := by decide +kernel
theorem wsL_law_x2 : ∀ w ∈ (vx_at0 RX3 80 "java/lang/IndexOutOfBoundsException" ["java/lang/RuntimeException", "java/lang/Exception"]).filter goodWord, w ∈ lw_tbl := by decide +kernel
theorem inJ9 : ∀ w ∈ wsJ90, w ∈ lw_tbl := by decide +kernel
theorem inJ10 : ∀ w ∈ wsJ100, w ∈ lw_tbl := by decide +kernel
theorem dJ9_max_7cf53_0 : decode cJ9_max_7cf53 0 = .ok (.iload_n 0, 1) := by decide +kernel
theorem dJ9_max_7cf53_1 : decode cJ9_max_7cf53 1 = .ok (.iload_n 1, 1) := by decide +kernel
theorem dJ9_max_7cf53_2 : decode cJ9_max_7cf53 2 = .ok (.if_icmp .lt 7, 3) := by decide +kernel
theorem dJ9_max_7cf53_5 : decode cJ9_max_7cf53 5 = .ok (.iload_n 0, 1) := by decide +kernel
theorem dJ9_max_7cf53_6 : decode cJ9_max_7cf53 6 = .ok (.goto 4, 3) := by decide +kernel
theorem dJ9_max_7cf53_9 : decode cJ9_max_7cf53 9 = .ok (.iload_n 1, 1) := by decide +kernel
theorem dJ9_max_7cf53_10 : decode cJ9_max_7cf53 10 = .ok (.ireturn, 1) := by decide +kernel
theorem dJ9_min_7cf53_0 : decode cJ9_min_7cf53 0 = .ok (.iload_n 0, 1) := by decide +kernel
theorem dJ9_min_7cf53_1 : decode cJ9_min_7cf53 1 = .ok (.iload_n 1, 1) := by decide +kernel
theorem dJ9_min_7cf53_2 : decode cJ9_min_7cf53 2 = .ok (.if_icmp .gt 7, 3) := by decide +kernel
theorem dJ9_min_7cf53_5 : decode cJ9_min_7cf53 5 = .ok (.iload_n 0, 1) := by decide +kernel
theorem dJ9_min_7cf53_6 : decode cJ9_min_7cf53 6 = .ok (.goto 4, 3) := by decide +kernel
theorem dJ9_min_7cf53_9 : decode cJ9_min_7cf53 9 = .ok (.iload_n 1, 1) := by decide +kernel
theorem dJ9_min_7cf53_10 : decode cJ9_min_7cf53 10 = .ok (.ireturn, 1) := by decide +kernel
abbrev vwCl : List vw_C := [(RX0, TX0, 18), (RX1, TX1, 8), (RX2, TX2, 3), (RX3, TX3, 14), (RX4, TX4, 14)]
end
section
theorem dX0_init_0 : decode cX0_init 0 = .ok (.aload_n 0, 1) := by decide +kernel
theorem dX0_init_1 : decode cX0_init 1 = .ok (.invokespecial 3, 3) := by decide +kernel
theorem dX0_init_4 : decode cX0_init 4 = .ok (.aload_n 0, 1) := by decide +kernel
theorem dX0_init_5 : decode cX0_init 5 = .ok (.iconst 0, 1) := by decide +kernel
theorem dX0_init_6 : decode cX0_init 6 = .ok (.putfield 9, 3) := by decide +kernel
theorem dX0_init_9 : decode cX0_init 9 = .ok (.aload_n 0, 1) := by decide +kernel
theorem dX0_init_10 : decode cX0_init 10 = .ok (.iconst 0, 1) := by decide +kernel
theorem dX0_init_11 : decode cX0_init 11 = .ok (.putfield 15, 3) := by decide +kernel
theorem dX0_init_14 : decode cX0_init 14 = .ok (.aload_n 0, 1) := by decide +kernel
theorem dX0_init_15 : decode cX0_init 15 = .ok (.iconst 0, 1) := by decide +kernel
theorem dX0_init_16 : decode cX0_init 16 = .ok (.putfield 18, 3) := by decide +kernel
theorem dX0_init_19 : decode cX0_init 19 = .ok (.aload_n 0, 1) := by decide +kernel
theorem dX0_init_20 : decode cX0_init 20 = .ok (.iconst 0, 1) := by decide +kernel
theorem dX0_init_21 : decode cX0_init 21 = .ok (.putfield 21, 3) := by decide +kernel
theorem dX0_init_24 : decode cX0_init 24 = .ok (.aload_n 0, 1) := by decide +kernel
theorem dX0_init_25 : decode cX0_init 25 = .ok (.iconst 0, 1) := by decide +kernel
theorem dX0_init_26 : decode cX0_init 26 = .ok (.putfield 25, 3) := by decide +kernel
theorem dX0_init_29 : decode cX0_init 29 = .ok (.aload_n 0, 1) := by decide +kernel
theorem dX0_init_30 : decode cX0_init 30 = .ok (.iconst 0, 1) := by decide +kernel
theorem dX0_init_31 : decode cX0_init 31 = .ok (.putfield 28, 3) := by decide +kernel
theorem dX0_init_34 : decode cX0_init 34 = .ok (.aload_n 0, 1) := by decide +kernel
theorem dX0_init_35 : decode cX0_init 35 = .ok (.iconst 0, 1) := by decide +kernel
theorem dX0_init_36 : decode cX0_init 36 = .ok (.putfield 31, 3) := by decide +kernel
theorem dX0_init_39 : decode cX0_init 39 = .ok (.aload_n 0, 1) := by decide +kernel
theorem dX0_init_40 : decode cX0_init 40 = .ok (.iconst 0, 1) := by decide +kernel
theorem dX0_init_41 : decode cX0_init 41 = .ok (.putfield 34, 3) := by decide +kernel
theorem dX0_init_44 : decode cX0_init 44 = .ok (.aload_n 0, 1) := by decide +kernel
theorem dX0_init_45 : decode cX0_init 45 = .ok (.iconst 0, 1) := by decide +kernel
theorem dX0_init_46 : decode cX0_init 46 = .ok (.putfield 37, 3) := by decide +kernel
theorem dX0_init_49 : decode cX0_init 49 = .ok (.aload_n 0, 1) := by decide +kernel
theorem dX0_init_50 : decode cX0_init 50 = .ok (.iconst 0, 1) := by decide +kernel
theorem dX0_init_51 : decode cX0_init 51 = .ok (.putfield 40, 3) := by decide +kernel
theorem dX0_init_54 : decode cX0_init 54 = .ok (.aload_n 0, 1) := by decide +kernel
theorem dX0_init_55 : decode cX0_init 55 = .ok (.iconst 0, 1) := by decide +kernel
theorem dX0_init_56 : decode cX0_init 56 = .ok (.putfield 43, 3) := by decide +kernel
theorem dX0_init_59 : decode cX0_init 59 = .ok (.aload_n 0, 1) := by decide +kernel
theorem dX0_init_60 : decode cX0_init 60 = .ok (.iconst 0, 1) := by decide +kernel
theorem dX0_init_61 : decode cX0_init 61 = .ok (.putfield 46, 3) := by decide +kernel
theorem dX0_init_64 : decode cX0_init 64 = .ok (.aload_n 0, 1) := by decide +kernel
theorem dX0_init_65 : decode cX0_init 65 = .ok (.iconst 0, 1) := by decide +kernel
theorem dX0_init_66 : decode cX0_init 66 = .ok (.putfield 49, 3) := by decide +kernel
theorem dX0_init_69 : decode cX0_init 69 = .ok (.aload_n 0, 1) := by decide +kernel
theorem dX0_init_70 : decode cX0_init 70 = .ok (.iconst 0, 1) := by decide +kernel
theorem dX0_init_71 : decode cX0_init 71 = .ok (.putfield 52, 3) := by decide +kernel
theorem dX0_init_74 : decode cX0_init 74 = .ok (.aload_n 0, 1) := by decide +kernel
theorem dX0_init_75 : decode cX0_init 75 = .ok (.iconst 0, 1) := by decide +kernel
theorem dX0_init_76 : decode cX0_init 76 = .ok (.putfield 55, 3) := by decide +kernel
theorem dX0_init_79 : decode cX0_init 79 = .ok (.aload_n 0, 1) := by decide +kernel
theorem dX0_init_80 : decode cX0_init 80 = .ok (.iconst 0, 1) := by decide +kernel
theorem dX0_init_81 : decode cX0_init 81 = .ok (.putfield 58, 3) := by decide +kernel
theorem dX0_init_84 : decode cX0_init 84 = .ok (.aload_n 0, 1) := by decide +kernel
theorem dX0_init_85 : decode cX0_init 85 = .ok (.bipush 36, 2) := by decide +kernel
theorem dX0_init_87 : decode cX0_init 87 = .ok (.anewarray 10, 3) := by decide +kernel
theorem dX0_init_90 : decode cX0_init 90 = .ok (.putfield 61, 3) := by decide +kernel
theorem dX0_init_93 : decode cX0_init 93 = .ok (.aload_n 0, 1) := by decide +kernel
theorem dX0_init_94 : decode cX0_init 94 = .ok (.bipush 36, 2) := by decide +kernel
theorem dX0_init_96 : decode cX0_init 96 = .ok (.newarray .int, 2) := by decide +kernel
theorem dX0_init_98 : decode cX0_init 98 = .ok (.putfield 65, 3) := by decide +kernel
theorem dX0_init_101 : decode cX0_init 101 = .ok (.return_, 1) := by decide +kernel
theorem dX0_shape_0 : decode cX0_shape 0 = .ok (.aload_n 0, 1) := by decide +kernel
theorem dX0_shape_1 : decode cX0_shape 1 = .ok (.aload_n 1, 1) := by decide +kernel
theorem dX0_shape_2 : decode cX0_shape 2 = .ok (.getfield 69, 3) := by decide +kernel
theorem dX0_shape_5 : decode cX0_shape 5 = .ok (.putfield 9, 3) := by decide +kernel
theorem dX0_shape_8 : decode cX0_shape 8 = .ok (.aload_n 0, 1) := by decide +kernel
theorem dX0_shape_9 : decode cX0_shape 9 = .ok (.aload_n 1, 1) := by decide +kernel
theorem dX0_shape_10 : decode cX0_shape 10 = .ok (.getfield 74, 3) := by decide +kernel
theorem dX0_shape_13 : decode cX0_shape 13 = .ok (.putfield 15, 3) := by decide +kernel
theorem dX0_shape_16 : decode cX0_shape 16 = .ok (.aload_n 0, 1) := by decide +kernel
theorem dX0_shape_17 : decode cX0_shape 17 = .ok (.aload_n 1, 1) := by decide +kernel
theorem dX0_shape_18 : decode cX0_shape 18 = .ok (.getfield 75, 3) := by decide +kernel
theorem dX0_shape_21 : decode cX0_shape 21 = .ok (.putfield 18, 3) := by decide +kernel
theorem dX0_shape_24 : decode cX0_shape 24 = .ok (.aload_n 0, 1) := by decide +kernel
theorem dX0_shape_25 : decode cX0_shape 25 = .ok (.iload_n 2, 1) := by decide +kernel
theorem dX0_shape_26 : decode cX0_shape 26 = .ok (.putfield 21, 3) := by decide +kernel
theorem dX0_shape_29 : decode cX0_shape 29 = .ok (.aload_n 0, 1) := by decide +kernel
theorem dX0_shape_30 : decode cX0_shape 30 = .ok (.iload_n 2, 1) := by decide +kernel
theorem dX0_shape_31 : decode cX0_shape 31 = .ok (.ifCond .eq 10, 3) := by decide +kernel
theorem dX0_shape_34 : decode cX0_shape 34 = .ok (.aload_n 1, 1) := by decide +kernel
theorem dX0_shape_35 : decode cX0_shape 35 = .ok (.getfield 76, 3) := by decide +kernel
theorem dX0_shape_38 : decode cX0_shape 38 = .ok (.goto 7, 3) := by decide +kernel
theorem dX0_shape_41 : decode cX0_shape 41 = .ok (.aload_n 1, 1) := by decide +kernel
theorem dX0_shape_42 : decode cX0_shape 42 = .ok (.getfield 77, 3) := by decide +kernel
theorem dX0_shape_45 : decode cX0_shape 45 = .ok (.putfield 25, 3) := by decide +kernel
theorem dX0_shape_48 : decode cX0_shape 48 = .ok (.aload_n 0, 1) := by decide +kernel
theorem dX0_shape_49 : decode cX0_shape 49 = .ok (.iload_n 2, 1) := by decide +kernel
theorem dX0_shape_50 : decode cX0_shape 50 = .ok (.ifCond .eq 10, 3) := by decide +kernel
theorem dX0_shape_53 : decode cX0_shape 53 = .ok (.aload_n 1, 1) := by decide +kernel
theorem dX0_shape_54 : decode cX0_shape 54 = .ok (.getfield 77, 3) := by decide +kernel
theorem dX0_shape_57 : decode cX0_shape 57 = .ok (.goto 7, 3) := by decide +kernel
theorem dX0_shape_60 : decode cX0_shape 60 = .ok (.aload_n 1, 1) := by decide +kernel
theorem dX0_shape_61 : decode cX0_shape 61 = .ok (.getfield 76, 3) := by decide +kernel
theorem dX0_shape_64 : decode cX0_shape 64 = .ok (.putfield 28, 3) := by decide +kernel
theorem dX0_shape_67 : decode cX0_shape 67 = .ok (.return_, 1) := by decide +kernel
theorem dX1_init_0 : decode cX1_init 0 = .ok (.aload_n 0, 1) := by decide +kernel
theorem dX1_init_1 : decode cX1_init 1 = .ok (.invokespecial 1, 3) := by decide +kernel
theorem dX1_init_4 : decode cX1_init 4 = .ok (.aload_n 0, 1) := by decide +kernel
theorem dX1_init_5 : decode cX1_init 5 = .ok (.iload_n 1, 1) := by decide +kernel
theorem dX1_init_6 : decode cX1_init 6 = .ok (.putfield 7, 3) := by decide +kernel
theorem dX1_init_9 : decode cX1_init 9 = .ok (.aload_n 0, 1) := by decide +kernel
theorem dX1_init_10 : decode cX1_init 10 = .ok (.iload_n 2, 1) := by decide +kernel
theorem dX1_init_11 : decode cX1_init 11 = .ok (.putfield 13, 3) := by decide +kernel
theorem dX1_init_14 : decode cX1_init 14 = .ok (.aload_n 0, 1) := by decide +kernel
theorem dX1_init_15 : decode cX1_init 15 = .ok (.iload_n 3, 1) := by decide +kernel
theorem dX1_init_16 : decode cX1_init 16 = .ok (.putfield 16, 3) := by decide +kernel
theorem dX1_init_19 : decode cX1_init 19 = .ok (.aload_n 0, 1) := by decide +kernel
theorem dX1_init_20 : decode cX1_init 20 = .ok (.iload 4, 2) := by decide +kernel
theorem dX1_init_22 : decode cX1_init 22 = .ok (.putfield 19, 3) := by decide +kernel
theorem dX1_init_25 : decode cX1_init 25 = .ok (.aload_n 0, 1) := by decide +kernel
theorem dX1_init_26 : decode cX1_init 26 = .ok (.iload 5, 2) := by decide +kernel
theorem dX1_init_28 : decode cX1_init 28 = .ok (.putfield 22, 3) := by decide +kernel
theorem dX1_init_31 : decode cX1_init 31 = .ok (.aload_n 0, 1) := by decide +kernel
theorem dX1_init_32 : decode cX1_init 32 = .ok (.iload 6, 2) := by decide +kernel
theorem dX1_init_34 : decode cX1_init 34 = .ok (.putfield 25, 3) := by decide +kernel
theorem dX1_init_37 : decode cX1_init 37 = .ok (.aload_n 0, 1) := by decide +kernel
theorem dX1_init_38 : decode cX1_init 38 = .ok (.iload 7, 2) := by decide +kernel
theorem dX1_init_40 : decode cX1_init 40 = .ok (.iconst 1, 1) := by decide +kernel
theorem dX1_init_41 : decode cX1_init 41 = .ok (.if_icmp .eq 9, 3) := by decide +kernel
theorem dX1_init_44 : decode cX1_init 44 = .ok (.iload 7, 2) := by decide +kernel
theorem dX1_init_46 : decode cX1_init 46 = .ok (.iconst 3, 1) := by decide +kernel
theorem dX1_init_47 : decode cX1_init 47 = .ok (.if_icmp .ne 7, 3) := by decide +kernel
theorem dX1_init_50 : decode cX1_init 50 = .ok (.iconst 1, 1) := by decide +kernel
theorem dX1_init_51 : decode cX1_init 51 = .ok (.goto 4, 3) := by decide +kernel
theorem dX1_init_54 : decode cX1_init 54 = .ok (.iconst 0, 1) := by decide +kernel
theorem dX1_init_55 : decode cX1_init 55 = .ok (.putfield 28, 3) := by decide +kernel
theorem dX1_init_58 : decode cX1_init 58 = .ok (.aload_n 0, 1) := by decide +kernel
theorem dX1_init_59 : decode cX1_init 59 = .ok (.iload 7, 2) := by decide +kernel
theorem dX1_init_61 : decode cX1_init 61 = .ok (.iconst 2, 1) := by decide +kernel
theorem dX1_init_62 : decode cX1_init 62 = .ok (.if_icmp .eq 9, 3) := by decide +kernel
theorem dX1_init_65 : decode cX1_init 65 = .ok (.iload 7, 2) := by decide +kernel
theorem dX1_init_67 : decode cX1_init 67 = .ok (.iconst 3, 1) := by decide +kernel
theorem dX1_init_68 : decode cX1_init 68 = .ok (.if_icmp .ne 7, 3) := by decide +kernel
theorem dX1_init_71 : decode cX1_init 71 = .ok (.iconst 1, 1) := by decide +kernel
theorem dX1_init_72 : decode cX1_init 72 = .ok (.goto 4, 3) := by decide +kernel
theorem dX1_init_75 : decode cX1_init 75 = .ok (.iconst 0, 1) := by decide +kernel
theorem dX1_init_76 : decode cX1_init 76 = .ok (.putfield 32, 3) := by decide +kernel
theorem dX1_init_79 : decode cX1_init 79 = .ok (.return_, 1) := by decide +kernel
theorem dX1_comesBefore_0 : decode cX1_comesBefore 0 = .ok (.aload_n 0, 1) := by decide +kernel
theorem dX1_comesBefore_1 : decode cX1_comesBefore 1 = .ok (.getfield 32, 3) := by decide +kernel
theorem dX1_comesBefore_4 : decode cX1_comesBefore 4 = .ok (.aload_n 1, 1) := by decide +kernel
theorem dX1_comesBefore_5 : decode cX1_comesBefore 5 = .ok (.getfield 32, 3) := by decide +kernel
theorem dX1_comesBefore_8 : decode cX1_comesBefore 8 = .ok (.if_icmp .eq 8, 3) := by decide +kernel
theorem dX1_comesBefore_11 : decode cX1_comesBefore 11 = .ok (.aload_n 0, 1) := by decide +kernel
theorem dX1_comesBefore_12 : decode cX1_comesBefore 12 = .ok (.getfield 32, 3) := by decide +kernel
theorem dX1_comesBefore_15 : decode cX1_comesBefore 15 = .ok (.ireturn, 1) := by decide +kernel
theorem dX1_comesBefore_16 : decode cX1_comesBefore 16 = .ok (.aload_n 0, 1) := by decide +kernel
theorem dX1_comesBefore_17 : decode cX1_comesBefore 17 = .ok (.getfield 25, 3) := by decide +kernel
theorem dX1_comesBefore_20 : decode cX1_comesBefore 20 = .ok (.aload_n 1, 1) := by decide +kernel
theorem dX1_comesBefore_21 : decode cX1_comesBefore 21 = .ok (.getfield 25, 3) := by decide +kernel
theorem dX1_comesBefore_24 : decode cX1_comesBefore 24 = .ok (.if_icmp .eq 20, 3) := by decide +kernel
theorem dX1_comesBefore_27 : decode cX1_comesBefore 27 = .ok (.aload_n 0, 1) := by decide +kernel
theorem dX1_comesBefore_28 : decode cX1_comesBefore 28 = .ok (.getfield 25, 3) := by decide +kernel
theorem dX1_comesBefore_31 : decode cX1_comesBefore 31 = .ok (.aload_n 1, 1) := by decide +kernel
theorem dX1_comesBefore_32 : decode cX1_comesBefore 32 = .ok (.getfield 25, 3) := by decide +kernel
theorem dX1_comesBefore_35 : decode cX1_comesBefore 35 = .ok (.if_icmp .le 7, 3) := by decide +kernel
theorem dX1_comesBefore_38 : decode cX1_comesBefore 38 = .ok (.iconst 1, 1) := by decide +kernel
theorem dX1_comesBefore_39 : decode cX1_comesBefore 39 = .ok (.goto 4, 3) := by decide +kernel
theorem dX1_comesBefore_42 : decode cX1_comesBefore 42 = .ok (.iconst 0, 1) := by decide +kernel
theorem dX1_comesBefore_43 : decode cX1_comesBefore 43 = .ok (.ireturn, 1) := by decide +kernel
theorem dX1_comesBefore_44 : decode cX1_comesBefore 44 = .ok (.aload_n 0, 1) := by decide +kernel
theorem dX1_comesBefore_45 : decode cX1_comesBefore 45 = .ok (.getfield 22, 3) := by decide +kernel
theorem dX1_comesBefore_48 : decode cX1_comesBefore 48 = .ok (.aload_n 1, 1) := by decide +kernel
theorem dX1_comesBefore_49 : decode cX1_comesBefore 49 = .ok (.getfield 22, 3) := by decide +kernel
theorem dX1_comesBefore_52 : decode cX1_comesBefore 52 = .ok (.if_icmp .le 7, 3) := by decide +kernel
theorem dX1_comesBefore_55 : decode cX1_comesBefore 55 = .ok (.iconst 1, 1) := by decide +kernel
theorem dX1_comesBefore_56 : decode cX1_comesBefore 56 = .ok (.goto 4, 3) := by decide +kernel
theorem dX1_comesBefore_59 : decode cX1_comesBefore 59 = .ok (.iconst 0, 1) := by decide +kernel
theorem dX1_comesBefore_60 : decode cX1_comesBefore 60 = .ok (.ireturn, 1) := by decide +kernel
theorem dX2_init_0 : decode cX2_init 0 = .ok (.aload_n 0, 1) := by decide +kernel
theorem dX2_init_1 : decode cX2_init 1 = .ok (.invokespecial 1, 3) := by decide +kernel
theorem dX2_init_4 : decode cX2_init 4 = .ok (.aload_n 0, 1) := by decide +kernel
theorem dX2_init_5 : decode cX2_init 5 = .ok (.iconst 0, 1) := by decide +kernel
theorem dX2_init_6 : decode cX2_init 6 = .ok (.putfield 7, 3) := by decide +kernel
theorem dX2_init_9 : decode cX2_init 9 = .ok (.aload_n 0, 1) := by decide +kernel
theorem dX2_init_10 : decode cX2_init 10 = .ok (.aload_n 1, 1) := by decide +kernel
theorem dX2_init_11 : decode cX2_init 11 = .ok (.putfield 13, 3) := by decide +kernel
theorem dX2_init_14 : decode cX2_init 14 = .ok (.aload_n 0, 1) := by decide +kernel
theorem dX2_init_15 : decode cX2_init 15 = .ok (.iload_n 2, 1) := by decide +kernel
theorem dX2_init_16 : decode cX2_init 16 = .ok (.putfield 17, 3) := by decide +kernel
theorem dX2_init_19 : decode cX2_init 19 = .ok (.return_, 1) := by decide +kernel
set_option maxRecDepth 20000 in
theorem ggX3_init_X0_init : GoodIn wsX3_init wsX0_init := goodIn_r _ [25, 26, 2, 3, 27, 28, 29, 30, 31, 32, 33, 34, 35, 36, 37, 38, 39, 40, 41, 42, 43, 44, 16, 45, 60, 61, 62, 63, 64, 65, 66, 67, 68, 69, 70, 71, 72, 73, 74, 75, 76, 77] (by decide +kernel) (by decide +kernel)
set_option maxRecDepth 20000 in
theorem gX3_init_X0_init_n51 : GoodIn wsX3_init (wsX0_init) := ggX3_init_X0_init
theorem dX3_init_0 : decode cX3_init 0 = .ok (.aload_n 0, 1) := by decide +kernel
theorem dX3_init_1 : decode cX3_init 1 = .ok (.invokespecial 3, 3) := by decide +kernel
theorem dX3_init_4 : decode cX3_init 4 = .ok (.aload_n 0, 1) := by decide +kernel
theorem dX3_init_5 : decode cX3_init 5 = .ok (.bipush 10, 2) := by decide +kernel
theorem dX3_init_7 : decode cX3_init 7 = .ok (.anewarray 9, 3) := by decide +kernel
theorem dX3_init_10 : decode cX3_init 10 = .ok (.putfield 11, 3) := by decide +kernel
theorem dX3_init_13 : decode cX3_init 13 = .ok (.aload_n 0, 1) := by decide +kernel
theorem dX3_init_14 : decode cX3_init 14 = .ok (.iconst 0, 1) := by decide +kernel
theorem dX3_init_15 : decode cX3_init 15 = .ok (.putfield 15, 3) := by decide +kernel
theorem dX3_init_18 : decode cX3_init 18 = .ok (.aload_n 0, 1) := by decide +kernel
theorem dX3_init_19 : decode cX3_init 19 = .ok (.bipush 20, 2) := by decide +kernel
theorem dX3_init_21 : decode cX3_init 21 = .ok (.putfield 19, 3) := by decide +kernel
theorem dX3_init_24 : decode cX3_init 24 = .ok (.aload_n 0, 1) := by decide +kernel
theorem dX3_init_25 : decode cX3_init 25 = .ok (.bipush 60, 2) := by decide +kernel
theorem dX3_init_27 : decode cX3_init 27 = .ok (.putfield 22, 3) := by decide +kernel
theorem dX3_init_30 : decode cX3_init 30 = .ok (.aload_n 0, 1) := by decide +kernel
theorem dX3_init_31 : decode cX3_init 31 = .ok (.sipush 2000, 3) := by decide +kernel
theorem dX3_init_34 : decode cX3_init 34 = .ok (.putfield 25, 3) := by decide +kernel
theorem dX3_init_37 : decode cX3_init 37 = .ok (.aload_n 0, 1) := by decide +kernel
theorem dX3_init_38 : decode cX3_init 38 = .ok (.iconst 0, 1) := by decide +kernel
theorem dX3_init_39 : decode cX3_init 39 = .ok (.putfield 28, 3) := by decide +kernel
theorem dX3_init_42 : decode cX3_init 42 = .ok (.aload_n 0, 1) := by decide +kernel
theorem dX3_init_43 : decode cX3_init 43 = .ok (.bipush 60, 2) := by decide +kernel
theorem dX3_init_45 : decode cX3_init 45 = .ok (.anewarray 32, 3) := by decide +kernel
theorem dX3_init_48 : decode cX3_init 48 = .ok (.putfield 34, 3) := by decide +kernel
theorem dX3_init_51 : decode cX3_init 51 = .ok (.aload_n 0, 1) := by decide +kernel
theorem dX3_init_52 : decode cX3_init 52 = .ok (.iconst 0, 1) := by decide +kernel
theorem dX3_init_53 : decode cX3_init 53 = .ok (.putfield 38, 3) := by decide +kernel
theorem dX3_init_56 : decode cX3_init 56 = .ok (.aload_n 0, 1) := by decide +kernel
theorem dX3_init_57 : decode cX3_init 57 = .ok (.iconst 0, 1) := by decide +kernel
theorem dX3_init_58 : decode cX3_init 58 = .ok (.putfield 41, 3) := by decide +kernel
theorem dX3_init_61 : decode cX3_init 61 = .ok (.aload_n 0, 1) := by decide +kernel
theorem dX3_init_62 : decode cX3_init 62 = .ok (.iconst 0, 1) := by decide +kernel
theorem dX3_init_63 : decode cX3_init 63 = .ok (.putfield 44, 3) := by decide +kernel
theorem dX3_init_66 : decode cX3_init 66 = .ok (.aload_n 0, 1) := by decide +kernel
theorem dX3_init_67 : decode cX3_init 67 = .ok (.bipush 120, 2) := by decide +kernel
theorem dX3_init_69 : decode cX3_init 69 = .ok (.newarray .int, 2) := by decide +kernel
theorem dX3_init_71 : decode cX3_init 71 = .ok (.putfield 47, 3) := by decide +kernel
theorem dX3_init_74 : decode cX3_init 74 = .ok (.aload_n 0, 1) := by decide +kernel
theorem dX3_init_75 : decode cX3_init 75 = .ok (.new 32, 3) := by decide +kernel
theorem dX3_init_78 : decode cX3_init 78 = .ok (.dup, 1) := by decide +kernel
theorem dX3_init_79 : decode cX3_init 79 = .ok (.invokespecial 51, 3) := by decide +kernel
theorem dX3_init_82 : decode cX3_init 82 = .ok (.putfield 52, 3) := by decide +kernel
theorem dX3_init_85 : decode cX3_init 85 = .ok (.aload_n 0, 1) := by decide +kernel
theorem dX3_init_86 : decode cX3_init 86 = .ok (.bipush 20, 2) := by decide +kernel
theorem dX3_init_88 : decode cX3_init 88 = .ok (.anewarray 56, 3) := by decide +kernel
theorem dX3_init_91 : decode cX3_init 91 = .ok (.putfield 58, 3) := by decide +kernel
theorem dX3_init_94 : decode cX3_init 94 = .ok (.aload_n 0, 1) := by decide +kernel
theorem dX3_init_95 : decode cX3_init 95 = .ok (.iconst 0, 1) := by decide +kernel
theorem dX3_init_96 : decode cX3_init 96 = .ok (.putfield 62, 3) := by decide +kernel
theorem dX3_init_99 : decode cX3_init 99 = .ok (.iconst 0, 1) := by decide +kernel
theorem dX3_init_100 : decode cX3_init 100 = .ok (.istore_n 1, 1) := by decide +kernel
theorem dX3_init_101 : decode cX3_init 101 = .ok (.iload_n 1, 1) := by decide +kernel
theorem dX3_init_102 : decode cX3_init 102 = .ok (.bipush 60, 2) := by decide +kernel
theorem dX3_init_104 : decode cX3_init 104 = .ok (.if_icmp .ge 22, 3) := by decide +kernel
theorem dX3_init_107 : decode cX3_init 107 = .ok (.aload_n 0, 1) := by decide +kernel
theorem dX3_init_108 : decode cX3_init 108 = .ok (.getfield 34, 3) := by decide +kernel
theorem dX3_init_111 : decode cX3_init 111 = .ok (.iload_n 1, 1) := by decide +kernel
theorem dX3_init_112 : decode cX3_init 112 = .ok (.new 32, 3) := by decide +kernel
theorem dX3_init_115 : decode cX3_init 115 = .ok (.dup, 1) := by decide +kernel
theorem dX3_init_116 : decode cX3_init 116 = .ok (.invokespecial 51, 3) := by decide +kernel
theorem dX3_init_119 : decode cX3_init 119 = .ok (.aastore, 1) := by decide +kernel
theorem dX3_init_120 : decode cX3_init 120 = .ok (.iinc 1 1, 3) := by decide +kernel
theorem dX3_init_123 : decode cX3_init 123 = .ok (.goto (-22), 3) := by decide +kernel
theorem dX3_init_126 : decode cX3_init 126 = .ok (.return_, 1) := by decide +kernel
set_option maxRecDepth 20000 in
theorem ggX3_addKind_X3_isWithin : GoodIn wsX3_addKind wsX3_isWithin := goodIn_r _ [13] (by decide +kernel) (by decide +kernel)
set_option maxRecDepth 20000 in
theorem gX3_addKind_X3_isWithin : GoodIn wsX3_addKind (va_wsS RX3 65 yX3_isWithin wsX3_isWithin) := goodIn_app (goodIn_of _ (by decide +kernel)) ggX3_addKind_X3_isWithin
set_option maxRecDepth 20000 in
theorem ggX3_addKind_X1_init : GoodIn wsX3_addKind wsX1_init := goodIn_r _ [16, 17, 18, 19, 20, 21, 22, 23, 24, 25, 26, 27, 42, 43, 44, 45, 46, 47, 48, 49] (by decide +kernel) (by decide +kernel)
set_option maxRecDepth 20000 in
theorem gX3_addKind_X1_init : GoodIn wsX3_addKind (wsX1_init) := ggX3_addKind_X1_init
theorem dX3_addKind_0 : decode cX3_addKind 0 = .ok (.iload_n 1, 1) := by decide +kernel
theorem dX3_addKind_1 : decode cX3_addKind 1 = .ok (.iconst 1, 1) := by decide +kernel
theorem dX3_addKind_2 : decode cX3_addKind 2 = .ok (.bipush 6, 2) := by decide +kernel
theorem dX3_addKind_4 : decode cX3_addKind 4 = .ok (.invokestatic 65, 3) := by decide +kernel
theorem dX3_addKind_7 : decode cX3_addKind 7 = .ok (.ifCond .eq 57, 3) := by decide +kernel
theorem dX3_addKind_10 : decode cX3_addKind 10 = .ok (.iload_n 2, 1) := by decide +kernel
theorem dX3_addKind_11 : decode cX3_addKind 11 = .ok (.iconst 1, 1) := by decide +kernel
theorem dX3_addKind_12 : decode cX3_addKind 12 = .ok (.bipush 6, 2) := by decide +kernel
theorem dX3_addKind_14 : decode cX3_addKind 14 = .ok (.invokestatic 65, 3) := by decide +kernel
theorem dX3_addKind_17 : decode cX3_addKind 17 = .ok (.ifCond .eq 47, 3) := by decide +kernel
theorem dX3_addKind_20 : decode cX3_addKind 20 = .ok (.iload_n 3, 1) := by decide +kernel
theorem dX3_addKind_21 : decode cX3_addKind 21 = .ok (.iconst 1, 1) := by decide +kernel
theorem dX3_addKind_22 : decode cX3_addKind 22 = .ok (.bipush 8, 2) := by decide +kernel
theorem dX3_addKind_24 : decode cX3_addKind 24 = .ok (.invokestatic 65, 3) := by decide +kernel
theorem dX3_addKind_27 : decode cX3_addKind 27 = .ok (.ifCond .eq 37, 3) := by decide +kernel
theorem dX3_addKind_30 : decode cX3_addKind 30 = .ok (.iload 4, 2) := by decide +kernel
theorem dX3_addKind_32 : decode cX3_addKind 32 = .ok (.iconst 1, 1) := by decide +kernel
theorem dX3_addKind_33 : decode cX3_addKind 33 = .ok (.sipush 500, 3) := by decide +kernel
theorem dX3_addKind_36 : decode cX3_addKind 36 = .ok (.invokestatic 65, 3) := by decide +kernel
theorem dX3_addKind_39 : decode cX3_addKind 39 = .ok (.ifCond .eq 25, 3) := by decide +kernel
theorem dX3_addKind_42 : decode cX3_addKind 42 = .ok (.iload 5, 2) := by decide +kernel
theorem dX3_addKind_44 : decode cX3_addKind 44 = .ok (.iconst 0, 1) := by decide +kernel
theorem dX3_addKind_45 : decode cX3_addKind 45 = .ok (.sipush 5000, 3) := by decide +kernel
theorem dX3_addKind_48 : decode cX3_addKind 48 = .ok (.invokestatic 65, 3) := by decide +kernel
theorem dX3_addKind_51 : decode cX3_addKind 51 = .ok (.ifCond .eq 13, 3) := by decide +kernel
theorem dX3_addKind_54 : decode cX3_addKind 54 = .ok (.iload 6, 2) := by decide +kernel
theorem dX3_addKind_56 : decode cX3_addKind 56 = .ok (.iconst 0, 1) := by decide +kernel
theorem dX3_addKind_57 : decode cX3_addKind 57 = .ok (.iconst 3, 1) := by decide +kernel
theorem dX3_addKind_58 : decode cX3_addKind 58 = .ok (.invokestatic 65, 3) := by decide +kernel
theorem dX3_addKind_61 : decode cX3_addKind 61 = .ok (.ifCond .ne 11, 3) := by decide +kernel
theorem dX3_addKind_64 : decode cX3_addKind 64 = .ok (.new 69, 3) := by decide +kernel
theorem dX3_addKind_67 : decode cX3_addKind 67 = .ok (.dup, 1) := by decide +kernel
theorem dX3_addKind_68 : decode cX3_addKind 68 = .ok (.invokespecial 71, 3) := by decide +kernel
theorem dX3_addKind_71 : decode cX3_addKind 71 = .ok (.athrow, 1) := by decide +kernel
theorem dX3_addKind_72 : decode cX3_addKind 72 = .ok (.aload_n 0, 1) := by decide +kernel
theorem dX3_addKind_73 : decode cX3_addKind 73 = .ok (.getfield 15, 3) := by decide +kernel
theorem dX3_addKind_76 : decode cX3_addKind 76 = .ok (.ifCond .lt 12, 3) := by decide +kernel
theorem dX3_addKind_79 : decode cX3_addKind 79 = .ok (.aload_n 0, 1) := by decide +kernel
theorem dX3_addKind_80 : decode cX3_addKind 80 = .ok (.getfield 15, 3) := by decide +kernel
theorem dX3_addKind_83 : decode cX3_addKind 83 = .ok (.bipush 10, 2) := by decide +kernel
theorem dX3_addKind_85 : decode cX3_addKind 85 = .ok (.if_icmp .lt 11, 3) := by decide +kernel
theorem dX3_addKind_88 : decode cX3_addKind 88 = .ok (.new 72, 3) := by decide +kernel
theorem dX3_addKind_91 : decode cX3_addKind 91 = .ok (.dup, 1) := by decide +kernel
theorem dX3_addKind_92 : decode cX3_addKind 92 = .ok (.invokespecial 74, 3) := by decide +kernel
theorem dX3_addKind_95 : decode cX3_addKind 95 = .ok (.athrow, 1) := by decide +kernel
theorem dX3_addKind_96 : decode cX3_addKind 96 = .ok (.aload_n 0, 1) := by decide +kernel
theorem dX3_addKind_97 : decode cX3_addKind 97 = .ok (.getfield 15, 3) := by decide +kernel
theorem dX3_addKind_100 : decode cX3_addKind 100 = .ok (.istore 7, 2) := by decide +kernel
theorem dX3_addKind_102 : decode cX3_addKind 102 = .ok (.aload_n 0, 1) := by decide +kernel
theorem dX3_addKind_103 : decode cX3_addKind 103 = .ok (.getfield 11, 3) := by decide +kernel
theorem dX3_addKind_106 : decode cX3_addKind 106 = .ok (.iload 7, 2) := by decide +kernel
theorem dX3_addKind_108 : decode cX3_addKind 108 = .ok (.new 9, 3) := by decide +kernel
theorem dX3_addKind_111 : decode cX3_addKind 111 = .ok (.dup, 1) := by decide +kernel
theorem dX3_addKind_112 : decode cX3_addKind 112 = .ok (.iload 7, 2) := by decide +kernel
theorem dX3_addKind_114 : decode cX3_addKind 114 = .ok (.iload_n 1, 1) := by decide +kernel
theorem dX3_addKind_115 : decode cX3_addKind 115 = .ok (.iload_n 2, 1) := by decide +kernel
theorem dX3_addKind_116 : decode cX3_addKind 116 = .ok (.iload_n 3, 1) := by decide +kernel
theorem dX3_addKind_117 : decode cX3_addKind 117 = .ok (.iload 4, 2) := by decide +kernel
theorem dX3_addKind_119 : decode cX3_addKind 119 = .ok (.iload 5, 2) := by decide +kernel
theorem dX3_addKind_121 : decode cX3_addKind 121 = .ok (.iload 6, 2) := by decide +kernel
theorem dX3_addKind_123 : decode cX3_addKind 123 = .ok (.invokespecial 75, 3) := by decide +kernel
theorem dX3_addKind_126 : decode cX3_addKind 126 = .ok (.aastore, 1) := by decide +kernel
theorem dX3_addKind_127 : decode cX3_addKind 127 = .ok (.aload_n 0, 1) := by decide +kernel
theorem dX3_addKind_128 : decode cX3_addKind 128 = .ok (.iload 7, 2) := by decide +kernel
theorem dX3_addKind_130 : decode cX3_addKind 130 = .ok (.iconst 1, 1) := by decide +kernel
theorem dX3_addKind_131 : decode cX3_addKind 131 = .ok (.iadd, 1) := by decide +kernel
theorem dX3_addKind_132 : decode cX3_addKind 132 = .ok (.putfield 15, 3) := by decide +kernel
theorem dX3_addKind_135 : decode cX3_addKind 135 = .ok (.iload 7, 2) := by decide +kernel
theorem dX3_addKind_137 : decode cX3_addKind 137 = .ok (.ireturn, 1) := by decide +kernel
set_option maxRecDepth 20000 in
theorem ggX3_setRules_X3_isWithin : GoodIn wsX3_setRules wsX3_isWithin := goodIn_r _ [10] (by decide +kernel) (by decide +kernel)
set_option maxRecDepth 20000 in
theorem gX3_setRules_X3_isWithin : GoodIn wsX3_setRules (va_wsS RX3 65 yX3_isWithin wsX3_isWithin) := goodIn_app (goodIn_of _ (by decide +kernel)) ggX3_setRules_X3_isWithin
theorem dX3_setRules_0 : decode cX3_setRules 0 = .ok (.iload_n 1, 1) := by decide +kernel
theorem dX3_setRules_1 : decode cX3_setRules 1 = .ok (.iconst 1, 1) := by decide +kernel
theorem dX3_setRules_2 : decode cX3_setRules 2 = .ok (.bipush 40, 2) := by decide +kernel
theorem dX3_setRules_4 : decode cX3_setRules 4 = .ok (.invokestatic 65, 3) := by decide +kernel
theorem dX3_setRules_7 : decode cX3_setRules 7 = .ok (.ifCond .eq 24, 3) := by decide +kernel
theorem dX3_setRules_10 : decode cX3_setRules 10 = .ok (.iload_n 2, 1) := by decide +kernel
theorem dX3_setRules_11 : decode cX3_setRules 11 = .ok (.iconst 0, 1) := by decide +kernel
theorem dX3_setRules_12 : decode cX3_setRules 12 = .ok (.bipush 100, 2) := by decide +kernel
theorem dX3_setRules_14 : decode cX3_setRules 14 = .ok (.invokestatic 65, 3) := by decide +kernel
theorem dX3_setRules_17 : decode cX3_setRules 17 = .ok (.ifCond .eq 14, 3) := by decide +kernel
theorem dX3_setRules_20 : decode cX3_setRules 20 = .ok (.iload_n 3, 1) := by decide +kernel
theorem dX3_setRules_21 : decode cX3_setRules 21 = .ok (.iconst 1, 1) := by decide +kernel
theorem dX3_setRules_22 : decode cX3_setRules 22 = .ok (.sipush 20000, 3) := by decide +kernel
theorem dX3_setRules_25 : decode cX3_setRules 25 = .ok (.invokestatic 65, 3) := by decide +kernel
theorem dX3_setRules_28 : decode cX3_setRules 28 = .ok (.ifCond .ne 11, 3) := by decide +kernel
theorem dX3_setRules_31 : decode cX3_setRules 31 = .ok (.new 69, 3) := by decide +kernel
theorem dX3_setRules_34 : decode cX3_setRules 34 = .ok (.dup, 1) := by decide +kernel
theorem dX3_setRules_35 : decode cX3_setRules 35 = .ok (.invokespecial 71, 3) := by decide +kernel
theorem dX3_setRules_38 : decode cX3_setRules 38 = .ok (.athrow, 1) := by decide +kernel
theorem dX3_setRules_39 : decode cX3_setRules 39 = .ok (.aload_n 0, 1) := by decide +kernel
theorem dX3_setRules_40 : decode cX3_setRules 40 = .ok (.getfield 19, 3) := by decide +kernel
theorem dX3_setRules_43 : decode cX3_setRules 43 = .ok (.istore 5, 2) := by decide +kernel
theorem dX3_setRules_45 : decode cX3_setRules 45 = .ok (.aload_n 0, 1) := by decide +kernel
theorem dX3_setRules_46 : decode cX3_setRules 46 = .ok (.iload_n 1, 1) := by decide +kernel
theorem dX3_setRules_47 : decode cX3_setRules 47 = .ok (.putfield 19, 3) := by decide +kernel
theorem dX3_setRules_50 : decode cX3_setRules 50 = .ok (.aload_n 0, 1) := by decide +kernel
theorem dX3_setRules_51 : decode cX3_setRules 51 = .ok (.iload_n 2, 1) := by decide +kernel
theorem dX3_setRules_52 : decode cX3_setRules 52 = .ok (.putfield 22, 3) := by decide +kernel
theorem dX3_setRules_55 : decode cX3_setRules 55 = .ok (.aload_n 0, 1) := by decide +kernel
theorem dX3_setRules_56 : decode cX3_setRules 56 = .ok (.iload_n 3, 1) := by decide +kernel
theorem dX3_setRules_57 : decode cX3_setRules 57 = .ok (.putfield 25, 3) := by decide +kernel
theorem dX3_setRules_60 : decode cX3_setRules 60 = .ok (.aload_n 0, 1) := by decide +kernel
theorem dX3_setRules_61 : decode cX3_setRules 61 = .ok (.iload 4, 2) := by decide +kernel
theorem dX3_setRules_63 : decode cX3_setRules 63 = .ok (.putfield 28, 3) := by decide +kernel
theorem dX3_setRules_66 : decode cX3_setRules 66 = .ok (.iload 5, 2) := by decide +kernel
theorem dX3_setRules_68 : decode cX3_setRules 68 = .ok (.ireturn, 1) := by decide +kernel
set_option maxRecDepth 20000 in
theorem ggX3_addLine_X3_kindOf : GoodIn wsX3_addLine wsX3_kindOf := goodIn_r _ [16, 17, 18, 19, 20, 15, 21, 31, 32, 33, 34, 35, 36, 37, 38, 39, 40, 41, 42, 43, 44] (by decide +kernel) (by decide +kernel)
set_option maxRecDepth 20000 in
theorem gX3_addLine_X3_kindOf : GoodIn wsX3_addLine (wsV RX3 85 RX3 yX3_kindOf wsX3_kindOf) := goodIn_app (goodIn_of _ (by decide +kernel)) ggX3_addLine_X3_kindOf
set_option maxRecDepth 20000 in
theorem ggX3_addLine_X3_isWithin : GoodIn wsX3_addLine wsX3_isWithin := goodIn_r _ [21] (by decide +kernel) (by decide +kernel)
set_option maxRecDepth 20000 in
theorem gX3_addLine_X3_isWithin : GoodIn wsX3_addLine (va_wsS RX3 65 yX3_isWithin wsX3_isWithin) := goodIn_app (goodIn_of _ (by decide +kernel)) ggX3_addLine_X3_isWithin
set_option maxRecDepth 20000 in
theorem ggX3_addLine_X2_init : GoodIn wsX3_addLine wsX2_init := goodIn_r _ [24, 25, 26, 27, 28, 29, 30, 45, 46, 47] (by decide +kernel) (by decide +kernel)
set_option maxRecDepth 20000 in
theorem gX3_addLine_X2_init : GoodIn wsX3_addLine (wsX2_init) := ggX3_addLine_X2_init
theorem dX3_addLine_0 : decode cX3_addLine 0 = .ok (.aload_n 0, 1) := by decide +kernel
theorem dX3_addLine_1 : decode cX3_addLine 1 = .ok (.iload_n 1, 1) := by decide +kernel
theorem dX3_addLine_2 : decode cX3_addLine 2 = .ok (.invokevirtual 85, 3) := by decide +kernel
theorem dX3_addLine_5 : decode cX3_addLine 5 = .ok (.astore_n 3, 1) := by decide +kernel
theorem dX3_addLine_6 : decode cX3_addLine 6 = .ok (.aload_n 3, 1) := by decide +kernel
theorem dX3_addLine_7 : decode cX3_addLine 7 = .ok (.ifnonnull 11, 3) := by decide +kernel
theorem dX3_addLine_10 : decode cX3_addLine 10 = .ok (.new 78, 3) := by decide +kernel
theorem dX3_addLine_13 : decode cX3_addLine 13 = .ok (.dup, 1) := by decide +kernel
theorem dX3_addLine_14 : decode cX3_addLine 14 = .ok (.invokespecial 80, 3) := by decide +kernel
theorem dX3_addLine_17 : decode cX3_addLine 17 = .ok (.athrow, 1) := by decide +kernel
theorem dX3_addLine_18 : decode cX3_addLine 18 = .ok (.iload_n 2, 1) := by decide +kernel
theorem dX3_addLine_19 : decode cX3_addLine 19 = .ok (.iconst 1, 1) := by decide +kernel
theorem dX3_addLine_20 : decode cX3_addLine 20 = .ok (.bipush 20, 2) := by decide +kernel
theorem dX3_addLine_22 : decode cX3_addLine 22 = .ok (.invokestatic 65, 3) := by decide +kernel
theorem dX3_addLine_25 : decode cX3_addLine 25 = .ok (.ifCond .ne 11, 3) := by decide +kernel
theorem dX3_addLine_28 : decode cX3_addLine 28 = .ok (.new 69, 3) := by decide +kernel
theorem dX3_addLine_31 : decode cX3_addLine 31 = .ok (.dup, 1) := by decide +kernel
theorem dX3_addLine_32 : decode cX3_addLine 32 = .ok (.invokespecial 71, 3) := by decide +kernel
theorem dX3_addLine_35 : decode cX3_addLine 35 = .ok (.athrow, 1) := by decide +kernel
theorem dX3_addLine_36 : decode cX3_addLine 36 = .ok (.aload_n 0, 1) := by decide +kernel
theorem dX3_addLine_37 : decode cX3_addLine 37 = .ok (.getfield 62, 3) := by decide +kernel
theorem dX3_addLine_40 : decode cX3_addLine 40 = .ok (.ifCond .lt 12, 3) := by decide +kernel
theorem dX3_addLine_43 : decode cX3_addLine 43 = .ok (.aload_n 0, 1) := by decide +kernel
theorem dX3_addLine_44 : decode cX3_addLine 44 = .ok (.getfield 62, 3) := by decide +kernel
theorem dX3_addLine_47 : decode cX3_addLine 47 = .ok (.bipush 20, 2) := by decide +kernel
theorem dX3_addLine_49 : decode cX3_addLine 49 = .ok (.if_icmp .lt 11, 3) := by decide +kernel
theorem dX3_addLine_52 : decode cX3_addLine 52 = .ok (.new 72, 3) := by decide +kernel
theorem dX3_addLine_55 : decode cX3_addLine 55 = .ok (.dup, 1) := by decide +kernel
theorem dX3_addLine_56 : decode cX3_addLine 56 = .ok (.invokespecial 74, 3) := by decide +kernel
theorem dX3_addLine_59 : decode cX3_addLine 59 = .ok (.athrow, 1) := by decide +kernel
theorem dX3_addLine_60 : decode cX3_addLine 60 = .ok (.aload_n 0, 1) := by decide +kernel
theorem dX3_addLine_61 : decode cX3_addLine 61 = .ok (.getfield 62, 3) := by decide +kernel
theorem dX3_addLine_64 : decode cX3_addLine 64 = .ok (.istore 4, 2) := by decide +kernel
theorem dX3_addLine_66 : decode cX3_addLine 66 = .ok (.aload_n 0, 1) := by decide +kernel
theorem dX3_addLine_67 : decode cX3_addLine 67 = .ok (.getfield 58, 3) := by decide +kernel
theorem dX3_addLine_70 : decode cX3_addLine 70 = .ok (.iload 4, 2) := by decide +kernel
theorem dX3_addLine_72 : decode cX3_addLine 72 = .ok (.new 56, 3) := by decide +kernel
theorem dX3_addLine_75 : decode cX3_addLine 75 = .ok (.dup, 1) := by decide +kernel
theorem dX3_addLine_76 : decode cX3_addLine 76 = .ok (.aload_n 3, 1) := by decide +kernel
theorem dX3_addLine_77 : decode cX3_addLine 77 = .ok (.iload_n 2, 1) := by decide +kernel
theorem dX3_addLine_78 : decode cX3_addLine 78 = .ok (.invokespecial 149, 3) := by decide +kernel
theorem dX3_addLine_81 : decode cX3_addLine 81 = .ok (.aastore, 1) := by decide +kernel
theorem dX3_addLine_82 : decode cX3_addLine 82 = .ok (.aload_n 0, 1) := by decide +kernel
theorem dX3_addLine_83 : decode cX3_addLine 83 = .ok (.iload 4, 2) := by decide +kernel
theorem dX3_addLine_85 : decode cX3_addLine 85 = .ok (.iconst 1, 1) := by decide +kernel
theorem dX3_addLine_86 : decode cX3_addLine 86 = .ok (.iadd, 1) := by decide +kernel
theorem dX3_addLine_87 : decode cX3_addLine 87 = .ok (.putfield 62, 3) := by decide +kernel
theorem dX3_addLine_90 : decode cX3_addLine 90 = .ok (.iload 4, 2) := by decide +kernel
theorem dX3_addLine_92 : decode cX3_addLine 92 = .ok (.ireturn, 1) := by decide +kernel
set_option maxRecDepth 20000 in
theorem ggX3_stack_X3_lineOf : GoodIn wsX3_stack wsX3_lineOf := goodIn_r _ [9, 1, 10, 11, 12, 8, 13, 171, 172, 173, 174, 175, 176, 177, 178, 179, 180, 181, 182, 183, 184] (by decide +kernel) (by decide +kernel)
set_option maxRecDepth 20000 in
theorem gX3_stack_X3_lineOf : GoodIn wsX3_stack (wsV RX3 152 RX3 yX3_lineOf wsX3_lineOf) := goodIn_app (goodIn_of _ (by decide +kernel)) ggX3_stack_X3_lineOf
set_option maxRecDepth 20000 in
theorem ggX3_stack_X3_nextLine : GoodIn wsX3_stack wsX3_nextLine := goodIn_r _ [17, 1, 4, 2, 3, 5, 6, 7, 8, 9, 10, 11, 12, 13, 18, 19, 20, 21, 22, 23, 24, 25, 171, 172, 173, 174, 175, 176, 177, 178, 179, 180, 181, 182, 183, 184, 185, 186, 187, 188, 189, 190, 191, 192, 193, 194, 195] (by decide +kernel) (by decide +kernel)
set_option maxRecDepth 20000 in
theorem gX3_stack_X3_nextLine : GoodIn wsX3_stack (wsV RX3 159 RX3 yX3_nextLine wsX3_nextLine) := goodIn_app (goodIn_of _ (by decide +kernel)) ggX3_stack_X3_nextLine
set_option maxRecDepth 20000 in
theorem ggX3_stack_X3_putAtBest : GoodIn wsX3_stack wsX3_putAtBest := goodIn_r _ [29, 30, 31, 32, 33, 8, 34, 35, 36, 37, 38, 39, 40, 41, 42, 43, 44, 45, 46, 47, 48, 49, 50, 51, 52, 11, 12, 13, 53, 54, 55, 56, 57, 58, 59, 60, 61, 62, 63, 64, 65, 66, 67, 68, 69, 70, 71, 72, 73, 74, 75, 76, 77, 78, 79, 80, 81, 82, 83, 84, 85, 86, 87, 88, 89, 90, 91, 92, 93, 94, 95, 96, 97, 98, 99, 100, 101, 102, 103, 104, 105, 106, 107, 108, 109, 110, 111, 112, 113, 114, 115, 116, 117, 118, 119, 120, 121, 122, 123, 124, 125, 126, 127, 128, 129, 130, 131, 132, 133, 134, 135, 136, 137, 138, 139, 140, 141, 142, 143, 144, 145, 146, 147, 148, 149, 150, 151, 152, 153, 154, 155, 156, 157, 158, 159, 160, 161, 162, 163, 164, 165, 166, 167, 168, 169, 170, 171, 172, 173, 174, 175, 176, 177, 178, 179, 180, 181, 182, 183, 184, 196, 197, 198, 199, 200, 201, 202, 203, 204, 205, 206, 207, 208, 209, 210, 211, 212, 213, 188, 189, 190, 191, 192, 193, 194, 195] (by decide +kernel) (by decide +kernel)
set_option maxRecDepth 20000 in
theorem gX3_stack_X3_putAtBest : GoodIn wsX3_stack (wsV RX3 145 RX3 yX3_putAtBest wsX3_putAtBest) := goodIn_app (goodIn_of _ (by decide +kernel)) ggX3_stack_X3_putAtBest
theorem dX3_stack_0 : decode cX3_stack 0 = .ok (.iconst 0, 1) := by decide +kernel
theorem dX3_stack_1 : decode cX3_stack 1 = .ok (.istore_n 1, 1) := by decide +kernel
theorem dX3_stack_2 : decode cX3_stack 2 = .ok (.iload_n 1, 1) := by decide +kernel
theorem dX3_stack_3 : decode cX3_stack 3 = .ok (.aload_n 0, 1) := by decide +kernel
theorem dX3_stack_4 : decode cX3_stack 4 = .ok (.getfield 62, 3) := by decide +kernel
theorem dX3_stack_7 : decode cX3_stack 7 = .ok (.if_icmp .ge 24, 3) := by decide +kernel
theorem dX3_stack_10 : decode cX3_stack 10 = .ok (.aload_n 0, 1) := by decide +kernel
theorem dX3_stack_11 : decode cX3_stack 11 = .ok (.iload_n 1, 1) := by decide +kernel
theorem dX3_stack_12 : decode cX3_stack 12 = .ok (.invokevirtual 152, 3) := by decide +kernel
theorem dX3_stack_15 : decode cX3_stack 15 = .ok (.astore_n 2, 1) := by decide +kernel
theorem dX3_stack_16 : decode cX3_stack 16 = .ok (.aload_n 2, 1) := by decide +kernel
theorem dX3_stack_17 : decode cX3_stack 17 = .ok (.ifnull 8, 3) := by decide +kernel
theorem dX3_stack_20 : decode cX3_stack 20 = .ok (.aload_n 2, 1) := by decide +kernel
theorem dX3_stack_21 : decode cX3_stack 21 = .ok (.iconst 0, 1) := by decide +kernel
theorem dX3_stack_22 : decode cX3_stack 22 = .ok (.putfield 156, 3) := by decide +kernel
theorem dX3_stack_25 : decode cX3_stack 25 = .ok (.iinc 1 1, 3) := by decide +kernel
theorem dX3_stack_28 : decode cX3_stack 28 = .ok (.goto (-26), 3) := by decide +kernel
theorem dX3_stack_31 : decode cX3_stack 31 = .ok (.iconst 0, 1) := by decide +kernel
theorem dX3_stack_32 : decode cX3_stack 32 = .ok (.istore_n 1, 1) := by decide +kernel
theorem dX3_stack_33 : decode cX3_stack 33 = .ok (.iconst 0, 1) := by decide +kernel
theorem dX3_stack_34 : decode cX3_stack 34 = .ok (.istore_n 2, 1) := by decide +kernel
theorem dX3_stack_35 : decode cX3_stack 35 = .ok (.iload_n 2, 1) := by decide +kernel
theorem dX3_stack_36 : decode cX3_stack 36 = .ok (.bipush 80, 2) := by decide +kernel
theorem dX3_stack_38 : decode cX3_stack 38 = .ok (.if_icmp .ge 52, 3) := by decide +kernel
theorem dX3_stack_41 : decode cX3_stack 41 = .ok (.aload_n 0, 1) := by decide +kernel
theorem dX3_stack_42 : decode cX3_stack 42 = .ok (.invokevirtual 159, 3) := by decide +kernel
theorem dX3_stack_45 : decode cX3_stack 45 = .ok (.astore_n 3, 1) := by decide +kernel
theorem dX3_stack_46 : decode cX3_stack 46 = .ok (.aload_n 3, 1) := by decide +kernel
theorem dX3_stack_47 : decode cX3_stack 47 = .ok (.ifnonnull 5, 3) := by decide +kernel
theorem dX3_stack_50 : decode cX3_stack 50 = .ok (.iload_n 1, 1) := by decide +kernel
theorem dX3_stack_51 : decode cX3_stack 51 = .ok (.ireturn, 1) := by decide +kernel
theorem dX3_stack_52 : decode cX3_stack 52 = .ok (.aload_n 0, 1) := by decide +kernel
theorem dX3_stack_53 : decode cX3_stack 53 = .ok (.aload_n 3, 1) := by decide +kernel
theorem dX3_stack_54 : decode cX3_stack 54 = .ok (.getfield 163, 3) := by decide +kernel
theorem dX3_stack_57 : decode cX3_stack 57 = .ok (.invokevirtual 145, 3) := by decide +kernel
theorem dX3_stack_60 : decode cX3_stack 60 = .ok (.ifCond .eq 19, 3) := by decide +kernel
theorem dX3_stack_63 : decode cX3_stack 63 = .ok (.aload_n 3, 1) := by decide +kernel
theorem dX3_stack_64 : decode cX3_stack 64 = .ok (.dup, 1) := by decide +kernel
theorem dX3_stack_65 : decode cX3_stack 65 = .ok (.getfield 167, 3) := by decide +kernel
theorem dX3_stack_68 : decode cX3_stack 68 = .ok (.iconst 1, 1) := by decide +kernel
theorem dX3_stack_69 : decode cX3_stack 69 = .ok (.isub, 1) := by decide +kernel
theorem dX3_stack_70 : decode cX3_stack 70 = .ok (.putfield 167, 3) := by decide +kernel
theorem dX3_stack_73 : decode cX3_stack 73 = .ok (.iinc 1 1, 3) := by decide +kernel
theorem dX3_stack_76 : decode cX3_stack 76 = .ok (.goto 8, 3) := by decide +kernel
theorem dX3_stack_79 : decode cX3_stack 79 = .ok (.aload_n 3, 1) := by decide +kernel
theorem dX3_stack_80 : decode cX3_stack 80 = .ok (.iconst 1, 1) := by decide +kernel
theorem dX3_stack_81 : decode cX3_stack 81 = .ok (.putfield 156, 3) := by decide +kernel
theorem dX3_stack_84 : decode cX3_stack 84 = .ok (.iinc 2 1, 3) := by decide +kernel
theorem dX3_stack_87 : decode cX3_stack 87 = .ok (.goto (-52), 3) := by decide +kernel
theorem dX3_stack_90 : decode cX3_stack 90 = .ok (.iload_n 1, 1) := by decide +kernel
theorem dX3_stack_91 : decode cX3_stack 91 = .ok (.ireturn, 1) := by decide +kernel
theorem dX3_isWithin_0 : decode cX3_isWithin 0 = .ok (.iload_n 0, 1) := by decide +kernel
theorem dX3_isWithin_1 : decode cX3_isWithin 1 = .ok (.iload_n 1, 1) := by decide +kernel
theorem dX3_isWithin_2 : decode cX3_isWithin 2 = .ok (.if_icmp .lt 12, 3) := by decide +kernel
theorem dX3_isWithin_5 : decode cX3_isWithin 5 = .ok (.iload_n 0, 1) := by decide +kernel
theorem dX3_isWithin_6 : decode cX3_isWithin 6 = .ok (.iload_n 2, 1) := by decide +kernel
theorem dX3_isWithin_7 : decode cX3_isWithin 7 = .ok (.if_icmp .gt 7, 3) := by decide +kernel
theorem dX3_isWithin_10 : decode cX3_isWithin 10 = .ok (.iconst 1, 1) := by decide +kernel
theorem dX3_isWithin_11 : decode cX3_isWithin 11 = .ok (.goto 4, 3) := by decide +kernel
theorem dX3_isWithin_14 : decode cX3_isWithin 14 = .ok (.iconst 0, 1) := by decide +kernel
theorem dX3_isWithin_15 : decode cX3_isWithin 15 = .ok (.ireturn, 1) := by decide +kernel
set_option maxRecDepth 20000 in
theorem ggX3_kindOf_X3_isWithin : GoodIn wsX3_kindOf wsX3_isWithin := goodIn_r _ [6] (by decide +kernel) (by decide +kernel)
set_option maxRecDepth 20000 in
theorem gX3_kindOf_X3_isWithin : GoodIn wsX3_kindOf (va_wsS RX3 65 yX3_isWithin wsX3_isWithin) := goodIn_app (goodIn_of _ (by decide +kernel)) ggX3_kindOf_X3_isWithin
theorem dX3_kindOf_0 : decode cX3_kindOf 0 = .ok (.iload_n 1, 1) := by decide +kernel
theorem dX3_kindOf_1 : decode cX3_kindOf 1 = .ok (.iconst 0, 1) := by decide +kernel
theorem dX3_kindOf_2 : decode cX3_kindOf 2 = .ok (.bipush 9, 2) := by decide +kernel
theorem dX3_kindOf_4 : decode cX3_kindOf 4 = .ok (.invokestatic 65, 3) := by decide +kernel
theorem dX3_kindOf_7 : decode cX3_kindOf 7 = .ok (.ifCond .eq 20, 3) := by decide +kernel
theorem dX3_kindOf_10 : decode cX3_kindOf 10 = .ok (.iload_n 1, 1) := by decide +kernel
theorem dX3_kindOf_11 : decode cX3_kindOf 11 = .ok (.aload_n 0, 1) := by decide +kernel
theorem dX3_kindOf_12 : decode cX3_kindOf 12 = .ok (.getfield 15, 3) := by decide +kernel
theorem dX3_kindOf_15 : decode cX3_kindOf 15 = .ok (.if_icmp .ge 12, 3) := by decide +kernel
theorem dX3_kindOf_18 : decode cX3_kindOf 18 = .ok (.aload_n 0, 1) := by decide +kernel
theorem dX3_kindOf_19 : decode cX3_kindOf 19 = .ok (.getfield 11, 3) := by decide +kernel
theorem dX3_kindOf_22 : decode cX3_kindOf 22 = .ok (.iload_n 1, 1) := by decide +kernel
theorem dX3_kindOf_23 : decode cX3_kindOf 23 = .ok (.aaload, 1) := by decide +kernel
theorem dX3_kindOf_24 : decode cX3_kindOf 24 = .ok (.goto 4, 3) := by decide +kernel
theorem dX3_kindOf_27 : decode cX3_kindOf 27 = .ok (.aconst_null, 1) := by decide +kernel
theorem dX3_kindOf_28 : decode cX3_kindOf 28 = .ok (.areturn, 1) := by decide +kernel
set_option maxRecDepth 20000 in
theorem ggX3_lineOf_X3_isWithin : GoodIn wsX3_lineOf wsX3_isWithin := goodIn_r _ [6] (by decide +kernel) (by decide +kernel)
set_option maxRecDepth 20000 in
theorem gX3_lineOf_X3_isWithin : GoodIn wsX3_lineOf (va_wsS RX3 65 yX3_isWithin wsX3_isWithin) := goodIn_app (goodIn_of _ (by decide +kernel)) ggX3_lineOf_X3_isWithin
theorem dX3_lineOf_0 : decode cX3_lineOf 0 = .ok (.iload_n 1, 1) := by decide +kernel
theorem dX3_lineOf_1 : decode cX3_lineOf 1 = .ok (.iconst 0, 1) := by decide +kernel
theorem dX3_lineOf_2 : decode cX3_lineOf 2 = .ok (.bipush 19, 2) := by decide +kernel
theorem dX3_lineOf_4 : decode cX3_lineOf 4 = .ok (.invokestatic 65, 3) := by decide +kernel
theorem dX3_lineOf_7 : decode cX3_lineOf 7 = .ok (.ifCond .eq 20, 3) := by decide +kernel
theorem dX3_lineOf_10 : decode cX3_lineOf 10 = .ok (.iload_n 1, 1) := by decide +kernel
theorem dX3_lineOf_11 : decode cX3_lineOf 11 = .ok (.aload_n 0, 1) := by decide +kernel
theorem dX3_lineOf_12 : decode cX3_lineOf 12 = .ok (.getfield 62, 3) := by decide +kernel
theorem dX3_lineOf_15 : decode cX3_lineOf 15 = .ok (.if_icmp .ge 12, 3) := by decide +kernel
theorem dX3_lineOf_18 : decode cX3_lineOf 18 = .ok (.aload_n 0, 1) := by decide +kernel
theorem dX3_lineOf_19 : decode cX3_lineOf 19 = .ok (.getfield 58, 3) := by decide +kernel
theorem dX3_lineOf_22 : decode cX3_lineOf 22 = .ok (.iload_n 1, 1) := by decide +kernel
theorem dX3_lineOf_23 : decode cX3_lineOf 23 = .ok (.aaload, 1) := by decide +kernel
theorem dX3_lineOf_24 : decode cX3_lineOf 24 = .ok (.goto 4, 3) := by decide +kernel
theorem dX3_lineOf_27 : decode cX3_lineOf 27 = .ok (.aconst_null, 1) := by decide +kernel
theorem dX3_lineOf_28 : decode cX3_lineOf 28 = .ok (.areturn, 1) := by decide +kernel
theorem dX3_topOf_0 : decode cX3_topOf 0 = .ok (.iload_n 2, 1) := by decide +kernel
theorem dX3_topOf_1 : decode cX3_topOf 1 = .ok (.bipush 12, 2) := by decide +kernel
theorem dX3_topOf_3 : decode cX3_topOf 3 = .ok (.imul, 1) := by decide +kernel
theorem dX3_topOf_4 : decode cX3_topOf 4 = .ok (.iload_n 1, 1) := by decide +kernel
theorem dX3_topOf_5 : decode cX3_topOf 5 = .ok (.iadd, 1) := by decide +kernel
theorem dX3_topOf_6 : decode cX3_topOf 6 = .ok (.istore_n 3, 1) := by decide +kernel
theorem dX3_topOf_7 : decode cX3_topOf 7 = .ok (.iload_n 3, 1) := by decide +kernel
theorem dX3_topOf_8 : decode cX3_topOf 8 = .ok (.ifCond .lt 18, 3) := by decide +kernel
theorem dX3_topOf_11 : decode cX3_topOf 11 = .ok (.iload_n 3, 1) := by decide +kernel
theorem dX3_topOf_12 : decode cX3_topOf 12 = .ok (.bipush 120, 2) := by decide +kernel
theorem dX3_topOf_14 : decode cX3_topOf 14 = .ok (.if_icmp .ge 12, 3) := by decide +kernel
theorem dX3_topOf_17 : decode cX3_topOf 17 = .ok (.aload_n 0, 1) := by decide +kernel
theorem dX3_topOf_18 : decode cX3_topOf 18 = .ok (.getfield 47, 3) := by decide +kernel
theorem dX3_topOf_21 : decode cX3_topOf 21 = .ok (.iload_n 3, 1) := by decide +kernel
theorem dX3_topOf_22 : decode cX3_topOf 22 = .ok (.iaload, 1) := by decide +kernel
theorem dX3_topOf_23 : decode cX3_topOf 23 = .ok (.goto 4, 3) := by decide +kernel
theorem dX3_topOf_26 : decode cX3_topOf 26 = .ok (.iconst 0, 1) := by decide +kernel
theorem dX3_topOf_27 : decode cX3_topOf 27 = .ok (.ireturn, 1) := by decide +kernel
set_option maxRecDepth 20000 in
theorem ggX3_isInField_X3_isWithin : GoodIn wsX3_isInField wsX3_isWithin := goodIn_r _ [7] (by decide +kernel) (by decide +kernel)
set_option maxRecDepth 20000 in
theorem gX3_isInField_X3_isWithin : GoodIn wsX3_isInField (va_wsS RX3 65 yX3_isWithin wsX3_isWithin) := goodIn_app (goodIn_of _ (by decide +kernel)) ggX3_isInField_X3_isWithin
theorem dX3_isInField_0 : decode cX3_isInField 0 = .ok (.iload_n 3, 1) := by decide +kernel
theorem dX3_isInField_1 : decode cX3_isInField 1 = .ok (.ifCond .eq 12, 3) := by decide +kernel
theorem dX3_isInField_4 : decode cX3_isInField 4 = .ok (.aload_n 0, 1) := by decide +kernel
theorem dX3_isInField_5 : decode cX3_isInField 5 = .ok (.getfield 245, 3) := by decide +kernel
theorem dX3_isInField_8 : decode cX3_isInField 8 = .ok (.ifCond .ne 5, 3) := by decide +kernel
theorem dX3_isInField_11 : decode cX3_isInField 11 = .ok (.iconst 0, 1) := by decide +kernel
theorem dX3_isInField_12 : decode cX3_isInField 12 = .ok (.ireturn, 1) := by decide +kernel
theorem dX3_isInField_13 : decode cX3_isInField 13 = .ok (.iload_n 3, 1) := by decide +kernel
theorem dX3_isInField_14 : decode cX3_isInField 14 = .ok (.ifCond .eq 10, 3) := by decide +kernel
theorem dX3_isInField_17 : decode cX3_isInField 17 = .ok (.aload_n 0, 1) := by decide +kernel
theorem dX3_isInField_18 : decode cX3_isInField 18 = .ok (.getfield 248, 3) := by decide +kernel
theorem dX3_isInField_21 : decode cX3_isInField 21 = .ok (.goto 7, 3) := by decide +kernel
theorem dX3_isInField_24 : decode cX3_isInField 24 = .ok (.aload_n 0, 1) := by decide +kernel
theorem dX3_isInField_25 : decode cX3_isInField 25 = .ok (.getfield 249, 3) := by decide +kernel
theorem dX3_isInField_28 : decode cX3_isInField 28 = .ok (.istore 4, 2) := by decide +kernel
theorem dX3_isInField_30 : decode cX3_isInField 30 = .ok (.iload_n 3, 1) := by decide +kernel
theorem dX3_isInField_31 : decode cX3_isInField 31 = .ok (.ifCond .eq 10, 3) := by decide +kernel
theorem dX3_isInField_34 : decode cX3_isInField 34 = .ok (.aload_n 0, 1) := by decide +kernel
theorem dX3_isInField_35 : decode cX3_isInField 35 = .ok (.getfield 249, 3) := by decide +kernel
theorem dX3_isInField_38 : decode cX3_isInField 38 = .ok (.goto 7, 3) := by decide +kernel
theorem dX3_isInField_41 : decode cX3_isInField 41 = .ok (.aload_n 0, 1) := by decide +kernel
theorem dX3_isInField_42 : decode cX3_isInField 42 = .ok (.getfield 248, 3) := by decide +kernel
theorem dX3_isInField_45 : decode cX3_isInField 45 = .ok (.istore 5, 2) := by decide +kernel
theorem dX3_isInField_47 : decode cX3_isInField 47 = .ok (.iload_n 1, 1) := by decide +kernel
theorem dX3_isInField_48 : decode cX3_isInField 48 = .ok (.iconst 0, 1) := by decide +kernel
theorem dX3_isInField_49 : decode cX3_isInField 49 = .ok (.bipush 12, 2) := by decide +kernel
theorem dX3_isInField_51 : decode cX3_isInField 51 = .ok (.iload 4, 2) := by decide +kernel
theorem dX3_isInField_53 : decode cX3_isInField 53 = .ok (.isub, 1) := by decide +kernel
theorem dX3_isInField_54 : decode cX3_isInField 54 = .ok (.invokestatic 65, 3) := by decide +kernel
theorem dX3_isInField_57 : decode cX3_isInField 57 = .ok (.ifCond .eq 20, 3) := by decide +kernel
theorem dX3_isInField_60 : decode cX3_isInField 60 = .ok (.iload_n 2, 1) := by decide +kernel
theorem dX3_isInField_61 : decode cX3_isInField 61 = .ok (.iconst 0, 1) := by decide +kernel
theorem dX3_isInField_62 : decode cX3_isInField 62 = .ok (.bipush 10, 2) := by decide +kernel
theorem dX3_isInField_64 : decode cX3_isInField 64 = .ok (.iload 5, 2) := by decide +kernel
theorem dX3_isInField_66 : decode cX3_isInField 66 = .ok (.isub, 1) := by decide +kernel
theorem dX3_isInField_67 : decode cX3_isInField 67 = .ok (.invokestatic 65, 3) := by decide +kernel
theorem dX3_isInField_70 : decode cX3_isInField 70 = .ok (.ifCond .eq 7, 3) := by decide +kernel
theorem dX3_isInField_73 : decode cX3_isInField 73 = .ok (.iconst 1, 1) := by decide +kernel
theorem dX3_isInField_74 : decode cX3_isInField 74 = .ok (.goto 4, 3) := by decide +kernel
theorem dX3_isInField_77 : decode cX3_isInField 77 = .ok (.iconst 0, 1) := by decide +kernel
theorem dX3_isInField_78 : decode cX3_isInField 78 = .ok (.ireturn, 1) := by decide +kernel
set_option maxRecDepth 20000 in
theorem ggX3_letDown_X0_shape : GoodIn wsX3_letDown wsX0_shape := goodIn_r _ [14, 15, 16, 17, 18, 19, 20, 21, 22, 23, 24, 25, 64, 65, 66, 67, 68, 69, 70, 71, 46, 47, 48, 49, 50, 51, 52, 53, 54, 55, 56, 57, 58, 59, 60, 61, 62, 63] (by decide +kernel) (by decide +kernel)
set_option maxRecDepth 20000 in
theorem gX3_letDown_X0_shape : GoodIn wsX3_letDown (wsV RX3 250 RX0 yX0_shape wsX0_shape) := goodIn_app (goodIn_of _ (by decide +kernel)) ggX3_letDown_X0_shape
set_option maxRecDepth 20000 in
theorem ggX3_letDown_X3_topOf : GoodIn wsX3_letDown wsX3_topOf := goodIn_r _ [30, 31, 32, 33, 34, 35, 36, 37, 38, 39, 40, 41, 42, 43, 44, 45] (by decide +kernel) (by decide +kernel)
set_option maxRecDepth 20000 in
theorem gX3_letDown_X3_topOf : GoodIn wsX3_letDown (wsV RX3 124 RX3 yX3_topOf wsX3_topOf) := goodIn_app (goodIn_of _ (by decide +kernel)) ggX3_letDown_X3_topOf
theorem dX3_letDown_0 : decode cX3_letDown 0 = .ok (.aload_n 0, 1) := by decide +kernel
theorem dX3_letDown_1 : decode cX3_letDown 1 = .ok (.getfield 52, 3) := by decide +kernel
theorem dX3_letDown_4 : decode cX3_letDown 4 = .ok (.aload_n 1, 1) := by decide +kernel
theorem dX3_letDown_5 : decode cX3_letDown 5 = .ok (.iload 4, 2) := by decide +kernel
theorem dX3_letDown_7 : decode cX3_letDown 7 = .ok (.invokevirtual 250, 3) := by decide +kernel
theorem dX3_letDown_10 : decode cX3_letDown 10 = .ok (.aload_n 0, 1) := by decide +kernel
theorem dX3_letDown_11 : decode cX3_letDown 11 = .ok (.getfield 52, 3) := by decide +kernel
theorem dX3_letDown_14 : decode cX3_letDown 14 = .ok (.iload_n 2, 1) := by decide +kernel
theorem dX3_letDown_15 : decode cX3_letDown 15 = .ok (.putfield 182, 3) := by decide +kernel
theorem dX3_letDown_18 : decode cX3_letDown 18 = .ok (.aload_n 0, 1) := by decide +kernel
theorem dX3_letDown_19 : decode cX3_letDown 19 = .ok (.getfield 52, 3) := by decide +kernel
theorem dX3_letDown_22 : decode cX3_letDown 22 = .ok (.iload_n 3, 1) := by decide +kernel
theorem dX3_letDown_23 : decode cX3_letDown 23 = .ok (.putfield 176, 3) := by decide +kernel
theorem dX3_letDown_26 : decode cX3_letDown 26 = .ok (.iconst 0, 1) := by decide +kernel
theorem dX3_letDown_27 : decode cX3_letDown 27 = .ok (.istore 5, 2) := by decide +kernel
theorem dX3_letDown_29 : decode cX3_letDown 29 = .ok (.iconst 0, 1) := by decide +kernel
theorem dX3_letDown_30 : decode cX3_letDown 30 = .ok (.istore 6, 2) := by decide +kernel
theorem dX3_letDown_32 : decode cX3_letDown 32 = .ok (.iload_n 3, 1) := by decide +kernel
theorem dX3_letDown_33 : decode cX3_letDown 33 = .ok (.istore 7, 2) := by decide +kernel
theorem dX3_letDown_35 : decode cX3_letDown 35 = .ok (.iload 7, 2) := by decide +kernel
theorem dX3_letDown_37 : decode cX3_letDown 37 = .ok (.iload_n 3, 1) := by decide +kernel
theorem dX3_letDown_38 : decode cX3_letDown 38 = .ok (.aload_n 0, 1) := by decide +kernel
theorem dX3_letDown_39 : decode cX3_letDown 39 = .ok (.getfield 52, 3) := by decide +kernel
theorem dX3_letDown_42 : decode cX3_letDown 42 = .ok (.getfield 179, 3) := by decide +kernel
theorem dX3_letDown_45 : decode cX3_letDown 45 = .ok (.iadd, 1) := by decide +kernel
theorem dX3_letDown_46 : decode cX3_letDown 46 = .ok (.if_icmp .ge 69, 3) := by decide +kernel
theorem dX3_letDown_49 : decode cX3_letDown 49 = .ok (.iload_n 2, 1) := by decide +kernel
theorem dX3_letDown_50 : decode cX3_letDown 50 = .ok (.istore 8, 2) := by decide +kernel
theorem dX3_letDown_52 : decode cX3_letDown 52 = .ok (.iload 8, 2) := by decide +kernel
theorem dX3_letDown_54 : decode cX3_letDown 54 = .ok (.iload_n 2, 1) := by decide +kernel
theorem dX3_letDown_55 : decode cX3_letDown 55 = .ok (.aload_n 0, 1) := by decide +kernel
theorem dX3_letDown_56 : decode cX3_letDown 56 = .ok (.getfield 52, 3) := by decide +kernel
theorem dX3_letDown_59 : decode cX3_letDown 59 = .ok (.getfield 185, 3) := by decide +kernel
theorem dX3_letDown_62 : decode cX3_letDown 62 = .ok (.iadd, 1) := by decide +kernel
theorem dX3_letDown_63 : decode cX3_letDown 63 = .ok (.if_icmp .ge 46, 3) := by decide +kernel
theorem dX3_letDown_66 : decode cX3_letDown 66 = .ok (.aload_n 0, 1) := by decide +kernel
theorem dX3_letDown_67 : decode cX3_letDown 67 = .ok (.iload 8, 2) := by decide +kernel
theorem dX3_letDown_69 : decode cX3_letDown 69 = .ok (.iload 7, 2) := by decide +kernel
theorem dX3_letDown_71 : decode cX3_letDown 71 = .ok (.invokevirtual 124, 3) := by decide +kernel
theorem dX3_letDown_74 : decode cX3_letDown 74 = .ok (.istore 9, 2) := by decide +kernel
theorem dX3_letDown_76 : decode cX3_letDown 76 = .ok (.iload 9, 2) := by decide +kernel
theorem dX3_letDown_78 : decode cX3_letDown 78 = .ok (.iload 5, 2) := by decide +kernel
theorem dX3_letDown_80 : decode cX3_letDown 80 = .ok (.if_icmp .le 13, 3) := by decide +kernel
theorem dX3_letDown_83 : decode cX3_letDown 83 = .ok (.iload 9, 2) := by decide +kernel
theorem dX3_letDown_85 : decode cX3_letDown 85 = .ok (.istore 5, 2) := by decide +kernel
theorem dX3_letDown_87 : decode cX3_letDown 87 = .ok (.iconst 1, 1) := by decide +kernel
theorem dX3_letDown_88 : decode cX3_letDown 88 = .ok (.istore 6, 2) := by decide +kernel
theorem dX3_letDown_90 : decode cX3_letDown 90 = .ok (.goto 13, 3) := by decide +kernel
theorem dX3_letDown_93 : decode cX3_letDown 93 = .ok (.iload 9, 2) := by decide +kernel
theorem dX3_letDown_95 : decode cX3_letDown 95 = .ok (.iload 5, 2) := by decide +kernel
theorem dX3_letDown_97 : decode cX3_letDown 97 = .ok (.if_icmp .ne 6, 3) := by decide +kernel
theorem dX3_letDown_100 : decode cX3_letDown 100 = .ok (.iinc 6 1, 3) := by decide +kernel
theorem dX3_letDown_103 : decode cX3_letDown 103 = .ok (.iinc 8 1, 3) := by decide +kernel
theorem dX3_letDown_106 : decode cX3_letDown 106 = .ok (.goto (-54), 3) := by decide +kernel
theorem dX3_letDown_109 : decode cX3_letDown 109 = .ok (.iinc 7 1, 3) := by decide +kernel
theorem dX3_letDown_112 : decode cX3_letDown 112 = .ok (.goto (-77), 3) := by decide +kernel
theorem dX3_letDown_115 : decode cX3_letDown 115 = .ok (.aload_n 0, 1) := by decide +kernel
theorem dX3_letDown_116 : decode cX3_letDown 116 = .ok (.getfield 52, 3) := by decide +kernel
theorem dX3_letDown_119 : decode cX3_letDown 119 = .ok (.iload 5, 2) := by decide +kernel
theorem dX3_letDown_121 : decode cX3_letDown 121 = .ok (.putfield 131, 3) := by decide +kernel
theorem dX3_letDown_124 : decode cX3_letDown 124 = .ok (.aload_n 0, 1) := by decide +kernel
theorem dX3_letDown_125 : decode cX3_letDown 125 = .ok (.getfield 52, 3) := by decide +kernel
theorem dX3_letDown_128 : decode cX3_letDown 128 = .ok (.iload 5, 2) := by decide +kernel
theorem dX3_letDown_130 : decode cX3_letDown 130 = .ok (.aload_n 1, 1) := by decide +kernel
theorem dX3_letDown_131 : decode cX3_letDown 131 = .ok (.getfield 254, 3) := by decide +kernel
theorem dX3_letDown_134 : decode cX3_letDown 134 = .ok (.iadd, 1) := by decide +kernel
theorem dX3_letDown_135 : decode cX3_letDown 135 = .ok (.putfield 134, 3) := by decide +kernel
theorem dX3_letDown_138 : decode cX3_letDown 138 = .ok (.aload_n 0, 1) := by decide +kernel
theorem dX3_letDown_139 : decode cX3_letDown 139 = .ok (.getfield 52, 3) := by decide +kernel
theorem dX3_letDown_142 : decode cX3_letDown 142 = .ok (.iload 6, 2) := by decide +kernel
theorem dX3_letDown_144 : decode cX3_letDown 144 = .ok (.putfield 214, 3) := by decide +kernel
theorem dX3_letDown_147 : decode cX3_letDown 147 = .ok (.return_, 1) := by decide +kernel
theorem dX3_brokenRule_0 : decode cX3_brokenRule 0 = .ok (.aload_n 0, 1) := by decide +kernel
theorem dX3_brokenRule_1 : decode cX3_brokenRule 1 = .ok (.getfield 52, 3) := by decide +kernel
theorem dX3_brokenRule_4 : decode cX3_brokenRule 4 = .ok (.getfield 134, 3) := by decide +kernel
theorem dX3_brokenRule_7 : decode cX3_brokenRule 7 = .ok (.aload_n 0, 1) := by decide +kernel
theorem dX3_brokenRule_8 : decode cX3_brokenRule 8 = .ok (.getfield 19, 3) := by decide +kernel
theorem dX3_brokenRule_11 : decode cX3_brokenRule 11 = .ok (.if_icmp .le 5, 3) := by decide +kernel
theorem dX3_brokenRule_14 : decode cX3_brokenRule 14 = .ok (.iconst 2, 1) := by decide +kernel
theorem dX3_brokenRule_15 : decode cX3_brokenRule 15 = .ok (.ireturn, 1) := by decide +kernel
theorem dX3_brokenRule_16 : decode cX3_brokenRule 16 = .ok (.aload_n 1, 1) := by decide +kernel
theorem dX3_brokenRule_17 : decode cX3_brokenRule 17 = .ok (.getfield 267, 3) := by decide +kernel
theorem dX3_brokenRule_20 : decode cX3_brokenRule 20 = .ok (.ifCond .eq 15, 3) := by decide +kernel
theorem dX3_brokenRule_23 : decode cX3_brokenRule 23 = .ok (.aload_n 0, 1) := by decide +kernel
theorem dX3_brokenRule_24 : decode cX3_brokenRule 24 = .ok (.getfield 52, 3) := by decide +kernel
theorem dX3_brokenRule_27 : decode cX3_brokenRule 27 = .ok (.getfield 131, 3) := by decide +kernel
theorem dX3_brokenRule_30 : decode cX3_brokenRule 30 = .ok (.ifCond .le 5, 3) := by decide +kernel
theorem dX3_brokenRule_33 : decode cX3_brokenRule 33 = .ok (.iconst 3, 1) := by decide +kernel
theorem dX3_brokenRule_34 : decode cX3_brokenRule 34 = .ok (.ireturn, 1) := by decide +kernel
theorem dX3_brokenRule_35 : decode cX3_brokenRule 35 = .ok (.aload_n 0, 1) := by decide +kernel
theorem dX3_brokenRule_36 : decode cX3_brokenRule 36 = .ok (.getfield 52, 3) := by decide +kernel
theorem dX3_brokenRule_39 : decode cX3_brokenRule 39 = .ok (.getfield 214, 3) := by decide +kernel
theorem dX3_brokenRule_42 : decode cX3_brokenRule 42 = .ok (.bipush 100, 2) := by decide +kernel
theorem dX3_brokenRule_44 : decode cX3_brokenRule 44 = .ok (.imul, 1) := by decide +kernel
theorem dX3_brokenRule_45 : decode cX3_brokenRule 45 = .ok (.aload_n 0, 1) := by decide +kernel
theorem dX3_brokenRule_46 : decode cX3_brokenRule 46 = .ok (.getfield 52, 3) := by decide +kernel
theorem dX3_brokenRule_49 : decode cX3_brokenRule 49 = .ok (.invokevirtual 188, 3) := by decide +kernel
theorem dX3_brokenRule_52 : decode cX3_brokenRule 52 = .ok (.aload_n 0, 1) := by decide +kernel
theorem dX3_brokenRule_53 : decode cX3_brokenRule 53 = .ok (.getfield 22, 3) := by decide +kernel
theorem dX3_brokenRule_56 : decode cX3_brokenRule 56 = .ok (.imul, 1) := by decide +kernel
theorem dX3_brokenRule_57 : decode cX3_brokenRule 57 = .ok (.if_icmp .ge 5, 3) := by decide +kernel
theorem dX3_brokenRule_60 : decode cX3_brokenRule 60 = .ok (.iconst 4, 1) := by decide +kernel
theorem dX3_brokenRule_61 : decode cX3_brokenRule 61 = .ok (.ireturn, 1) := by decide +kernel
theorem dX3_brokenRule_62 : decode cX3_brokenRule 62 = .ok (.aload_n 0, 1) := by decide +kernel
theorem dX3_brokenRule_63 : decode cX3_brokenRule 63 = .ok (.getfield 28, 3) := by decide +kernel
theorem dX3_brokenRule_66 : decode cX3_brokenRule 66 = .ok (.ifCond .eq 22, 3) := by decide +kernel
theorem dX3_brokenRule_69 : decode cX3_brokenRule 69 = .ok (.aload_n 0, 1) := by decide +kernel
theorem dX3_brokenRule_70 : decode cX3_brokenRule 70 = .ok (.getfield 52, 3) := by decide +kernel
theorem dX3_brokenRule_73 : decode cX3_brokenRule 73 = .ok (.getfield 131, 3) := by decide +kernel
theorem dX3_brokenRule_76 : decode cX3_brokenRule 76 = .ok (.ifCond .le 12, 3) := by decide +kernel
theorem dX3_brokenRule_79 : decode cX3_brokenRule 79 = .ok (.aload_n 0, 1) := by decide +kernel
theorem dX3_brokenRule_80 : decode cX3_brokenRule 80 = .ok (.invokevirtual 270, 3) := by decide +kernel
theorem dX3_brokenRule_83 : decode cX3_brokenRule 83 = .ok (.ifCond .ne 5, 3) := by decide +kernel
theorem dX3_brokenRule_86 : decode cX3_brokenRule 86 = .ok (.iconst 5, 1) := by decide +kernel
theorem dX3_brokenRule_87 : decode cX3_brokenRule 87 = .ok (.ireturn, 1) := by decide +kernel
theorem dX3_brokenRule_88 : decode cX3_brokenRule 88 = .ok (.aload_n 0, 1) := by decide +kernel
theorem dX3_brokenRule_89 : decode cX3_brokenRule 89 = .ok (.invokevirtual 274, 3) := by decide +kernel
theorem dX3_brokenRule_92 : decode cX3_brokenRule 92 = .ok (.aload_n 0, 1) := by decide +kernel
theorem dX3_brokenRule_93 : decode cX3_brokenRule 93 = .ok (.invokevirtual 277, 3) := by decide +kernel
theorem dX3_brokenRule_96 : decode cX3_brokenRule 96 = .ok (.ifCond .eq 6, 3) := by decide +kernel
theorem dX3_brokenRule_99 : decode cX3_brokenRule 99 = .ok (.bipush 6, 2) := by decide +kernel
theorem dX3_brokenRule_101 : decode cX3_brokenRule 101 = .ok (.ireturn, 1) := by decide +kernel
theorem dX3_brokenRule_102 : decode cX3_brokenRule 102 = .ok (.aload_n 0, 1) := by decide +kernel
theorem dX3_brokenRule_103 : decode cX3_brokenRule 103 = .ok (.getfield 44, 3) := by decide +kernel
theorem dX3_brokenRule_106 : decode cX3_brokenRule 106 = .ok (.aload_n 0, 1) := by decide +kernel
theorem dX3_brokenRule_107 : decode cX3_brokenRule 107 = .ok (.getfield 52, 3) := by decide +kernel
theorem dX3_brokenRule_110 : decode cX3_brokenRule 110 = .ok (.getfield 107, 3) := by decide +kernel
theorem dX3_brokenRule_113 : decode cX3_brokenRule 113 = .ok (.iadd, 1) := by decide +kernel
theorem dX3_brokenRule_114 : decode cX3_brokenRule 114 = .ok (.aload_n 0, 1) := by decide +kernel
theorem dX3_brokenRule_115 : decode cX3_brokenRule 115 = .ok (.getfield 25, 3) := by decide +kernel
theorem dX3_brokenRule_118 : decode cX3_brokenRule 118 = .ok (.if_icmp .le 8, 3) := by decide +kernel
theorem dX3_brokenRule_121 : decode cX3_brokenRule 121 = .ok (.bipush 7, 2) := by decide +kernel
theorem dX3_brokenRule_123 : decode cX3_brokenRule 123 = .ok (.goto 4, 3) := by decide +kernel
theorem dX3_brokenRule_126 : decode cX3_brokenRule 126 = .ok (.iconst 0, 1) := by decide +kernel
theorem dX3_brokenRule_127 : decode cX3_brokenRule 127 = .ok (.ireturn, 1) := by decide +kernel
set_option maxRecDepth 20000 in
theorem ggX3_bestPlace_X3_xOf : GoodIn wsX3_bestPlace wsX3_xOf := goodIn_r _ [7] (by decide +kernel) (by decide +kernel)
set_option maxRecDepth 20000 in
theorem gX3_bestPlace_X3_xOf : GoodIn wsX3_bestPlace (va_wsS RX3 291 yX3_xOf wsX3_xOf) := goodIn_app (goodIn_of _ (by decide +kernel)) ggX3_bestPlace_X3_xOf
set_option maxRecDepth 20000 in
theorem ggX3_bestPlace_X3_yOf : GoodIn wsX3_bestPlace wsX3_yOf := goodIn_r _ [10] (by decide +kernel) (by decide +kernel)
set_option maxRecDepth 20000 in
theorem gX3_bestPlace_X3_yOf : GoodIn wsX3_bestPlace (va_wsS RX3 294 yX3_yOf wsX3_yOf) := goodIn_app (goodIn_of _ (by decide +kernel)) ggX3_bestPlace_X3_yOf
set_option maxRecDepth 20000 in
theorem ggX3_bestPlace_X3_isTurnedIn : GoodIn wsX3_bestPlace wsX3_isTurnedIn := goodIn_r _ [13] (by decide +kernel) (by decide +kernel)
set_option maxRecDepth 20000 in
theorem gX3_bestPlace_X3_isTurnedIn : GoodIn wsX3_bestPlace (va_wsS RX3 297 yX3_isTurnedIn wsX3_isTurnedIn) := goodIn_app (goodIn_of _ (by decide +kernel)) ggX3_bestPlace_X3_isTurnedIn
set_option maxRecDepth 20000 in
theorem ggX3_bestPlace_X3_isInField : GoodIn wsX3_bestPlace wsX3_isInField := goodIn_r _ [16, 17, 18, 19, 20, 21, 6, 22, 157, 158, 159, 160, 161, 162, 163, 164] (by decide +kernel) (by decide +kernel)
set_option maxRecDepth 20000 in
theorem gX3_bestPlace_X3_isInField : GoodIn wsX3_bestPlace (va_wsS RX3 280 yX3_isInField wsX3_isInField) := goodIn_app (goodIn_of _ (by decide +kernel)) ggX3_bestPlace_X3_isInField
set_option maxRecDepth 20000 in
theorem ggX3_bestPlace_X3_letDown : GoodIn wsX3_bestPlace wsX3_letDown := goodIn_r _ [26, 1, 27, 28, 29, 30, 2, 31, 32, 3, 33, 34, 35, 36, 37, 38, 39, 40, 41, 42, 43, 44, 45, 46, 47, 48, 49, 50, 51, 6, 52, 53, 125, 126, 127, 128, 129, 130, 131, 132, 133, 134, 135, 136, 137, 138, 139, 140, 141, 142, 143, 144, 145, 146, 147, 148, 149, 150, 151, 152, 153, 154, 155, 156, 157, 158, 159, 160, 161, 162, 163, 164] (by decide +kernel) (by decide +kernel)
set_option maxRecDepth 20000 in
theorem gX3_bestPlace_X3_letDown : GoodIn wsX3_bestPlace (wsV RX3 284 RX3 yX3_letDown wsX3_letDown) := goodIn_app (goodIn_of _ (by decide +kernel)) ggX3_bestPlace_X3_letDown
set_option maxRecDepth 20000 in
theorem ggX3_bestPlace_X3_brokenRule : GoodIn wsX3_bestPlace wsX3_brokenRule := goodIn_r _ [57, 1, 32, 58, 59, 2, 3, 60, 61, 62, 63, 64, 65, 66, 67, 36, 68, 47, 48, 69, 70, 71, 6, 72, 27, 30, 28, 29, 73, 74, 75, 76, 49, 50, 51, 52, 53, 77, 78, 79, 80, 81, 82, 83, 84, 85, 86, 87, 88, 89, 90, 91, 92, 93, 94, 95, 96, 97, 98, 99, 100, 101, 102, 103, 104, 105, 106, 107, 108, 109, 110, 111, 112, 113, 114, 115, 116, 117, 118, 119, 120, 121, 122, 123, 124, 41, 125, 126, 127, 128, 129, 130, 131, 132, 133, 134, 135, 136, 137, 138, 139, 140, 141, 142, 143, 144, 145, 146, 147, 148, 149, 150, 151, 152, 153, 154, 155, 156, 157, 158, 159, 160, 161, 162, 163, 164] (by decide +kernel) (by decide +kernel)
set_option maxRecDepth 20000 in
theorem gX3_bestPlace_X3_brokenRule : GoodIn wsX3_bestPlace (wsV RX3 288 RX3 yX3_brokenRule wsX3_brokenRule) := goodIn_app (goodIn_of _ (by decide +kernel)) ggX3_bestPlace_X3_brokenRule
theorem dX3_bestPlace_0 : decode cX3_bestPlace 0 = .ok (.iconst (-1), 1) := by decide +kernel
theorem dX3_bestPlace_1 : decode cX3_bestPlace 1 = .ok (.istore_n 2, 1) := by decide +kernel
theorem dX3_bestPlace_2 : decode cX3_bestPlace 2 = .ok (.iconst 0, 1) := by decide +kernel
theorem dX3_bestPlace_3 : decode cX3_bestPlace 3 = .ok (.istore_n 3, 1) := by decide +kernel
theorem dX3_bestPlace_4 : decode cX3_bestPlace 4 = .ok (.iconst 0, 1) := by decide +kernel
theorem dX3_bestPlace_5 : decode cX3_bestPlace 5 = .ok (.istore 4, 2) := by decide +kernel
theorem dX3_bestPlace_7 : decode cX3_bestPlace 7 = .ok (.iconst 0, 1) := by decide +kernel
theorem dX3_bestPlace_8 : decode cX3_bestPlace 8 = .ok (.istore 5, 2) := by decide +kernel
theorem dX3_bestPlace_10 : decode cX3_bestPlace 10 = .ok (.iload 5, 2) := by decide +kernel
theorem dX3_bestPlace_12 : decode cX3_bestPlace 12 = .ok (.sipush 240, 3) := by decide +kernel
theorem dX3_bestPlace_15 : decode cX3_bestPlace 15 = .ok (.if_icmp .ge 139, 3) := by decide +kernel
theorem dX3_bestPlace_18 : decode cX3_bestPlace 18 = .ok (.aload_n 1, 1) := by decide +kernel
theorem dX3_bestPlace_19 : decode cX3_bestPlace 19 = .ok (.iload 5, 2) := by decide +kernel
theorem dX3_bestPlace_21 : decode cX3_bestPlace 21 = .ok (.invokestatic 291, 3) := by decide +kernel
theorem dX3_bestPlace_24 : decode cX3_bestPlace 24 = .ok (.iload 5, 2) := by decide +kernel
theorem dX3_bestPlace_26 : decode cX3_bestPlace 26 = .ok (.invokestatic 294, 3) := by decide +kernel
theorem dX3_bestPlace_29 : decode cX3_bestPlace 29 = .ok (.iload 5, 2) := by decide +kernel
theorem dX3_bestPlace_31 : decode cX3_bestPlace 31 = .ok (.invokestatic 297, 3) := by decide +kernel
theorem dX3_bestPlace_34 : decode cX3_bestPlace 34 = .ok (.invokestatic 280, 3) := by decide +kernel
theorem dX3_bestPlace_37 : decode cX3_bestPlace 37 = .ok (.ifCond .ne 6, 3) := by decide +kernel
theorem dX3_bestPlace_40 : decode cX3_bestPlace 40 = .ok (.goto 108, 3) := by decide +kernel
theorem dX3_bestPlace_43 : decode cX3_bestPlace 43 = .ok (.aload_n 0, 1) := by decide +kernel
theorem dX3_bestPlace_44 : decode cX3_bestPlace 44 = .ok (.aload_n 1, 1) := by decide +kernel
theorem dX3_bestPlace_45 : decode cX3_bestPlace 45 = .ok (.iload 5, 2) := by decide +kernel
theorem dX3_bestPlace_47 : decode cX3_bestPlace 47 = .ok (.invokestatic 291, 3) := by decide +kernel
theorem dX3_bestPlace_50 : decode cX3_bestPlace 50 = .ok (.iload 5, 2) := by decide +kernel
theorem dX3_bestPlace_52 : decode cX3_bestPlace 52 = .ok (.invokestatic 294, 3) := by decide +kernel
theorem dX3_bestPlace_55 : decode cX3_bestPlace 55 = .ok (.iload 5, 2) := by decide +kernel
theorem dX3_bestPlace_57 : decode cX3_bestPlace 57 = .ok (.invokestatic 297, 3) := by decide +kernel
theorem dX3_bestPlace_60 : decode cX3_bestPlace 60 = .ok (.invokevirtual 284, 3) := by decide +kernel
theorem dX3_bestPlace_63 : decode cX3_bestPlace 63 = .ok (.iload_n 2, 1) := by decide +kernel
theorem dX3_bestPlace_64 : decode cX3_bestPlace 64 = .ok (.iconst (-1), 1) := by decide +kernel
theorem dX3_bestPlace_65 : decode cX3_bestPlace 65 = .ok (.if_icmp .eq 37, 3) := by decide +kernel
theorem dX3_bestPlace_68 : decode cX3_bestPlace 68 = .ok (.aload_n 0, 1) := by decide +kernel
theorem dX3_bestPlace_69 : decode cX3_bestPlace 69 = .ok (.getfield 52, 3) := by decide +kernel
theorem dX3_bestPlace_72 : decode cX3_bestPlace 72 = .ok (.getfield 131, 3) := by decide +kernel
theorem dX3_bestPlace_75 : decode cX3_bestPlace 75 = .ok (.iload_n 3, 1) := by decide +kernel
theorem dX3_bestPlace_76 : decode cX3_bestPlace 76 = .ok (.if_icmp .lt 26, 3) := by decide +kernel
theorem dX3_bestPlace_79 : decode cX3_bestPlace 79 = .ok (.aload_n 0, 1) := by decide +kernel
theorem dX3_bestPlace_80 : decode cX3_bestPlace 80 = .ok (.getfield 52, 3) := by decide +kernel
theorem dX3_bestPlace_83 : decode cX3_bestPlace 83 = .ok (.getfield 131, 3) := by decide +kernel
theorem dX3_bestPlace_86 : decode cX3_bestPlace 86 = .ok (.iload_n 3, 1) := by decide +kernel
theorem dX3_bestPlace_87 : decode cX3_bestPlace 87 = .ok (.if_icmp .ne 19, 3) := by decide +kernel
theorem dX3_bestPlace_90 : decode cX3_bestPlace 90 = .ok (.aload_n 0, 1) := by decide +kernel
theorem dX3_bestPlace_91 : decode cX3_bestPlace 91 = .ok (.getfield 52, 3) := by decide +kernel
theorem dX3_bestPlace_94 : decode cX3_bestPlace 94 = .ok (.getfield 214, 3) := by decide +kernel
theorem dX3_bestPlace_97 : decode cX3_bestPlace 97 = .ok (.iload 4, 2) := by decide +kernel
theorem dX3_bestPlace_99 : decode cX3_bestPlace 99 = .ok (.if_icmp .le 7, 3) := by decide +kernel
theorem dX3_bestPlace_102 : decode cX3_bestPlace 102 = .ok (.iconst 1, 1) := by decide +kernel
theorem dX3_bestPlace_103 : decode cX3_bestPlace 103 = .ok (.goto 4, 3) := by decide +kernel
theorem dX3_bestPlace_106 : decode cX3_bestPlace 106 = .ok (.iconst 0, 1) := by decide +kernel
theorem dX3_bestPlace_107 : decode cX3_bestPlace 107 = .ok (.istore 6, 2) := by decide +kernel
theorem dX3_bestPlace_109 : decode cX3_bestPlace 109 = .ok (.iload 6, 2) := by decide +kernel
theorem dX3_bestPlace_111 : decode cX3_bestPlace 111 = .ok (.ifCond .eq 37, 3) := by decide +kernel
theorem dX3_bestPlace_114 : decode cX3_bestPlace 114 = .ok (.aload_n 0, 1) := by decide +kernel
theorem dX3_bestPlace_115 : decode cX3_bestPlace 115 = .ok (.aload_n 1, 1) := by decide +kernel
theorem dX3_bestPlace_116 : decode cX3_bestPlace 116 = .ok (.invokevirtual 288, 3) := by decide +kernel
theorem dX3_bestPlace_119 : decode cX3_bestPlace 119 = .ok (.ifCond .ne 29, 3) := by decide +kernel
theorem dX3_bestPlace_122 : decode cX3_bestPlace 122 = .ok (.iload 5, 2) := by decide +kernel
theorem dX3_bestPlace_124 : decode cX3_bestPlace 124 = .ok (.istore_n 2, 1) := by decide +kernel
theorem dX3_bestPlace_125 : decode cX3_bestPlace 125 = .ok (.aload_n 0, 1) := by decide +kernel
theorem dX3_bestPlace_126 : decode cX3_bestPlace 126 = .ok (.getfield 52, 3) := by decide +kernel
theorem dX3_bestPlace_129 : decode cX3_bestPlace 129 = .ok (.getfield 131, 3) := by decide +kernel
theorem dX3_bestPlace_132 : decode cX3_bestPlace 132 = .ok (.istore_n 3, 1) := by decide +kernel
theorem dX3_bestPlace_133 : decode cX3_bestPlace 133 = .ok (.aload_n 0, 1) := by decide +kernel
theorem dX3_bestPlace_134 : decode cX3_bestPlace 134 = .ok (.getfield 52, 3) := by decide +kernel
theorem dX3_bestPlace_137 : decode cX3_bestPlace 137 = .ok (.getfield 214, 3) := by decide +kernel
theorem dX3_bestPlace_140 : decode cX3_bestPlace 140 = .ok (.istore 4, 2) := by decide +kernel
theorem dX3_bestPlace_142 : decode cX3_bestPlace 142 = .ok (.iload_n 3, 1) := by decide +kernel
theorem dX3_bestPlace_143 : decode cX3_bestPlace 143 = .ok (.ifCond .ne 5, 3) := by decide +kernel
theorem dX3_bestPlace_146 : decode cX3_bestPlace 146 = .ok (.iload_n 2, 1) := by decide +kernel
theorem dX3_bestPlace_147 : decode cX3_bestPlace 147 = .ok (.ireturn, 1) := by decide +kernel
theorem dX3_bestPlace_148 : decode cX3_bestPlace 148 = .ok (.iinc 5 1, 3) := by decide +kernel
theorem dX3_bestPlace_151 : decode cX3_bestPlace 151 = .ok (.goto (-141), 3) := by decide +kernel
theorem dX3_bestPlace_154 : decode cX3_bestPlace 154 = .ok (.iload_n 2, 1) := by decide +kernel
theorem dX3_bestPlace_155 : decode cX3_bestPlace 155 = .ok (.ireturn, 1) := by decide +kernel
theorem dX3_xOf_0 : decode cX3_xOf 0 = .ok (.iload_n 0, 1) := by decide +kernel
theorem dX3_xOf_1 : decode cX3_xOf 1 = .ok (.iconst 2, 1) := by decide +kernel
theorem dX3_xOf_2 : decode cX3_xOf 2 = .ok (.idiv, 1) := by decide +kernel
theorem dX3_xOf_3 : decode cX3_xOf 3 = .ok (.bipush 12, 2) := by decide +kernel
theorem dX3_xOf_5 : decode cX3_xOf 5 = .ok (.irem, 1) := by decide +kernel
theorem dX3_xOf_6 : decode cX3_xOf 6 = .ok (.ireturn, 1) := by decide +kernel
theorem dX3_yOf_0 : decode cX3_yOf 0 = .ok (.iload_n 0, 1) := by decide +kernel
theorem dX3_yOf_1 : decode cX3_yOf 1 = .ok (.iconst 2, 1) := by decide +kernel
theorem dX3_yOf_2 : decode cX3_yOf 2 = .ok (.idiv, 1) := by decide +kernel
theorem dX3_yOf_3 : decode cX3_yOf 3 = .ok (.bipush 12, 2) := by decide +kernel
theorem dX3_yOf_5 : decode cX3_yOf 5 = .ok (.idiv, 1) := by decide +kernel
theorem dX3_yOf_6 : decode cX3_yOf 6 = .ok (.ireturn, 1) := by decide +kernel
theorem dX3_isTurnedIn_0 : decode cX3_isTurnedIn 0 = .ok (.iload_n 0, 1) := by decide +kernel
theorem dX3_isTurnedIn_1 : decode cX3_isTurnedIn 1 = .ok (.iconst 2, 1) := by decide +kernel
theorem dX3_isTurnedIn_2 : decode cX3_isTurnedIn 2 = .ok (.irem, 1) := by decide +kernel
theorem dX3_isTurnedIn_3 : decode cX3_isTurnedIn 3 = .ok (.iconst 1, 1) := by decide +kernel
theorem dX3_isTurnedIn_4 : decode cX3_isTurnedIn 4 = .ok (.if_icmp .ne 7, 3) := by decide +kernel
theorem dX3_isTurnedIn_7 : decode cX3_isTurnedIn 7 = .ok (.iconst 1, 1) := by decide +kernel
theorem dX3_isTurnedIn_8 : decode cX3_isTurnedIn 8 = .ok (.goto 4, 3) := by decide +kernel
theorem dX3_isTurnedIn_11 : decode cX3_isTurnedIn 11 = .ok (.iconst 0, 1) := by decide +kernel
theorem dX3_isTurnedIn_12 : decode cX3_isTurnedIn 12 = .ok (.ireturn, 1) := by decide +kernel
set_option maxRecDepth 20000 in
theorem ggX3_putAtBest_X3_bestPlace : GoodIn wsX3_putAtBest wsX3_bestPlace := goodIn_r _ [6, 7, 8, 9, 10, 11, 5, 12, 13, 14, 15, 16, 17, 18, 19, 20, 21, 22, 23, 24, 25, 26, 27, 28, 29, 30, 31, 32, 33, 34, 35, 36, 37, 38, 39, 40, 41, 42, 43, 44, 45, 46, 47, 48, 49, 50, 51, 52, 53, 54, 55, 56, 57, 58, 59, 60, 61, 62, 63, 64, 65, 66, 67, 68, 69, 70, 71, 72, 73, 74, 75, 76, 77, 78, 79, 80, 81, 82, 83, 84, 85, 86, 1, 87, 88, 89, 90, 91, 92, 93, 94, 95, 96, 97, 98, 99, 100, 101, 102, 103, 104, 105, 106, 107, 108, 109, 110, 111, 112, 113, 114, 115, 116, 117, 118, 119, 120, 121, 122, 123, 124, 125, 126, 127, 128, 146, 147, 148, 149, 150, 151, 152, 153, 154, 155, 156, 157, 158, 159, 160, 161, 162, 163, 164, 165, 166, 167, 168, 169, 170, 171, 172, 173, 174, 175, 176, 177, 178, 179, 180, 181, 182, 183, 184, 185] (by decide +kernel) (by decide +kernel)
set_option maxRecDepth 20000 in
theorem gX3_putAtBest_X3_bestPlace : GoodIn wsX3_putAtBest (wsV RX3 141 RX3 yX3_bestPlace wsX3_bestPlace) := goodIn_app (goodIn_of _ (by decide +kernel)) ggX3_putAtBest_X3_bestPlace
set_option maxRecDepth 20000 in
theorem ggX3_putAtBest_X3_xOf : GoodIn wsX3_putAtBest wsX3_xOf := goodIn_r _ [12] (by decide +kernel) (by decide +kernel)
set_option maxRecDepth 20000 in
theorem gX3_putAtBest_X3_xOf : GoodIn wsX3_putAtBest (va_wsS RX3 291 yX3_xOf wsX3_xOf) := goodIn_app (goodIn_of _ (by decide +kernel)) ggX3_putAtBest_X3_xOf
set_option maxRecDepth 20000 in
theorem ggX3_putAtBest_X3_yOf : GoodIn wsX3_putAtBest wsX3_yOf := goodIn_r _ [15] (by decide +kernel) (by decide +kernel)
set_option maxRecDepth 20000 in
theorem gX3_putAtBest_X3_yOf : GoodIn wsX3_putAtBest (va_wsS RX3 294 yX3_yOf wsX3_yOf) := goodIn_app (goodIn_of _ (by decide +kernel)) ggX3_putAtBest_X3_yOf
set_option maxRecDepth 20000 in
theorem ggX3_putAtBest_X3_isTurnedIn : GoodIn wsX3_putAtBest wsX3_isTurnedIn := goodIn_r _ [18] (by decide +kernel) (by decide +kernel)
set_option maxRecDepth 20000 in
theorem gX3_putAtBest_X3_isTurnedIn : GoodIn wsX3_putAtBest (va_wsS RX3 297 yX3_isTurnedIn wsX3_isTurnedIn) := goodIn_app (goodIn_of _ (by decide +kernel)) ggX3_putAtBest_X3_isTurnedIn
set_option maxRecDepth 20000 in
theorem ggX3_putAtBest_X3_letDown : GoodIn wsX3_putAtBest wsX3_letDown := goodIn_r _ [31, 7, 32, 33, 34, 35, 8, 36, 37, 9, 38, 39, 40, 41, 42, 43, 44, 45, 46, 47, 48, 49, 50, 51, 52, 53, 54, 55, 56, 5, 57, 58, 146, 147, 148, 149, 150, 151, 152, 153, 154, 155, 156, 157, 158, 159, 160, 161, 162, 163, 164, 165, 166, 167, 168, 169, 170, 171, 172, 173, 174, 175, 176, 177, 178, 179, 180, 181, 182, 183, 184, 185] (by decide +kernel) (by decide +kernel)
set_option maxRecDepth 20000 in
theorem gX3_putAtBest_X3_letDown : GoodIn wsX3_putAtBest (wsV RX3 284 RX3 yX3_letDown wsX3_letDown) := goodIn_app (goodIn_of _ (by decide +kernel)) ggX3_putAtBest_X3_letDown
theorem dX3_putAtBest_0 : decode cX3_putAtBest 0 = .ok (.aload_n 0, 1) := by decide +kernel
theorem dX3_putAtBest_1 : decode cX3_putAtBest 1 = .ok (.getfield 38, 3) := by decide +kernel
theorem dX3_putAtBest_4 : decode cX3_putAtBest 4 = .ok (.bipush 60, 2) := by decide +kernel
theorem dX3_putAtBest_6 : decode cX3_putAtBest 6 = .ok (.if_icmp .lt 5, 3) := by decide +kernel
theorem dX3_putAtBest_9 : decode cX3_putAtBest 9 = .ok (.iconst 0, 1) := by decide +kernel
theorem dX3_putAtBest_10 : decode cX3_putAtBest 10 = .ok (.ireturn, 1) := by decide +kernel
theorem dX3_putAtBest_11 : decode cX3_putAtBest 11 = .ok (.aload_n 0, 1) := by decide +kernel
theorem dX3_putAtBest_12 : decode cX3_putAtBest 12 = .ok (.aload_n 1, 1) := by decide +kernel
theorem dX3_putAtBest_13 : decode cX3_putAtBest 13 = .ok (.invokevirtual 141, 3) := by decide +kernel
theorem dX3_putAtBest_16 : decode cX3_putAtBest 16 = .ok (.istore_n 2, 1) := by decide +kernel
theorem dX3_putAtBest_17 : decode cX3_putAtBest 17 = .ok (.iload_n 2, 1) := by decide +kernel
theorem dX3_putAtBest_18 : decode cX3_putAtBest 18 = .ok (.iconst (-1), 1) := by decide +kernel
theorem dX3_putAtBest_19 : decode cX3_putAtBest 19 = .ok (.if_icmp .ne 5, 3) := by decide +kernel
theorem dX3_putAtBest_22 : decode cX3_putAtBest 22 = .ok (.iconst 0, 1) := by decide +kernel
theorem dX3_putAtBest_23 : decode cX3_putAtBest 23 = .ok (.ireturn, 1) := by decide +kernel
theorem dX3_putAtBest_24 : decode cX3_putAtBest 24 = .ok (.aload_n 0, 1) := by decide +kernel
theorem dX3_putAtBest_25 : decode cX3_putAtBest 25 = .ok (.aload_n 1, 1) := by decide +kernel
theorem dX3_putAtBest_26 : decode cX3_putAtBest 26 = .ok (.iload_n 2, 1) := by decide +kernel
theorem dX3_putAtBest_27 : decode cX3_putAtBest 27 = .ok (.invokestatic 291, 3) := by decide +kernel
theorem dX3_putAtBest_30 : decode cX3_putAtBest 30 = .ok (.iload_n 2, 1) := by decide +kernel
theorem dX3_putAtBest_31 : decode cX3_putAtBest 31 = .ok (.invokestatic 294, 3) := by decide +kernel
theorem dX3_putAtBest_34 : decode cX3_putAtBest 34 = .ok (.iload_n 2, 1) := by decide +kernel
theorem dX3_putAtBest_35 : decode cX3_putAtBest 35 = .ok (.invokestatic 297, 3) := by decide +kernel
theorem dX3_putAtBest_38 : decode cX3_putAtBest 38 = .ok (.invokevirtual 284, 3) := by decide +kernel
theorem dX3_putAtBest_41 : decode cX3_putAtBest 41 = .ok (.aload_n 0, 1) := by decide +kernel
theorem dX3_putAtBest_42 : decode cX3_putAtBest 42 = .ok (.invokevirtual 93, 3) := by decide +kernel
theorem dX3_putAtBest_45 : decode cX3_putAtBest 45 = .ok (.iconst 1, 1) := by decide +kernel
theorem dX3_putAtBest_46 : decode cX3_putAtBest 46 = .ok (.ireturn, 1) := by decide +kernel
set_option maxRecDepth 20000 in
theorem ggX3_nextLine_X3_lineOf : GoodIn wsX3_nextLine wsX3_lineOf := goodIn_r _ [9, 1, 10, 11, 12, 8, 13, 22, 23, 24, 25, 26, 27, 28, 29, 30, 31, 32, 33, 34, 35] (by decide +kernel) (by decide +kernel)
set_option maxRecDepth 20000 in
theorem gX3_nextLine_X3_lineOf : GoodIn wsX3_nextLine (wsV RX3 152 RX3 yX3_lineOf wsX3_lineOf) := goodIn_app (goodIn_of _ (by decide +kernel)) ggX3_nextLine_X3_lineOf
set_option maxRecDepth 20000 in
theorem ggX3_nextLine_X1_comesBefore : GoodIn wsX3_nextLine wsX1_comesBefore := goodIn_r _ [18, 19, 20, 21, 39, 40, 41, 42, 43, 44, 45, 46] (by decide +kernel) (by decide +kernel)
set_option maxRecDepth 20000 in
theorem gX3_nextLine_X1_comesBefore : GoodIn wsX3_nextLine (wsV RX3 305 RX1 yX1_comesBefore wsX1_comesBefore) := goodIn_app (goodIn_of _ (by decide +kernel)) ggX3_nextLine_X1_comesBefore
theorem dX3_nextLine_0 : decode cX3_nextLine 0 = .ok (.aconst_null, 1) := by decide +kernel
theorem dX3_nextLine_1 : decode cX3_nextLine 1 = .ok (.astore_n 1, 1) := by decide +kernel
theorem dX3_nextLine_2 : decode cX3_nextLine 2 = .ok (.iconst 0, 1) := by decide +kernel
theorem dX3_nextLine_3 : decode cX3_nextLine 3 = .ok (.istore_n 2, 1) := by decide +kernel
theorem dX3_nextLine_4 : decode cX3_nextLine 4 = .ok (.iload_n 2, 1) := by decide +kernel
theorem dX3_nextLine_5 : decode cX3_nextLine 5 = .ok (.aload_n 0, 1) := by decide +kernel
theorem dX3_nextLine_6 : decode cX3_nextLine 6 = .ok (.getfield 62, 3) := by decide +kernel
theorem dX3_nextLine_9 : decode cX3_nextLine 9 = .ok (.if_icmp .ge 53, 3) := by decide +kernel
theorem dX3_nextLine_12 : decode cX3_nextLine 12 = .ok (.aload_n 0, 1) := by decide +kernel
theorem dX3_nextLine_13 : decode cX3_nextLine 13 = .ok (.iload_n 2, 1) := by decide +kernel
theorem dX3_nextLine_14 : decode cX3_nextLine 14 = .ok (.invokevirtual 152, 3) := by decide +kernel
theorem dX3_nextLine_17 : decode cX3_nextLine 17 = .ok (.astore_n 3, 1) := by decide +kernel
theorem dX3_nextLine_18 : decode cX3_nextLine 18 = .ok (.aload_n 3, 1) := by decide +kernel
theorem dX3_nextLine_19 : decode cX3_nextLine 19 = .ok (.ifnull 37, 3) := by decide +kernel
theorem dX3_nextLine_22 : decode cX3_nextLine 22 = .ok (.aload_n 3, 1) := by decide +kernel
theorem dX3_nextLine_23 : decode cX3_nextLine 23 = .ok (.getfield 167, 3) := by decide +kernel
theorem dX3_nextLine_26 : decode cX3_nextLine 26 = .ok (.ifCond .le 30, 3) := by decide +kernel
theorem dX3_nextLine_29 : decode cX3_nextLine 29 = .ok (.aload_n 3, 1) := by decide +kernel
theorem dX3_nextLine_30 : decode cX3_nextLine 30 = .ok (.getfield 156, 3) := by decide +kernel
theorem dX3_nextLine_33 : decode cX3_nextLine 33 = .ok (.ifCond .ne 23, 3) := by decide +kernel
theorem dX3_nextLine_36 : decode cX3_nextLine 36 = .ok (.aload_n 1, 1) := by decide +kernel
theorem dX3_nextLine_37 : decode cX3_nextLine 37 = .ok (.ifnull 17, 3) := by decide +kernel
theorem dX3_nextLine_40 : decode cX3_nextLine 40 = .ok (.aload_n 3, 1) := by decide +kernel
theorem dX3_nextLine_41 : decode cX3_nextLine 41 = .ok (.getfield 163, 3) := by decide +kernel
theorem dX3_nextLine_44 : decode cX3_nextLine 44 = .ok (.aload_n 1, 1) := by decide +kernel
theorem dX3_nextLine_45 : decode cX3_nextLine 45 = .ok (.getfield 163, 3) := by decide +kernel
theorem dX3_nextLine_48 : decode cX3_nextLine 48 = .ok (.invokevirtual 305, 3) := by decide +kernel
theorem dX3_nextLine_51 : decode cX3_nextLine 51 = .ok (.ifCond .eq 5, 3) := by decide +kernel
theorem dX3_nextLine_54 : decode cX3_nextLine 54 = .ok (.aload_n 3, 1) := by decide +kernel
theorem dX3_nextLine_55 : decode cX3_nextLine 55 = .ok (.astore_n 1, 1) := by decide +kernel
theorem dX3_nextLine_56 : decode cX3_nextLine 56 = .ok (.iinc 2 1, 3) := by decide +kernel
theorem dX3_nextLine_59 : decode cX3_nextLine 59 = .ok (.goto (-55), 3) := by decide +kernel
theorem dX3_nextLine_62 : decode cX3_nextLine 62 = .ok (.aload_n 1, 1) := by decide +kernel
theorem dX3_nextLine_63 : decode cX3_nextLine 63 = .ok (.areturn, 1) := by decide +kernel
end
section
theorem dX4_init_0 : decode cX4_init 0 = .ok (.aload_n 0, 1) := by decide +kernel
theorem dX4_init_1 : decode cX4_init 1 = .ok (.invokespecial 1, 3) := by decide +kernel
theorem dX4_init_4 : decode cX4_init 4 = .ok (.aload_n 0, 1) := by decide +kernel
theorem dX4_init_5 : decode cX4_init 5 = .ok (.bipush 60, 2) := by decide +kernel
theorem dX4_init_7 : decode cX4_init 7 = .ok (.newarray .int, 2) := by decide +kernel
theorem dX4_init_9 : decode cX4_init 9 = .ok (.putfield 9, 3) := by decide +kernel
theorem dX4_init_12 : decode cX4_init 12 = .ok (.aload_n 0, 1) := by decide +kernel
theorem dX4_init_13 : decode cX4_init 13 = .ok (.bipush 20, 2) := by decide +kernel
theorem dX4_init_15 : decode cX4_init 15 = .ok (.putfield 13, 3) := by decide +kernel
theorem dX4_init_18 : decode cX4_init 18 = .ok (.aload_n 0, 1) := by decide +kernel
theorem dX4_init_19 : decode cX4_init 19 = .ok (.bipush 60, 2) := by decide +kernel
theorem dX4_init_21 : decode cX4_init 21 = .ok (.putfield 17, 3) := by decide +kernel
theorem dX4_init_24 : decode cX4_init 24 = .ok (.aload_n 0, 1) := by decide +kernel
theorem dX4_init_25 : decode cX4_init 25 = .ok (.sipush 2000, 3) := by decide +kernel
theorem dX4_init_28 : decode cX4_init 28 = .ok (.putfield 20, 3) := by decide +kernel
theorem dX4_init_31 : decode cX4_init 31 = .ok (.aload_n 0, 1) := by decide +kernel
theorem dX4_init_32 : decode cX4_init 32 = .ok (.sipush 366, 3) := by decide +kernel
theorem dX4_init_35 : decode cX4_init 35 = .ok (.newarray .int, 2) := by decide +kernel
theorem dX4_init_37 : decode cX4_init 37 = .ok (.putfield 23, 3) := by decide +kernel
theorem dX4_init_40 : decode cX4_init 40 = .ok (.aload_n 0, 1) := by decide +kernel
theorem dX4_init_41 : decode cX4_init 41 = .ok (.bipush 61, 2) := by decide +kernel
theorem dX4_init_43 : decode cX4_init 43 = .ok (.newarray .int, 2) := by decide +kernel
theorem dX4_init_45 : decode cX4_init 45 = .ok (.putfield 26, 3) := by decide +kernel
theorem dX4_init_48 : decode cX4_init 48 = .ok (.aload_n 0, 1) := by decide +kernel
theorem dX4_init_49 : decode cX4_init 49 = .ok (.bipush 20, 2) := by decide +kernel
theorem dX4_init_51 : decode cX4_init 51 = .ok (.newarray .int, 2) := by decide +kernel
theorem dX4_init_53 : decode cX4_init 53 = .ok (.putfield 29, 3) := by decide +kernel
theorem dX4_init_56 : decode cX4_init 56 = .ok (.aload_n 0, 1) := by decide +kernel
theorem dX4_init_57 : decode cX4_init 57 = .ok (.bipush 20, 2) := by decide +kernel
theorem dX4_init_59 : decode cX4_init 59 = .ok (.newarray .int, 2) := by decide +kernel
theorem dX4_init_61 : decode cX4_init 61 = .ok (.putfield 32, 3) := by decide +kernel
theorem dX4_init_64 : decode cX4_init 64 = .ok (.return_, 1) := by decide +kernel
theorem dX4_thrown_0 : decode cX4_thrown 0 = .ok (.aload_n 0, 1) := by decide +kernel
theorem dX4_thrown_1 : decode cX4_thrown 1 = .ok (.getfield 35, 3) := by decide +kernel
theorem dX4_thrown_4 : decode cX4_thrown 4 = .ok (.ireturn, 1) := by decide +kernel
theorem dX4_isIn_0 : decode cX4_isIn 0 = .ok (.iload_n 0, 1) := by decide +kernel
theorem dX4_isIn_1 : decode cX4_isIn 1 = .ok (.iload_n 1, 1) := by decide +kernel
theorem dX4_isIn_2 : decode cX4_isIn 2 = .ok (.if_icmp .lt 12, 3) := by decide +kernel
theorem dX4_isIn_5 : decode cX4_isIn 5 = .ok (.iload_n 0, 1) := by decide +kernel
theorem dX4_isIn_6 : decode cX4_isIn 6 = .ok (.iload_n 2, 1) := by decide +kernel
theorem dX4_isIn_7 : decode cX4_isIn 7 = .ok (.if_icmp .gt 7, 3) := by decide +kernel
theorem dX4_isIn_10 : decode cX4_isIn 10 = .ok (.iconst 1, 1) := by decide +kernel
theorem dX4_isIn_11 : decode cX4_isIn 11 = .ok (.goto 4, 3) := by decide +kernel
theorem dX4_isIn_14 : decode cX4_isIn 14 = .ok (.iconst 0, 1) := by decide +kernel
theorem dX4_isIn_15 : decode cX4_isIn 15 = .ok (.ireturn, 1) := by decide +kernel
set_option maxRecDepth 20000 in
theorem ggX4_isKind_X4_isIn : GoodIn wsX4_isKind wsX4_isIn := goodIn_r _ [5] (by decide +kernel) (by decide +kernel)
set_option maxRecDepth 20000 in
theorem gX4_isKind_X4_isIn : GoodIn wsX4_isKind (va_wsS RX4 41 yX4_isIn wsX4_isIn) := goodIn_app (goodIn_of _ (by decide +kernel)) ggX4_isKind_X4_isIn
theorem dX4_isKind_0 : decode cX4_isKind 0 = .ok (.iload_n 1, 1) := by decide +kernel
theorem dX4_isKind_1 : decode cX4_isKind 1 = .ok (.iconst 0, 1) := by decide +kernel
theorem dX4_isKind_2 : decode cX4_isKind 2 = .ok (.aload_n 0, 1) := by decide +kernel
theorem dX4_isKind_3 : decode cX4_isKind 3 = .ok (.getfield 38, 3) := by decide +kernel
theorem dX4_isKind_6 : decode cX4_isKind 6 = .ok (.iconst 1, 1) := by decide +kernel
theorem dX4_isKind_7 : decode cX4_isKind 7 = .ok (.isub, 1) := by decide +kernel
theorem dX4_isKind_8 : decode cX4_isKind 8 = .ok (.invokestatic 41, 3) := by decide +kernel
theorem dX4_isKind_11 : decode cX4_isKind 11 = .ok (.ireturn, 1) := by decide +kernel
theorem dX4_kind_0 : decode cX4_kind 0 = .ok (.aload_n 0, 1) := by decide +kernel
theorem dX4_kind_1 : decode cX4_kind 1 = .ok (.getfield 9, 3) := by decide +kernel
theorem dX4_kind_4 : decode cX4_kind 4 = .ok (.bipush 6, 2) := by decide +kernel
theorem dX4_kind_6 : decode cX4_kind 6 = .ok (.iload_n 1, 1) := by decide +kernel
theorem dX4_kind_7 : decode cX4_kind 7 = .ok (.imul, 1) := by decide +kernel
theorem dX4_kind_8 : decode cX4_kind 8 = .ok (.iload_n 2, 1) := by decide +kernel
theorem dX4_kind_9 : decode cX4_kind 9 = .ok (.iadd, 1) := by decide +kernel
theorem dX4_kind_10 : decode cX4_kind 10 = .ok (.iaload, 1) := by decide +kernel
theorem dX4_kind_11 : decode cX4_kind 11 = .ok (.ireturn, 1) := by decide +kernel
theorem dX4_canTurn_0 : decode cX4_canTurn 0 = .ok (.iload_n 0, 1) := by decide +kernel
theorem dX4_canTurn_1 : decode cX4_canTurn 1 = .ok (.iconst 2, 1) := by decide +kernel
theorem dX4_canTurn_2 : decode cX4_canTurn 2 = .ok (.irem, 1) := by decide +kernel
theorem dX4_canTurn_3 : decode cX4_canTurn 3 = .ok (.iconst 1, 1) := by decide +kernel
theorem dX4_canTurn_4 : decode cX4_canTurn 4 = .ok (.if_icmp .ne 7, 3) := by decide +kernel
theorem dX4_canTurn_7 : decode cX4_canTurn 7 = .ok (.iconst 1, 1) := by decide +kernel
theorem dX4_canTurn_8 : decode cX4_canTurn 8 = .ok (.goto 4, 3) := by decide +kernel
theorem dX4_canTurn_11 : decode cX4_canTurn 11 = .ok (.iconst 0, 1) := by decide +kernel
theorem dX4_canTurn_12 : decode cX4_canTurn 12 = .ok (.ireturn, 1) := by decide +kernel
theorem dX4_needsDeck_0 : decode cX4_needsDeck 0 = .ok (.iload_n 0, 1) := by decide +kernel
theorem dX4_needsDeck_1 : decode cX4_needsDeck 1 = .ok (.iconst 1, 1) := by decide +kernel
theorem dX4_needsDeck_2 : decode cX4_needsDeck 2 = .ok (.if_icmp .le 7, 3) := by decide +kernel
theorem dX4_needsDeck_5 : decode cX4_needsDeck 5 = .ok (.iconst 1, 1) := by decide +kernel
theorem dX4_needsDeck_6 : decode cX4_needsDeck 6 = .ok (.goto 4, 3) := by decide +kernel
theorem dX4_needsDeck_9 : decode cX4_needsDeck 9 = .ok (.iconst 0, 1) := by decide +kernel
theorem dX4_needsDeck_10 : decode cX4_needsDeck 10 = .ok (.ireturn, 1) := by decide +kernel
set_option maxRecDepth 20000 in
theorem ggX4_addKind_X4_isIn : GoodIn wsX4_addKind wsX4_isIn := goodIn_r _ [12] (by decide +kernel) (by decide +kernel)
set_option maxRecDepth 20000 in
theorem gX4_addKind_X4_isIn : GoodIn wsX4_addKind (va_wsS RX4 41 yX4_isIn wsX4_isIn) := goodIn_app (goodIn_of _ (by decide +kernel)) ggX4_addKind_X4_isIn
theorem dX4_addKind_0 : decode cX4_addKind 0 = .ok (.aload_n 0, 1) := by decide +kernel
theorem dX4_addKind_1 : decode cX4_addKind 1 = .ok (.iconst 0, 1) := by decide +kernel
theorem dX4_addKind_2 : decode cX4_addKind 2 = .ok (.putfield 35, 3) := by decide +kernel
theorem dX4_addKind_5 : decode cX4_addKind 5 = .ok (.iload_n 1, 1) := by decide +kernel
theorem dX4_addKind_6 : decode cX4_addKind 6 = .ok (.iconst 1, 1) := by decide +kernel
theorem dX4_addKind_7 : decode cX4_addKind 7 = .ok (.bipush 6, 2) := by decide +kernel
theorem dX4_addKind_9 : decode cX4_addKind 9 = .ok (.invokestatic 41, 3) := by decide +kernel
theorem dX4_addKind_12 : decode cX4_addKind 12 = .ok (.ifCond .eq 57, 3) := by decide +kernel
theorem dX4_addKind_15 : decode cX4_addKind 15 = .ok (.iload_n 2, 1) := by decide +kernel
theorem dX4_addKind_16 : decode cX4_addKind 16 = .ok (.iconst 1, 1) := by decide +kernel
theorem dX4_addKind_17 : decode cX4_addKind 17 = .ok (.bipush 6, 2) := by decide +kernel
theorem dX4_addKind_19 : decode cX4_addKind 19 = .ok (.invokestatic 41, 3) := by decide +kernel
theorem dX4_addKind_22 : decode cX4_addKind 22 = .ok (.ifCond .eq 47, 3) := by decide +kernel
theorem dX4_addKind_25 : decode cX4_addKind 25 = .ok (.iload_n 3, 1) := by decide +kernel
theorem dX4_addKind_26 : decode cX4_addKind 26 = .ok (.iconst 1, 1) := by decide +kernel
theorem dX4_addKind_27 : decode cX4_addKind 27 = .ok (.bipush 8, 2) := by decide +kernel
theorem dX4_addKind_29 : decode cX4_addKind 29 = .ok (.invokestatic 41, 3) := by decide +kernel
theorem dX4_addKind_32 : decode cX4_addKind 32 = .ok (.ifCond .eq 37, 3) := by decide +kernel
theorem dX4_addKind_35 : decode cX4_addKind 35 = .ok (.iload 4, 2) := by decide +kernel
theorem dX4_addKind_37 : decode cX4_addKind 37 = .ok (.iconst 1, 1) := by decide +kernel
theorem dX4_addKind_38 : decode cX4_addKind 38 = .ok (.sipush 500, 3) := by decide +kernel
theorem dX4_addKind_41 : decode cX4_addKind 41 = .ok (.invokestatic 41, 3) := by decide +kernel
theorem dX4_addKind_44 : decode cX4_addKind 44 = .ok (.ifCond .eq 25, 3) := by decide +kernel
theorem dX4_addKind_47 : decode cX4_addKind 47 = .ok (.iload 5, 2) := by decide +kernel
theorem dX4_addKind_49 : decode cX4_addKind 49 = .ok (.iconst 0, 1) := by decide +kernel
theorem dX4_addKind_50 : decode cX4_addKind 50 = .ok (.sipush 5000, 3) := by decide +kernel
theorem dX4_addKind_53 : decode cX4_addKind 53 = .ok (.invokestatic 41, 3) := by decide +kernel
theorem dX4_addKind_56 : decode cX4_addKind 56 = .ok (.ifCond .eq 13, 3) := by decide +kernel
theorem dX4_addKind_59 : decode cX4_addKind 59 = .ok (.iload 6, 2) := by decide +kernel
theorem dX4_addKind_61 : decode cX4_addKind 61 = .ok (.iconst 0, 1) := by decide +kernel
theorem dX4_addKind_62 : decode cX4_addKind 62 = .ok (.iconst 3, 1) := by decide +kernel
theorem dX4_addKind_63 : decode cX4_addKind 63 = .ok (.invokestatic 41, 3) := by decide +kernel
theorem dX4_addKind_66 : decode cX4_addKind 66 = .ok (.ifCond .ne 9, 3) := by decide +kernel
theorem dX4_addKind_69 : decode cX4_addKind 69 = .ok (.aload_n 0, 1) := by decide +kernel
theorem dX4_addKind_70 : decode cX4_addKind 70 = .ok (.iconst 1, 1) := by decide +kernel
theorem dX4_addKind_71 : decode cX4_addKind 71 = .ok (.invokevirtual 45, 3) := by decide +kernel
theorem dX4_addKind_74 : decode cX4_addKind 74 = .ok (.ireturn, 1) := by decide +kernel
theorem dX4_addKind_75 : decode cX4_addKind 75 = .ok (.aload_n 0, 1) := by decide +kernel
theorem dX4_addKind_76 : decode cX4_addKind 76 = .ok (.getfield 38, 3) := by decide +kernel
theorem dX4_addKind_79 : decode cX4_addKind 79 = .ok (.bipush 10, 2) := by decide +kernel
theorem dX4_addKind_81 : decode cX4_addKind 81 = .ok (.if_icmp .ne 9, 3) := by decide +kernel
theorem dX4_addKind_84 : decode cX4_addKind 84 = .ok (.aload_n 0, 1) := by decide +kernel
theorem dX4_addKind_85 : decode cX4_addKind 85 = .ok (.iconst 2, 1) := by decide +kernel
theorem dX4_addKind_86 : decode cX4_addKind 86 = .ok (.invokevirtual 45, 3) := by decide +kernel
theorem dX4_addKind_89 : decode cX4_addKind 89 = .ok (.ireturn, 1) := by decide +kernel
theorem dX4_addKind_90 : decode cX4_addKind 90 = .ok (.bipush 6, 2) := by decide +kernel
theorem dX4_addKind_92 : decode cX4_addKind 92 = .ok (.newarray .int, 2) := by decide +kernel
theorem dX4_addKind_94 : decode cX4_addKind 94 = .ok (.dup, 1) := by decide +kernel
theorem dX4_addKind_95 : decode cX4_addKind 95 = .ok (.iconst 0, 1) := by decide +kernel
theorem dX4_addKind_96 : decode cX4_addKind 96 = .ok (.iload_n 1, 1) := by decide +kernel
theorem dX4_addKind_97 : decode cX4_addKind 97 = .ok (.iastore, 1) := by decide +kernel
theorem dX4_addKind_98 : decode cX4_addKind 98 = .ok (.dup, 1) := by decide +kernel
theorem dX4_addKind_99 : decode cX4_addKind 99 = .ok (.iconst 1, 1) := by decide +kernel
theorem dX4_addKind_100 : decode cX4_addKind 100 = .ok (.iload_n 2, 1) := by decide +kernel
theorem dX4_addKind_101 : decode cX4_addKind 101 = .ok (.iastore, 1) := by decide +kernel
theorem dX4_addKind_102 : decode cX4_addKind 102 = .ok (.dup, 1) := by decide +kernel
theorem dX4_addKind_103 : decode cX4_addKind 103 = .ok (.iconst 2, 1) := by decide +kernel
theorem dX4_addKind_104 : decode cX4_addKind 104 = .ok (.iload_n 3, 1) := by decide +kernel
theorem dX4_addKind_105 : decode cX4_addKind 105 = .ok (.iastore, 1) := by decide +kernel
theorem dX4_addKind_106 : decode cX4_addKind 106 = .ok (.dup, 1) := by decide +kernel
theorem dX4_addKind_107 : decode cX4_addKind 107 = .ok (.iconst 3, 1) := by decide +kernel
theorem dX4_addKind_108 : decode cX4_addKind 108 = .ok (.iload 4, 2) := by decide +kernel
theorem dX4_addKind_110 : decode cX4_addKind 110 = .ok (.iastore, 1) := by decide +kernel
theorem dX4_addKind_111 : decode cX4_addKind 111 = .ok (.dup, 1) := by decide +kernel
theorem dX4_addKind_112 : decode cX4_addKind 112 = .ok (.iconst 4, 1) := by decide +kernel
theorem dX4_addKind_113 : decode cX4_addKind 113 = .ok (.iload 5, 2) := by decide +kernel
theorem dX4_addKind_115 : decode cX4_addKind 115 = .ok (.iastore, 1) := by decide +kernel
theorem dX4_addKind_116 : decode cX4_addKind 116 = .ok (.dup, 1) := by decide +kernel
theorem dX4_addKind_117 : decode cX4_addKind 117 = .ok (.iconst 5, 1) := by decide +kernel
theorem dX4_addKind_118 : decode cX4_addKind 118 = .ok (.iload 6, 2) := by decide +kernel
theorem dX4_addKind_120 : decode cX4_addKind 120 = .ok (.iastore, 1) := by decide +kernel
theorem dX4_addKind_121 : decode cX4_addKind 121 = .ok (.astore 7, 2) := by decide +kernel
theorem dX4_addKind_123 : decode cX4_addKind 123 = .ok (.aload 7, 2) := by decide +kernel
theorem dX4_addKind_125 : decode cX4_addKind 125 = .ok (.iconst 0, 1) := by decide +kernel
theorem dX4_addKind_126 : decode cX4_addKind 126 = .ok (.aload_n 0, 1) := by decide +kernel
theorem dX4_addKind_127 : decode cX4_addKind 127 = .ok (.getfield 9, 3) := by decide +kernel
theorem dX4_addKind_130 : decode cX4_addKind 130 = .ok (.bipush 6, 2) := by decide +kernel
theorem dX4_addKind_132 : decode cX4_addKind 132 = .ok (.aload_n 0, 1) := by decide +kernel
theorem dX4_addKind_133 : decode cX4_addKind 133 = .ok (.getfield 38, 3) := by decide +kernel
theorem dX4_addKind_136 : decode cX4_addKind 136 = .ok (.imul, 1) := by decide +kernel
theorem dX4_addKind_137 : decode cX4_addKind 137 = .ok (.bipush 6, 2) := by decide +kernel
theorem dX4_addKind_139 : decode cX4_addKind 139 = .ok (.invokestatic 49, 3) := by decide +kernel
theorem dX4_addKind_142 : decode cX4_addKind 142 = .ok (.aload_n 0, 1) := by decide +kernel
theorem dX4_addKind_143 : decode cX4_addKind 143 = .ok (.dup, 1) := by decide +kernel
theorem dX4_addKind_144 : decode cX4_addKind 144 = .ok (.getfield 38, 3) := by decide +kernel
theorem dX4_addKind_147 : decode cX4_addKind 147 = .ok (.iconst 1, 1) := by decide +kernel
theorem dX4_addKind_148 : decode cX4_addKind 148 = .ok (.iadd, 1) := by decide +kernel
theorem dX4_addKind_149 : decode cX4_addKind 149 = .ok (.putfield 38, 3) := by decide +kernel
theorem dX4_addKind_152 : decode cX4_addKind 152 = .ok (.aload_n 0, 1) := by decide +kernel
theorem dX4_addKind_153 : decode cX4_addKind 153 = .ok (.getfield 38, 3) := by decide +kernel
theorem dX4_addKind_156 : decode cX4_addKind 156 = .ok (.iconst 1, 1) := by decide +kernel
theorem dX4_addKind_157 : decode cX4_addKind 157 = .ok (.isub, 1) := by decide +kernel
theorem dX4_addKind_158 : decode cX4_addKind 158 = .ok (.ireturn, 1) := by decide +kernel
set_option maxRecDepth 20000 in
theorem ggX4_setRules_X4_isIn : GoodIn wsX4_setRules wsX4_isIn := goodIn_r _ [9] (by decide +kernel) (by decide +kernel)
set_option maxRecDepth 20000 in
theorem gX4_setRules_X4_isIn : GoodIn wsX4_setRules (va_wsS RX4 41 yX4_isIn wsX4_isIn) := goodIn_app (goodIn_of _ (by decide +kernel)) ggX4_setRules_X4_isIn
theorem dX4_setRules_0 : decode cX4_setRules 0 = .ok (.aload_n 0, 1) := by decide +kernel
theorem dX4_setRules_1 : decode cX4_setRules 1 = .ok (.iconst 0, 1) := by decide +kernel
theorem dX4_setRules_2 : decode cX4_setRules 2 = .ok (.putfield 35, 3) := by decide +kernel
theorem dX4_setRules_5 : decode cX4_setRules 5 = .ok (.iload_n 1, 1) := by decide +kernel
theorem dX4_setRules_6 : decode cX4_setRules 6 = .ok (.iconst 1, 1) := by decide +kernel
theorem dX4_setRules_7 : decode cX4_setRules 7 = .ok (.bipush 40, 2) := by decide +kernel
theorem dX4_setRules_9 : decode cX4_setRules 9 = .ok (.invokestatic 41, 3) := by decide +kernel
theorem dX4_setRules_12 : decode cX4_setRules 12 = .ok (.ifCond .eq 24, 3) := by decide +kernel
theorem dX4_setRules_15 : decode cX4_setRules 15 = .ok (.iload_n 2, 1) := by decide +kernel
theorem dX4_setRules_16 : decode cX4_setRules 16 = .ok (.iconst 0, 1) := by decide +kernel
theorem dX4_setRules_17 : decode cX4_setRules 17 = .ok (.bipush 100, 2) := by decide +kernel
theorem dX4_setRules_19 : decode cX4_setRules 19 = .ok (.invokestatic 41, 3) := by decide +kernel
theorem dX4_setRules_22 : decode cX4_setRules 22 = .ok (.ifCond .eq 14, 3) := by decide +kernel
theorem dX4_setRules_25 : decode cX4_setRules 25 = .ok (.iload_n 3, 1) := by decide +kernel
theorem dX4_setRules_26 : decode cX4_setRules 26 = .ok (.iconst 1, 1) := by decide +kernel
theorem dX4_setRules_27 : decode cX4_setRules 27 = .ok (.sipush 20000, 3) := by decide +kernel
theorem dX4_setRules_30 : decode cX4_setRules 30 = .ok (.invokestatic 41, 3) := by decide +kernel
theorem dX4_setRules_33 : decode cX4_setRules 33 = .ok (.ifCond .ne 9, 3) := by decide +kernel
theorem dX4_setRules_36 : decode cX4_setRules 36 = .ok (.aload_n 0, 1) := by decide +kernel
theorem dX4_setRules_37 : decode cX4_setRules 37 = .ok (.iconst 1, 1) := by decide +kernel
theorem dX4_setRules_38 : decode cX4_setRules 38 = .ok (.invokevirtual 45, 3) := by decide +kernel
theorem dX4_setRules_41 : decode cX4_setRules 41 = .ok (.ireturn, 1) := by decide +kernel
theorem dX4_setRules_42 : decode cX4_setRules 42 = .ok (.aload_n 0, 1) := by decide +kernel
theorem dX4_setRules_43 : decode cX4_setRules 43 = .ok (.getfield 13, 3) := by decide +kernel
theorem dX4_setRules_46 : decode cX4_setRules 46 = .ok (.istore 5, 2) := by decide +kernel
theorem dX4_setRules_48 : decode cX4_setRules 48 = .ok (.aload_n 0, 1) := by decide +kernel
theorem dX4_setRules_49 : decode cX4_setRules 49 = .ok (.iload_n 1, 1) := by decide +kernel
theorem dX4_setRules_50 : decode cX4_setRules 50 = .ok (.putfield 13, 3) := by decide +kernel
theorem dX4_setRules_53 : decode cX4_setRules 53 = .ok (.aload_n 0, 1) := by decide +kernel
theorem dX4_setRules_54 : decode cX4_setRules 54 = .ok (.iload_n 2, 1) := by decide +kernel
theorem dX4_setRules_55 : decode cX4_setRules 55 = .ok (.putfield 17, 3) := by decide +kernel
theorem dX4_setRules_58 : decode cX4_setRules 58 = .ok (.aload_n 0, 1) := by decide +kernel
theorem dX4_setRules_59 : decode cX4_setRules 59 = .ok (.iload_n 3, 1) := by decide +kernel
theorem dX4_setRules_60 : decode cX4_setRules 60 = .ok (.putfield 20, 3) := by decide +kernel
theorem dX4_setRules_63 : decode cX4_setRules 63 = .ok (.aload_n 0, 1) := by decide +kernel
theorem dX4_setRules_64 : decode cX4_setRules 64 = .ok (.iload 4, 2) := by decide +kernel
theorem dX4_setRules_66 : decode cX4_setRules 66 = .ok (.putfield 55, 3) := by decide +kernel
theorem dX4_setRules_69 : decode cX4_setRules 69 = .ok (.iload 5, 2) := by decide +kernel
theorem dX4_setRules_71 : decode cX4_setRules 71 = .ok (.ireturn, 1) := by decide +kernel
theorem dX4_get_0 : decode cX4_get 0 = .ok (.aload_n 0, 1) := by decide +kernel
theorem dX4_get_1 : decode cX4_get 1 = .ok (.getfield 23, 3) := by decide +kernel
theorem dX4_get_4 : decode cX4_get 4 = .ok (.bipush 6, 2) := by decide +kernel
theorem dX4_get_6 : decode cX4_get 6 = .ok (.iload_n 1, 1) := by decide +kernel
theorem dX4_get_7 : decode cX4_get 7 = .ok (.imul, 1) := by decide +kernel
theorem dX4_get_8 : decode cX4_get 8 = .ok (.iload_n 2, 1) := by decide +kernel
theorem dX4_get_9 : decode cX4_get 9 = .ok (.iadd, 1) := by decide +kernel
theorem dX4_get_10 : decode cX4_get 10 = .ok (.iaload, 1) := by decide +kernel
theorem dX4_get_11 : decode cX4_get 11 = .ok (.ireturn, 1) := by decide +kernel
set_option maxRecDepth 20000 in
theorem ggX4_topOf_X4_get : GoodIn wsX4_topOf wsX4_get := goodIn_r _ [5, 6, 12, 13, 14, 15, 16, 17, 18, 19, 20, 21, 22, 23, 24, 25] (by decide +kernel) (by decide +kernel)
set_option maxRecDepth 20000 in
theorem gX4_topOf_X4_get : GoodIn wsX4_topOf (wsV RX4 76 RX4 yX4_get wsX4_get) := goodIn_app (goodIn_of _ (by decide +kernel)) ggX4_topOf_X4_get
set_option maxRecDepth 20000 in
theorem ggX4_topOf_X4_kind : GoodIn wsX4_topOf wsX4_kind := goodIn_r _ [10, 11, 12, 13, 14, 15, 16, 17, 18, 19, 20, 21, 22, 23, 24, 25] (by decide +kernel) (by decide +kernel)
set_option maxRecDepth 20000 in
theorem gX4_topOf_X4_kind : GoodIn wsX4_topOf (wsV RX4 80 RX4 yX4_kind wsX4_kind) := goodIn_app (goodIn_of _ (by decide +kernel)) ggX4_topOf_X4_kind
theorem dX4_topOf_0 : decode cX4_topOf 0 = .ok (.aload_n 0, 1) := by decide +kernel
theorem dX4_topOf_1 : decode cX4_topOf 1 = .ok (.iload_n 1, 1) := by decide +kernel
theorem dX4_topOf_2 : decode cX4_topOf 2 = .ok (.iconst 3, 1) := by decide +kernel
theorem dX4_topOf_3 : decode cX4_topOf 3 = .ok (.invokevirtual 76, 3) := by decide +kernel
theorem dX4_topOf_6 : decode cX4_topOf 6 = .ok (.aload_n 0, 1) := by decide +kernel
theorem dX4_topOf_7 : decode cX4_topOf 7 = .ok (.aload_n 0, 1) := by decide +kernel
theorem dX4_topOf_8 : decode cX4_topOf 8 = .ok (.iload_n 1, 1) := by decide +kernel
theorem dX4_topOf_9 : decode cX4_topOf 9 = .ok (.iconst 0, 1) := by decide +kernel
theorem dX4_topOf_10 : decode cX4_topOf 10 = .ok (.invokevirtual 76, 3) := by decide +kernel
theorem dX4_topOf_13 : decode cX4_topOf 13 = .ok (.iconst 2, 1) := by decide +kernel
theorem dX4_topOf_14 : decode cX4_topOf 14 = .ok (.invokevirtual 80, 3) := by decide +kernel
theorem dX4_topOf_17 : decode cX4_topOf 17 = .ok (.iadd, 1) := by decide +kernel
theorem dX4_topOf_18 : decode cX4_topOf 18 = .ok (.ireturn, 1) := by decide +kernel
set_option maxRecDepth 20000 in
theorem ggX4_lay_X4_topOf : GoodIn wsX4_lay wsX4_topOf := goodIn_r _ [47, 21, 22, 23, 15, 24, 2, 29, 30, 31, 32, 33, 48, 49, 50, 51, 52, 53, 54, 55, 56, 57, 58, 59, 60, 61] (by decide +kernel) (by decide +kernel)
set_option maxRecDepth 20000 in
theorem gX4_lay_X4_topOf : GoodIn wsX4_lay (wsV RX4 101 RX4 yX4_topOf wsX4_topOf) := goodIn_app (goodIn_of _ (by decide +kernel)) ggX4_lay_X4_topOf
theorem dX4_lay_0 : decode cX4_lay 0 = .ok (.bipush 6, 2) := by decide +kernel
theorem dX4_lay_2 : decode cX4_lay 2 = .ok (.newarray .int, 2) := by decide +kernel
theorem dX4_lay_4 : decode cX4_lay 4 = .ok (.dup, 1) := by decide +kernel
theorem dX4_lay_5 : decode cX4_lay 5 = .ok (.iconst 0, 1) := by decide +kernel
theorem dX4_lay_6 : decode cX4_lay 6 = .ok (.iload_n 2, 1) := by decide +kernel
theorem dX4_lay_7 : decode cX4_lay 7 = .ok (.iastore, 1) := by decide +kernel
theorem dX4_lay_8 : decode cX4_lay 8 = .ok (.dup, 1) := by decide +kernel
theorem dX4_lay_9 : decode cX4_lay 9 = .ok (.iconst 1, 1) := by decide +kernel
theorem dX4_lay_10 : decode cX4_lay 10 = .ok (.iload_n 3, 1) := by decide +kernel
theorem dX4_lay_11 : decode cX4_lay 11 = .ok (.iastore, 1) := by decide +kernel
theorem dX4_lay_12 : decode cX4_lay 12 = .ok (.dup, 1) := by decide +kernel
theorem dX4_lay_13 : decode cX4_lay 13 = .ok (.iconst 2, 1) := by decide +kernel
theorem dX4_lay_14 : decode cX4_lay 14 = .ok (.iload 4, 2) := by decide +kernel
theorem dX4_lay_16 : decode cX4_lay 16 = .ok (.iastore, 1) := by decide +kernel
theorem dX4_lay_17 : decode cX4_lay 17 = .ok (.dup, 1) := by decide +kernel
theorem dX4_lay_18 : decode cX4_lay 18 = .ok (.iconst 3, 1) := by decide +kernel
theorem dX4_lay_19 : decode cX4_lay 19 = .ok (.iconst 0, 1) := by decide +kernel
theorem dX4_lay_20 : decode cX4_lay 20 = .ok (.iastore, 1) := by decide +kernel
theorem dX4_lay_21 : decode cX4_lay 21 = .ok (.dup, 1) := by decide +kernel
theorem dX4_lay_22 : decode cX4_lay 22 = .ok (.iconst 4, 1) := by decide +kernel
theorem dX4_lay_23 : decode cX4_lay 23 = .ok (.iload 5, 2) := by decide +kernel
theorem dX4_lay_25 : decode cX4_lay 25 = .ok (.ifCond .eq 7, 3) := by decide +kernel
theorem dX4_lay_28 : decode cX4_lay 28 = .ok (.iconst 1, 1) := by decide +kernel
theorem dX4_lay_29 : decode cX4_lay 29 = .ok (.goto 4, 3) := by decide +kernel
theorem dX4_lay_32 : decode cX4_lay 32 = .ok (.iconst 0, 1) := by decide +kernel
theorem dX4_lay_33 : decode cX4_lay 33 = .ok (.iastore, 1) := by decide +kernel
theorem dX4_lay_34 : decode cX4_lay 34 = .ok (.dup, 1) := by decide +kernel
theorem dX4_lay_35 : decode cX4_lay 35 = .ok (.iconst 5, 1) := by decide +kernel
theorem dX4_lay_36 : decode cX4_lay 36 = .ok (.iconst 0, 1) := by decide +kernel
theorem dX4_lay_37 : decode cX4_lay 37 = .ok (.iastore, 1) := by decide +kernel
theorem dX4_lay_38 : decode cX4_lay 38 = .ok (.astore 6, 2) := by decide +kernel
theorem dX4_lay_40 : decode cX4_lay 40 = .ok (.aload 6, 2) := by decide +kernel
theorem dX4_lay_42 : decode cX4_lay 42 = .ok (.iconst 0, 1) := by decide +kernel
theorem dX4_lay_43 : decode cX4_lay 43 = .ok (.aload_n 0, 1) := by decide +kernel
theorem dX4_lay_44 : decode cX4_lay 44 = .ok (.getfield 23, 3) := by decide +kernel
theorem dX4_lay_47 : decode cX4_lay 47 = .ok (.bipush 6, 2) := by decide +kernel
theorem dX4_lay_49 : decode cX4_lay 49 = .ok (.iload_n 1, 1) := by decide +kernel
theorem dX4_lay_50 : decode cX4_lay 50 = .ok (.imul, 1) := by decide +kernel
theorem dX4_lay_51 : decode cX4_lay 51 = .ok (.bipush 6, 2) := by decide +kernel
theorem dX4_lay_53 : decode cX4_lay 53 = .ok (.invokestatic 49, 3) := by decide +kernel
theorem dX4_lay_56 : decode cX4_lay 56 = .ok (.iconst 0, 1) := by decide +kernel
theorem dX4_lay_57 : decode cX4_lay 57 = .ok (.istore 7, 2) := by decide +kernel
theorem dX4_lay_59 : decode cX4_lay 59 = .ok (.iconst 0, 1) := by decide +kernel
theorem dX4_lay_60 : decode cX4_lay 60 = .ok (.istore 8, 2) := by decide +kernel
theorem dX4_lay_62 : decode cX4_lay 62 = .ok (.iload 8, 2) := by decide +kernel
theorem dX4_lay_64 : decode cX4_lay 64 = .ok (.aload_n 0, 1) := by decide +kernel
theorem dX4_lay_65 : decode cX4_lay 65 = .ok (.getfield 59, 3) := by decide +kernel
theorem dX4_lay_68 : decode cX4_lay 68 = .ok (.if_icmp .ge 41, 3) := by decide +kernel
theorem dX4_lay_71 : decode cX4_lay 71 = .ok (.aload_n 0, 1) := by decide +kernel
theorem dX4_lay_72 : decode cX4_lay 72 = .ok (.iload 8, 2) := by decide +kernel
theorem dX4_lay_74 : decode cX4_lay 74 = .ok (.invokevirtual 62, 3) := by decide +kernel
theorem dX4_lay_77 : decode cX4_lay 77 = .ok (.ifCond .eq 26, 3) := by decide +kernel
theorem dX4_lay_80 : decode cX4_lay 80 = .ok (.aload_n 0, 1) := by decide +kernel
theorem dX4_lay_81 : decode cX4_lay 81 = .ok (.iload_n 1, 1) := by decide +kernel
theorem dX4_lay_82 : decode cX4_lay 82 = .ok (.iload 8, 2) := by decide +kernel
theorem dX4_lay_84 : decode cX4_lay 84 = .ok (.invokevirtual 104, 3) := by decide +kernel
theorem dX4_lay_87 : decode cX4_lay 87 = .ok (.ifCond .le 16, 3) := by decide +kernel
theorem dX4_lay_90 : decode cX4_lay 90 = .ok (.iload 7, 2) := by decide +kernel
theorem dX4_lay_92 : decode cX4_lay 92 = .ok (.aload_n 0, 1) := by decide +kernel
theorem dX4_lay_93 : decode cX4_lay 93 = .ok (.iload 8, 2) := by decide +kernel
theorem dX4_lay_95 : decode cX4_lay 95 = .ok (.invokevirtual 101, 3) := by decide +kernel
theorem dX4_lay_98 : decode cX4_lay 98 = .ok (.invokestatic 94, 3) := by decide +kernel
theorem dX4_lay_101 : decode cX4_lay 101 = .ok (.istore 7, 2) := by decide +kernel
theorem dX4_lay_103 : decode cX4_lay 103 = .ok (.iinc 8 1, 3) := by decide +kernel
theorem dX4_lay_106 : decode cX4_lay 106 = .ok (.goto (-44), 3) := by decide +kernel
theorem dX4_lay_109 : decode cX4_lay 109 = .ok (.aload_n 0, 1) := by decide +kernel
theorem dX4_lay_110 : decode cX4_lay 110 = .ok (.getfield 23, 3) := by decide +kernel
theorem dX4_lay_113 : decode cX4_lay 113 = .ok (.bipush 6, 2) := by decide +kernel
theorem dX4_lay_115 : decode cX4_lay 115 = .ok (.iload_n 1, 1) := by decide +kernel
theorem dX4_lay_116 : decode cX4_lay 116 = .ok (.imul, 1) := by decide +kernel
theorem dX4_lay_117 : decode cX4_lay 117 = .ok (.iconst 3, 1) := by decide +kernel
theorem dX4_lay_118 : decode cX4_lay 118 = .ok (.iadd, 1) := by decide +kernel
theorem dX4_lay_119 : decode cX4_lay 119 = .ok (.iload 7, 2) := by decide +kernel
theorem dX4_lay_121 : decode cX4_lay 121 = .ok (.iastore, 1) := by decide +kernel
theorem dX4_lay_122 : decode cX4_lay 122 = .ok (.return_, 1) := by decide +kernel
set_option maxRecDepth 20000 in
theorem ggX4_why_X4_kind : GoodIn wsX4_why wsX4_kind := goodIn_r _ [11, 12, 107, 108, 109, 110, 111, 112, 113, 114, 115, 116, 117, 118, 119, 120] (by decide +kernel) (by decide +kernel)
set_option maxRecDepth 20000 in
theorem gX4_why_X4_kind : GoodIn wsX4_why (wsV RX4 80 RX4 yX4_kind wsX4_kind) := goodIn_app (goodIn_of _ (by decide +kernel)) ggX4_why_X4_kind
set_option maxRecDepth 20000 in
theorem ggX4_why_X4_canTurn : GoodIn wsX4_why wsX4_canTurn := goodIn_r _ [15] (by decide +kernel) (by decide +kernel)
set_option maxRecDepth 20000 in
theorem gX4_why_X4_canTurn : GoodIn wsX4_why (va_wsS RX4 129 yX4_canTurn wsX4_canTurn) := goodIn_app (goodIn_of _ (by decide +kernel)) ggX4_why_X4_canTurn
set_option maxRecDepth 20000 in
theorem ggX4_why_X4_isIn : GoodIn wsX4_why wsX4_isIn := goodIn_r _ [18] (by decide +kernel) (by decide +kernel)
set_option maxRecDepth 20000 in
theorem gX4_why_X4_isIn : GoodIn wsX4_why (va_wsS RX4 41 yX4_isIn wsX4_isIn) := goodIn_app (goodIn_of _ (by decide +kernel)) ggX4_why_X4_isIn
set_option maxRecDepth 20000 in
theorem ggX4_why_X4_lay : GoodIn wsX4_why wsX4_lay := goodIn_r _ [22, 23, 2, 24, 25, 26, 27, 28, 29, 30, 31, 32, 33, 34, 35, 10, 36, 37, 38, 39, 40, 41, 42, 43, 44, 45, 46, 47, 48, 7, 8, 9, 11, 12, 49, 50, 51, 52, 53, 54, 55, 56, 57, 58, 59, 60, 61, 62, 107, 108, 109, 110, 111, 112, 113, 114, 115, 116, 117, 118, 119, 120] (by decide +kernel) (by decide +kernel)
set_option maxRecDepth 20000 in
theorem gX4_why_X4_lay : GoodIn wsX4_why (wsV RX4 132 RX4 yX4_lay wsX4_lay) := goodIn_app (goodIn_of _ (by decide +kernel)) ggX4_why_X4_lay
set_option maxRecDepth 20000 in
theorem ggX4_why_X4_topOf : GoodIn wsX4_why wsX4_topOf := goodIn_r _ [62, 41, 42, 43, 10, 44, 2, 7, 8, 9, 11, 12, 107, 108, 109, 110, 111, 112, 113, 114, 115, 116, 117, 118, 119, 120] (by decide +kernel) (by decide +kernel)
set_option maxRecDepth 20000 in
theorem gX4_why_X4_topOf : GoodIn wsX4_why (wsV RX4 101 RX4 yX4_topOf wsX4_topOf) := goodIn_app (goodIn_of _ (by decide +kernel)) ggX4_why_X4_topOf
set_option maxRecDepth 20000 in
theorem ggX4_why_X4_needsDeck : GoodIn wsX4_why wsX4_needsDeck := goodIn_r _ [65] (by decide +kernel) (by decide +kernel)
set_option maxRecDepth 20000 in
theorem gX4_why_X4_needsDeck : GoodIn wsX4_why (va_wsS RX4 136 yX4_needsDeck wsX4_needsDeck) := goodIn_app (goodIn_of _ (by decide +kernel)) ggX4_why_X4_needsDeck
set_option maxRecDepth 20000 in
theorem ggX4_why_X4_get : GoodIn wsX4_why wsX4_get := goodIn_r _ [44, 2, 107, 108, 109, 110, 111, 112, 113, 114, 115, 116, 117, 118, 119, 120] (by decide +kernel) (by decide +kernel)
set_option maxRecDepth 20000 in
theorem gX4_why_X4_get : GoodIn wsX4_why (wsV RX4 76 RX4 yX4_get wsX4_get) := goodIn_app (goodIn_of _ (by decide +kernel)) ggX4_why_X4_get
theorem dX4_why_0 : decode cX4_why 0 = .ok (.aload_n 0, 1) := by decide +kernel
theorem dX4_why_1 : decode cX4_why 1 = .ok (.iload_n 1, 1) := by decide +kernel
theorem dX4_why_2 : decode cX4_why 2 = .ok (.iconst 5, 1) := by decide +kernel
theorem dX4_why_3 : decode cX4_why 3 = .ok (.invokevirtual 80, 3) := by decide +kernel
theorem dX4_why_6 : decode cX4_why 6 = .ok (.istore 5, 2) := by decide +kernel
theorem dX4_why_8 : decode cX4_why 8 = .ok (.iload 4, 2) := by decide +kernel
theorem dX4_why_10 : decode cX4_why 10 = .ok (.ifCond .eq 13, 3) := by decide +kernel
theorem dX4_why_13 : decode cX4_why 13 = .ok (.iload 5, 2) := by decide +kernel
theorem dX4_why_15 : decode cX4_why 15 = .ok (.invokestatic 129, 3) := by decide +kernel
theorem dX4_why_18 : decode cX4_why 18 = .ok (.ifCond .ne 5, 3) := by decide +kernel
theorem dX4_why_21 : decode cX4_why 21 = .ok (.iconst 1, 1) := by decide +kernel
theorem dX4_why_22 : decode cX4_why 22 = .ok (.ireturn, 1) := by decide +kernel
theorem dX4_why_23 : decode cX4_why 23 = .ok (.aload_n 0, 1) := by decide +kernel
theorem dX4_why_24 : decode cX4_why 24 = .ok (.iload_n 1, 1) := by decide +kernel
theorem dX4_why_25 : decode cX4_why 25 = .ok (.iload 4, 2) := by decide +kernel
theorem dX4_why_27 : decode cX4_why 27 = .ok (.ifCond .eq 7, 3) := by decide +kernel
theorem dX4_why_30 : decode cX4_why 30 = .ok (.iconst 1, 1) := by decide +kernel
theorem dX4_why_31 : decode cX4_why 31 = .ok (.goto 4, 3) := by decide +kernel
theorem dX4_why_34 : decode cX4_why 34 = .ok (.iconst 0, 1) := by decide +kernel
theorem dX4_why_35 : decode cX4_why 35 = .ok (.invokevirtual 80, 3) := by decide +kernel
theorem dX4_why_38 : decode cX4_why 38 = .ok (.istore 6, 2) := by decide +kernel
theorem dX4_why_40 : decode cX4_why 40 = .ok (.aload_n 0, 1) := by decide +kernel
theorem dX4_why_41 : decode cX4_why 41 = .ok (.iload_n 1, 1) := by decide +kernel
theorem dX4_why_42 : decode cX4_why 42 = .ok (.iload 4, 2) := by decide +kernel
theorem dX4_why_44 : decode cX4_why 44 = .ok (.ifCond .eq 7, 3) := by decide +kernel
theorem dX4_why_47 : decode cX4_why 47 = .ok (.iconst 0, 1) := by decide +kernel
theorem dX4_why_48 : decode cX4_why 48 = .ok (.goto 4, 3) := by decide +kernel
theorem dX4_why_51 : decode cX4_why 51 = .ok (.iconst 1, 1) := by decide +kernel
theorem dX4_why_52 : decode cX4_why 52 = .ok (.invokevirtual 80, 3) := by decide +kernel
theorem dX4_why_55 : decode cX4_why 55 = .ok (.istore 7, 2) := by decide +kernel
theorem dX4_why_57 : decode cX4_why 57 = .ok (.iload_n 2, 1) := by decide +kernel
theorem dX4_why_58 : decode cX4_why 58 = .ok (.iconst 0, 1) := by decide +kernel
theorem dX4_why_59 : decode cX4_why 59 = .ok (.bipush 12, 2) := by decide +kernel
theorem dX4_why_61 : decode cX4_why 61 = .ok (.iload 6, 2) := by decide +kernel
theorem dX4_why_63 : decode cX4_why 63 = .ok (.isub, 1) := by decide +kernel
theorem dX4_why_64 : decode cX4_why 64 = .ok (.invokestatic 41, 3) := by decide +kernel
theorem dX4_why_67 : decode cX4_why 67 = .ok (.ifCond .eq 16, 3) := by decide +kernel
theorem dX4_why_70 : decode cX4_why 70 = .ok (.iload_n 3, 1) := by decide +kernel
theorem dX4_why_71 : decode cX4_why 71 = .ok (.iconst 0, 1) := by decide +kernel
theorem dX4_why_72 : decode cX4_why 72 = .ok (.bipush 10, 2) := by decide +kernel
theorem dX4_why_74 : decode cX4_why 74 = .ok (.iload 7, 2) := by decide +kernel
theorem dX4_why_76 : decode cX4_why 76 = .ok (.isub, 1) := by decide +kernel
theorem dX4_why_77 : decode cX4_why 77 = .ok (.invokestatic 41, 3) := by decide +kernel
theorem dX4_why_80 : decode cX4_why 80 = .ok (.ifCond .ne 5, 3) := by decide +kernel
theorem dX4_why_83 : decode cX4_why 83 = .ok (.iconst 1, 1) := by decide +kernel
theorem dX4_why_84 : decode cX4_why 84 = .ok (.ireturn, 1) := by decide +kernel
theorem dX4_why_85 : decode cX4_why 85 = .ok (.aload_n 0, 1) := by decide +kernel
theorem dX4_why_86 : decode cX4_why 86 = .ok (.bipush 60, 2) := by decide +kernel
theorem dX4_why_88 : decode cX4_why 88 = .ok (.iload_n 1, 1) := by decide +kernel
theorem dX4_why_89 : decode cX4_why 89 = .ok (.iload_n 2, 1) := by decide +kernel
theorem dX4_why_90 : decode cX4_why 90 = .ok (.iload_n 3, 1) := by decide +kernel
theorem dX4_why_91 : decode cX4_why 91 = .ok (.iload 4, 2) := by decide +kernel
theorem dX4_why_93 : decode cX4_why 93 = .ok (.invokevirtual 132, 3) := by decide +kernel
theorem dX4_why_96 : decode cX4_why 96 = .ok (.aload_n 0, 1) := by decide +kernel
theorem dX4_why_97 : decode cX4_why 97 = .ok (.bipush 60, 2) := by decide +kernel
theorem dX4_why_99 : decode cX4_why 99 = .ok (.invokevirtual 101, 3) := by decide +kernel
theorem dX4_why_102 : decode cX4_why 102 = .ok (.aload_n 0, 1) := by decide +kernel
theorem dX4_why_103 : decode cX4_why 103 = .ok (.getfield 13, 3) := by decide +kernel
theorem dX4_why_106 : decode cX4_why 106 = .ok (.if_icmp .le 5, 3) := by decide +kernel
theorem dX4_why_109 : decode cX4_why 109 = .ok (.iconst 2, 1) := by decide +kernel
theorem dX4_why_110 : decode cX4_why 110 = .ok (.ireturn, 1) := by decide +kernel
theorem dX4_why_111 : decode cX4_why 111 = .ok (.iload 5, 2) := by decide +kernel
theorem dX4_why_113 : decode cX4_why 113 = .ok (.invokestatic 136, 3) := by decide +kernel
theorem dX4_why_116 : decode cX4_why 116 = .ok (.ifCond .eq 15, 3) := by decide +kernel
theorem dX4_why_119 : decode cX4_why 119 = .ok (.aload_n 0, 1) := by decide +kernel
theorem dX4_why_120 : decode cX4_why 120 = .ok (.bipush 60, 2) := by decide +kernel
theorem dX4_why_122 : decode cX4_why 122 = .ok (.iconst 3, 1) := by decide +kernel
theorem dX4_why_123 : decode cX4_why 123 = .ok (.invokevirtual 76, 3) := by decide +kernel
theorem dX4_why_126 : decode cX4_why 126 = .ok (.ifCond .le 5, 3) := by decide +kernel
theorem dX4_why_129 : decode cX4_why 129 = .ok (.iconst 3, 1) := by decide +kernel
theorem dX4_why_130 : decode cX4_why 130 = .ok (.ireturn, 1) := by decide +kernel
theorem dX4_why_131 : decode cX4_why 131 = .ok (.aload_n 0, 1) := by decide +kernel
theorem dX4_why_132 : decode cX4_why 132 = .ok (.getfield 23, 3) := by decide +kernel
theorem dX4_why_135 : decode cX4_why 135 = .ok (.sipush 365, 3) := by decide +kernel
theorem dX4_why_138 : decode cX4_why 138 = .ok (.iconst 1, 1) := by decide +kernel
theorem dX4_why_139 : decode cX4_why 139 = .ok (.iastore, 1) := by decide +kernel
theorem dX4_why_140 : decode cX4_why 140 = .ok (.iconst 0, 1) := by decide +kernel
theorem dX4_why_141 : decode cX4_why 141 = .ok (.istore 8, 2) := by decide +kernel
theorem dX4_why_143 : decode cX4_why 143 = .ok (.bipush 100, 2) := by decide +kernel
theorem dX4_why_145 : decode cX4_why 145 = .ok (.aload_n 0, 1) := by decide +kernel
theorem dX4_why_146 : decode cX4_why 146 = .ok (.bipush 60, 2) := by decide +kernel
theorem dX4_why_148 : decode cX4_why 148 = .ok (.invokevirtual 123, 3) := by decide +kernel
theorem dX4_why_151 : decode cX4_why 151 = .ok (.imul, 1) := by decide +kernel
theorem dX4_why_152 : decode cX4_why 152 = .ok (.aload_n 0, 1) := by decide +kernel
theorem dX4_why_153 : decode cX4_why 153 = .ok (.getfield 17, 3) := by decide +kernel
theorem dX4_why_156 : decode cX4_why 156 = .ok (.aload_n 0, 1) := by decide +kernel
theorem dX4_why_157 : decode cX4_why 157 = .ok (.bipush 60, 2) := by decide +kernel
theorem dX4_why_159 : decode cX4_why 159 = .ok (.invokevirtual 107, 3) := by decide +kernel
theorem dX4_why_162 : decode cX4_why 162 = .ok (.imul, 1) := by decide +kernel
theorem dX4_why_163 : decode cX4_why 163 = .ok (.if_icmp .ge 9, 3) := by decide +kernel
theorem dX4_why_166 : decode cX4_why 166 = .ok (.iconst 4, 1) := by decide +kernel
theorem dX4_why_167 : decode cX4_why 167 = .ok (.istore 8, 2) := by decide +kernel
theorem dX4_why_169 : decode cX4_why 169 = .ok (.goto 64, 3) := by decide +kernel
theorem dX4_why_172 : decode cX4_why 172 = .ok (.aload_n 0, 1) := by decide +kernel
theorem dX4_why_173 : decode cX4_why 173 = .ok (.getfield 55, 3) := by decide +kernel
theorem dX4_why_176 : decode cX4_why 176 = .ok (.ifCond .eq 28, 3) := by decide +kernel
theorem dX4_why_179 : decode cX4_why 179 = .ok (.aload_n 0, 1) := by decide +kernel
theorem dX4_why_180 : decode cX4_why 180 = .ok (.bipush 60, 2) := by decide +kernel
theorem dX4_why_182 : decode cX4_why 182 = .ok (.iconst 3, 1) := by decide +kernel
theorem dX4_why_183 : decode cX4_why 183 = .ok (.invokevirtual 76, 3) := by decide +kernel
theorem dX4_why_186 : decode cX4_why 186 = .ok (.ifCond .le 18, 3) := by decide +kernel
theorem dX4_why_189 : decode cX4_why 189 = .ok (.aload_n 0, 1) := by decide +kernel
theorem dX4_why_190 : decode cX4_why 190 = .ok (.bipush 60, 2) := by decide +kernel
theorem dX4_why_192 : decode cX4_why 192 = .ok (.invokevirtual 139, 3) := by decide +kernel
theorem dX4_why_195 : decode cX4_why 195 = .ok (.ifCond .ne 9, 3) := by decide +kernel
theorem dX4_why_198 : decode cX4_why 198 = .ok (.iconst 5, 1) := by decide +kernel
theorem dX4_why_199 : decode cX4_why 199 = .ok (.istore 8, 2) := by decide +kernel
theorem dX4_why_201 : decode cX4_why 201 = .ok (.goto 32, 3) := by decide +kernel
theorem dX4_why_204 : decode cX4_why 204 = .ok (.aload_n 0, 1) := by decide +kernel
theorem dX4_why_205 : decode cX4_why 205 = .ok (.invokevirtual 142, 3) := by decide +kernel
theorem dX4_why_208 : decode cX4_why 208 = .ok (.ifCond .eq 10, 3) := by decide +kernel
theorem dX4_why_211 : decode cX4_why 211 = .ok (.bipush 6, 2) := by decide +kernel
theorem dX4_why_213 : decode cX4_why 213 = .ok (.istore 8, 2) := by decide +kernel
theorem dX4_why_215 : decode cX4_why 215 = .ok (.goto 18, 3) := by decide +kernel
theorem dX4_why_218 : decode cX4_why 218 = .ok (.aload_n 0, 1) := by decide +kernel
theorem dX4_why_219 : decode cX4_why 219 = .ok (.invokevirtual 146, 3) := by decide +kernel
theorem dX4_why_222 : decode cX4_why 222 = .ok (.aload_n 0, 1) := by decide +kernel
theorem dX4_why_223 : decode cX4_why 223 = .ok (.getfield 20, 3) := by decide +kernel
theorem dX4_why_226 : decode cX4_why 226 = .ok (.if_icmp .le 7, 3) := by decide +kernel
theorem dX4_why_229 : decode cX4_why 229 = .ok (.bipush 7, 2) := by decide +kernel
theorem dX4_why_231 : decode cX4_why 231 = .ok (.istore 8, 2) := by decide +kernel
theorem dX4_why_233 : decode cX4_why 233 = .ok (.aload_n 0, 1) := by decide +kernel
theorem dX4_why_234 : decode cX4_why 234 = .ok (.aload_n 0, 1) := by decide +kernel
theorem dX4_why_235 : decode cX4_why 235 = .ok (.bipush 60, 2) := by decide +kernel
theorem dX4_why_237 : decode cX4_why 237 = .ok (.invokevirtual 123, 3) := by decide +kernel
theorem dX4_why_240 : decode cX4_why 240 = .ok (.putfield 149, 3) := by decide +kernel
theorem dX4_why_243 : decode cX4_why 243 = .ok (.aload_n 0, 1) := by decide +kernel
theorem dX4_why_244 : decode cX4_why 244 = .ok (.getfield 23, 3) := by decide +kernel
theorem dX4_why_247 : decode cX4_why 247 = .ok (.sipush 365, 3) := by decide +kernel
theorem dX4_why_250 : decode cX4_why 250 = .ok (.iconst 0, 1) := by decide +kernel
theorem dX4_why_251 : decode cX4_why 251 = .ok (.iastore, 1) := by decide +kernel
theorem dX4_why_252 : decode cX4_why 252 = .ok (.iload 8, 2) := by decide +kernel
theorem dX4_why_254 : decode cX4_why 254 = .ok (.ireturn, 1) := by decide +kernel
set_option maxRecDepth 20000 in
theorem ggX4_bestFor_X4_why : GoodIn wsX4_bestFor wsX4_why := goodIn_r _ [6, 7, 8, 9, 10, 11, 1, 12, 13, 14, 5, 15, 16, 17, 18, 19, 20, 21, 22, 23, 24, 25, 26, 27, 28, 29, 30, 31, 32, 33, 34, 35, 36, 37, 38, 39, 40, 41, 42, 43, 44, 45, 46, 47, 48, 49, 50, 51, 52, 53, 54, 55, 56, 57, 58, 59, 60, 61, 62, 63, 64, 65, 66, 67, 68, 69, 70, 71, 72, 73, 74, 75, 76, 77, 78, 79, 80, 81, 82, 83, 84, 85, 86, 87, 88, 89, 90, 91, 92, 93, 94, 95, 96, 97, 98, 99, 100, 101, 102, 103, 104, 105, 106, 107, 108, 109, 110, 111, 112, 113, 114, 115, 116, 117, 118, 119, 120, 121, 122, 123, 124] (by decide +kernel) (by decide +kernel)
set_option maxRecDepth 20000 in
theorem gX4_bestFor_X4_why : GoodIn wsX4_bestFor (wsV RX4 155 RX4 yX4_why wsX4_why) := goodIn_app (goodIn_of _ (by decide +kernel)) ggX4_bestFor_X4_why
set_option maxRecDepth 20000 in
theorem ggX4_bestFor_X4_get : GoodIn wsX4_bestFor wsX4_get := goodIn_r _ [48, 8, 111, 112, 113, 114, 115, 116, 117, 118, 119, 120, 121, 122, 123, 124] (by decide +kernel) (by decide +kernel)
set_option maxRecDepth 20000 in
theorem gX4_bestFor_X4_get : GoodIn wsX4_bestFor (wsV RX4 76 RX4 yX4_get wsX4_get) := goodIn_app (goodIn_of _ (by decide +kernel)) ggX4_bestFor_X4_get
theorem dX4_bestFor_0 : decode cX4_bestFor 0 = .ok (.iconst (-1), 1) := by decide +kernel
theorem dX4_bestFor_1 : decode cX4_bestFor 1 = .ok (.istore_n 2, 1) := by decide +kernel
theorem dX4_bestFor_2 : decode cX4_bestFor 2 = .ok (.iconst 0, 1) := by decide +kernel
theorem dX4_bestFor_3 : decode cX4_bestFor 3 = .ok (.istore_n 3, 1) := by decide +kernel
theorem dX4_bestFor_4 : decode cX4_bestFor 4 = .ok (.iconst 0, 1) := by decide +kernel
theorem dX4_bestFor_5 : decode cX4_bestFor 5 = .ok (.istore 4, 2) := by decide +kernel
theorem dX4_bestFor_7 : decode cX4_bestFor 7 = .ok (.iconst 0, 1) := by decide +kernel
theorem dX4_bestFor_8 : decode cX4_bestFor 8 = .ok (.istore 5, 2) := by decide +kernel
theorem dX4_bestFor_10 : decode cX4_bestFor 10 = .ok (.iload 5, 2) := by decide +kernel
theorem dX4_bestFor_12 : decode cX4_bestFor 12 = .ok (.sipush 240, 3) := by decide +kernel
theorem dX4_bestFor_15 : decode cX4_bestFor 15 = .ok (.if_icmp .ge 99, 3) := by decide +kernel
theorem dX4_bestFor_18 : decode cX4_bestFor 18 = .ok (.iload 5, 2) := by decide +kernel
theorem dX4_bestFor_20 : decode cX4_bestFor 20 = .ok (.iconst 2, 1) := by decide +kernel
theorem dX4_bestFor_21 : decode cX4_bestFor 21 = .ok (.idiv, 1) := by decide +kernel
theorem dX4_bestFor_22 : decode cX4_bestFor 22 = .ok (.istore 6, 2) := by decide +kernel
theorem dX4_bestFor_24 : decode cX4_bestFor 24 = .ok (.aload_n 0, 1) := by decide +kernel
theorem dX4_bestFor_25 : decode cX4_bestFor 25 = .ok (.iload_n 1, 1) := by decide +kernel
theorem dX4_bestFor_26 : decode cX4_bestFor 26 = .ok (.iload 6, 2) := by decide +kernel
theorem dX4_bestFor_28 : decode cX4_bestFor 28 = .ok (.bipush 12, 2) := by decide +kernel
theorem dX4_bestFor_30 : decode cX4_bestFor 30 = .ok (.irem, 1) := by decide +kernel
theorem dX4_bestFor_31 : decode cX4_bestFor 31 = .ok (.iload 6, 2) := by decide +kernel
theorem dX4_bestFor_33 : decode cX4_bestFor 33 = .ok (.bipush 12, 2) := by decide +kernel
theorem dX4_bestFor_35 : decode cX4_bestFor 35 = .ok (.idiv, 1) := by decide +kernel
theorem dX4_bestFor_36 : decode cX4_bestFor 36 = .ok (.iload 5, 2) := by decide +kernel
theorem dX4_bestFor_38 : decode cX4_bestFor 38 = .ok (.iconst 2, 1) := by decide +kernel
theorem dX4_bestFor_39 : decode cX4_bestFor 39 = .ok (.irem, 1) := by decide +kernel
theorem dX4_bestFor_40 : decode cX4_bestFor 40 = .ok (.iconst 1, 1) := by decide +kernel
theorem dX4_bestFor_41 : decode cX4_bestFor 41 = .ok (.if_icmp .ne 7, 3) := by decide +kernel
theorem dX4_bestFor_44 : decode cX4_bestFor 44 = .ok (.iconst 1, 1) := by decide +kernel
theorem dX4_bestFor_45 : decode cX4_bestFor 45 = .ok (.goto 4, 3) := by decide +kernel
theorem dX4_bestFor_48 : decode cX4_bestFor 48 = .ok (.iconst 0, 1) := by decide +kernel
theorem dX4_bestFor_49 : decode cX4_bestFor 49 = .ok (.invokevirtual 155, 3) := by decide +kernel
theorem dX4_bestFor_52 : decode cX4_bestFor 52 = .ok (.ifCond .eq 6, 3) := by decide +kernel
theorem dX4_bestFor_55 : decode cX4_bestFor 55 = .ok (.goto 53, 3) := by decide +kernel
theorem dX4_bestFor_58 : decode cX4_bestFor 58 = .ok (.aload_n 0, 1) := by decide +kernel
theorem dX4_bestFor_59 : decode cX4_bestFor 59 = .ok (.bipush 60, 2) := by decide +kernel
theorem dX4_bestFor_61 : decode cX4_bestFor 61 = .ok (.iconst 3, 1) := by decide +kernel
theorem dX4_bestFor_62 : decode cX4_bestFor 62 = .ok (.invokevirtual 76, 3) := by decide +kernel
theorem dX4_bestFor_65 : decode cX4_bestFor 65 = .ok (.istore 7, 2) := by decide +kernel
theorem dX4_bestFor_67 : decode cX4_bestFor 67 = .ok (.iload_n 2, 1) := by decide +kernel
theorem dX4_bestFor_68 : decode cX4_bestFor 68 = .ok (.iconst (-1), 1) := by decide +kernel
theorem dX4_bestFor_69 : decode cX4_bestFor 69 = .ok (.if_icmp .eq 27, 3) := by decide +kernel
theorem dX4_bestFor_72 : decode cX4_bestFor 72 = .ok (.iload 7, 2) := by decide +kernel
theorem dX4_bestFor_74 : decode cX4_bestFor 74 = .ok (.iload_n 3, 1) := by decide +kernel
theorem dX4_bestFor_75 : decode cX4_bestFor 75 = .ok (.if_icmp .gt 33, 3) := by decide +kernel
theorem dX4_bestFor_78 : decode cX4_bestFor 78 = .ok (.iload 7, 2) := by decide +kernel
theorem dX4_bestFor_80 : decode cX4_bestFor 80 = .ok (.iload_n 3, 1) := by decide +kernel
theorem dX4_bestFor_81 : decode cX4_bestFor 81 = .ok (.if_icmp .ne 15, 3) := by decide +kernel
theorem dX4_bestFor_84 : decode cX4_bestFor 84 = .ok (.aload_n 0, 1) := by decide +kernel
theorem dX4_bestFor_85 : decode cX4_bestFor 85 = .ok (.getfield 149, 3) := by decide +kernel
theorem dX4_bestFor_88 : decode cX4_bestFor 88 = .ok (.iload 4, 2) := by decide +kernel
theorem dX4_bestFor_90 : decode cX4_bestFor 90 = .ok (.if_icmp .gt 6, 3) := by decide +kernel
theorem dX4_bestFor_93 : decode cX4_bestFor 93 = .ok (.goto 15, 3) := by decide +kernel
theorem dX4_bestFor_96 : decode cX4_bestFor 96 = .ok (.iload 5, 2) := by decide +kernel
theorem dX4_bestFor_98 : decode cX4_bestFor 98 = .ok (.istore_n 2, 1) := by decide +kernel
theorem dX4_bestFor_99 : decode cX4_bestFor 99 = .ok (.iload 7, 2) := by decide +kernel
theorem dX4_bestFor_101 : decode cX4_bestFor 101 = .ok (.istore_n 3, 1) := by decide +kernel
theorem dX4_bestFor_102 : decode cX4_bestFor 102 = .ok (.aload_n 0, 1) := by decide +kernel
theorem dX4_bestFor_103 : decode cX4_bestFor 103 = .ok (.getfield 149, 3) := by decide +kernel
theorem dX4_bestFor_106 : decode cX4_bestFor 106 = .ok (.istore 4, 2) := by decide +kernel
theorem dX4_bestFor_108 : decode cX4_bestFor 108 = .ok (.iinc 5 1, 3) := by decide +kernel
theorem dX4_bestFor_111 : decode cX4_bestFor 111 = .ok (.goto (-101), 3) := by decide +kernel
theorem dX4_bestFor_114 : decode cX4_bestFor 114 = .ok (.iload_n 2, 1) := by decide +kernel
theorem dX4_bestFor_115 : decode cX4_bestFor 115 = .ok (.ireturn, 1) := by decide +kernel
set_option maxRecDepth 20000 in
theorem ggX4_putBest_X4_bestFor : GoodIn wsX4_putBest wsX4_bestFor := goodIn_r _ [6, 7, 8, 9, 10, 5, 11, 12, 13, 14, 15, 16, 17, 18, 19, 20, 21, 22, 23, 24, 25, 26, 27, 28, 29, 30, 31, 32, 33, 34, 35, 36, 1, 37, 38, 39, 40, 41, 42, 43, 44, 45, 46, 47, 48, 49, 50, 51, 52, 53, 54, 55, 56, 57, 58, 59, 60, 61, 62, 63, 64, 65, 66, 67, 68, 69, 70, 71, 72, 73, 74, 75, 76, 77, 78, 79, 80, 81, 82, 83, 84, 85, 86, 87, 88, 89, 90, 91, 92, 93, 94, 95, 96, 97, 98, 99, 100, 101, 102, 103, 104, 105, 106, 107, 108, 109, 110, 111, 112, 113, 114, 119, 120, 121, 122, 123, 124, 125, 126, 127, 128, 129, 130, 131, 132] (by decide +kernel) (by decide +kernel)
set_option maxRecDepth 20000 in
theorem gX4_putBest_X4_bestFor : GoodIn wsX4_putBest (wsV RX4 181 RX4 yX4_bestFor wsX4_bestFor) := goodIn_app (goodIn_of _ (by decide +kernel)) ggX4_putBest_X4_bestFor
theorem dX4_putBest_0 : decode cX4_putBest 0 = .ok (.aload_n 0, 1) := by decide +kernel
theorem dX4_putBest_1 : decode cX4_putBest 1 = .ok (.getfield 59, 3) := by decide +kernel
theorem dX4_putBest_4 : decode cX4_putBest 4 = .ok (.bipush 60, 2) := by decide +kernel
theorem dX4_putBest_6 : decode cX4_putBest 6 = .ok (.if_icmp .ne 7, 3) := by decide +kernel
theorem dX4_putBest_9 : decode cX4_putBest 9 = .ok (.iconst (-1), 1) := by decide +kernel
theorem dX4_putBest_10 : decode cX4_putBest 10 = .ok (.goto 8, 3) := by decide +kernel
theorem dX4_putBest_13 : decode cX4_putBest 13 = .ok (.aload_n 0, 1) := by decide +kernel
theorem dX4_putBest_14 : decode cX4_putBest 14 = .ok (.iload_n 1, 1) := by decide +kernel
theorem dX4_putBest_15 : decode cX4_putBest 15 = .ok (.invokevirtual 181, 3) := by decide +kernel
theorem dX4_putBest_18 : decode cX4_putBest 18 = .ok (.istore_n 2, 1) := by decide +kernel
theorem dX4_putBest_19 : decode cX4_putBest 19 = .ok (.iload_n 2, 1) := by decide +kernel
theorem dX4_putBest_20 : decode cX4_putBest 20 = .ok (.iconst (-1), 1) := by decide +kernel
theorem dX4_putBest_21 : decode cX4_putBest 21 = .ok (.if_icmp .ne 5, 3) := by decide +kernel
theorem dX4_putBest_24 : decode cX4_putBest 24 = .ok (.iconst 0, 1) := by decide +kernel
theorem dX4_putBest_25 : decode cX4_putBest 25 = .ok (.ireturn, 1) := by decide +kernel
theorem dX4_putBest_26 : decode cX4_putBest 26 = .ok (.aload_n 0, 1) := by decide +kernel
theorem dX4_putBest_27 : decode cX4_putBest 27 = .ok (.iload_n 1, 1) := by decide +kernel
theorem dX4_putBest_28 : decode cX4_putBest 28 = .ok (.iload_n 2, 1) := by decide +kernel
theorem dX4_putBest_29 : decode cX4_putBest 29 = .ok (.iconst 2, 1) := by decide +kernel
theorem dX4_putBest_30 : decode cX4_putBest 30 = .ok (.idiv, 1) := by decide +kernel
theorem dX4_putBest_31 : decode cX4_putBest 31 = .ok (.bipush 12, 2) := by decide +kernel
theorem dX4_putBest_33 : decode cX4_putBest 33 = .ok (.irem, 1) := by decide +kernel
theorem dX4_putBest_34 : decode cX4_putBest 34 = .ok (.iload_n 2, 1) := by decide +kernel
theorem dX4_putBest_35 : decode cX4_putBest 35 = .ok (.iconst 2, 1) := by decide +kernel
theorem dX4_putBest_36 : decode cX4_putBest 36 = .ok (.idiv, 1) := by decide +kernel
theorem dX4_putBest_37 : decode cX4_putBest 37 = .ok (.bipush 12, 2) := by decide +kernel
theorem dX4_putBest_39 : decode cX4_putBest 39 = .ok (.idiv, 1) := by decide +kernel
theorem dX4_putBest_40 : decode cX4_putBest 40 = .ok (.iload_n 2, 1) := by decide +kernel
theorem dX4_putBest_41 : decode cX4_putBest 41 = .ok (.iconst 2, 1) := by decide +kernel
theorem dX4_putBest_42 : decode cX4_putBest 42 = .ok (.irem, 1) := by decide +kernel
theorem dX4_putBest_43 : decode cX4_putBest 43 = .ok (.iconst 1, 1) := by decide +kernel
theorem dX4_putBest_44 : decode cX4_putBest 44 = .ok (.if_icmp .ne 7, 3) := by decide +kernel
theorem dX4_putBest_47 : decode cX4_putBest 47 = .ok (.iconst 1, 1) := by decide +kernel
theorem dX4_putBest_48 : decode cX4_putBest 48 = .ok (.goto 4, 3) := by decide +kernel
theorem dX4_putBest_51 : decode cX4_putBest 51 = .ok (.iconst 0, 1) := by decide +kernel
theorem dX4_putBest_52 : decode cX4_putBest 52 = .ok (.invokevirtual 159, 3) := by decide +kernel
theorem dX4_putBest_55 : decode cX4_putBest 55 = .ok (.iconst 1, 1) := by decide +kernel
theorem dX4_putBest_56 : decode cX4_putBest 56 = .ok (.ireturn, 1) := by decide +kernel
set_option maxRecDepth 20000 in
theorem ggX4_addLine_X4_isKind : GoodIn wsX4_addLine wsX4_isKind := goodIn_r _ [9, 10, 11, 12, 8, 13, 18, 19, 20, 21, 22, 23, 24, 25, 26, 27, 28, 29, 30, 31] (by decide +kernel) (by decide +kernel)
set_option maxRecDepth 20000 in
theorem gX4_addLine_X4_isKind : GoodIn wsX4_addLine (wsV RX4 152 RX4 yX4_isKind wsX4_isKind) := goodIn_app (goodIn_of _ (by decide +kernel)) ggX4_addLine_X4_isKind
set_option maxRecDepth 20000 in
theorem ggX4_addLine_X4_isIn : GoodIn wsX4_addLine wsX4_isIn := goodIn_r _ [13] (by decide +kernel) (by decide +kernel)
set_option maxRecDepth 20000 in
theorem gX4_addLine_X4_isIn : GoodIn wsX4_addLine (va_wsS RX4 41 yX4_isIn wsX4_isIn) := goodIn_app (goodIn_of _ (by decide +kernel)) ggX4_addLine_X4_isIn
theorem dX4_addLine_0 : decode cX4_addLine 0 = .ok (.aload_n 0, 1) := by decide +kernel
theorem dX4_addLine_1 : decode cX4_addLine 1 = .ok (.iconst 0, 1) := by decide +kernel
theorem dX4_addLine_2 : decode cX4_addLine 2 = .ok (.putfield 35, 3) := by decide +kernel
theorem dX4_addLine_5 : decode cX4_addLine 5 = .ok (.aload_n 0, 1) := by decide +kernel
theorem dX4_addLine_6 : decode cX4_addLine 6 = .ok (.iload_n 1, 1) := by decide +kernel
theorem dX4_addLine_7 : decode cX4_addLine 7 = .ok (.invokevirtual 152, 3) := by decide +kernel
theorem dX4_addLine_10 : decode cX4_addLine 10 = .ok (.ifCond .ne 9, 3) := by decide +kernel
theorem dX4_addLine_13 : decode cX4_addLine 13 = .ok (.aload_n 0, 1) := by decide +kernel
theorem dX4_addLine_14 : decode cX4_addLine 14 = .ok (.iconst 1, 1) := by decide +kernel
theorem dX4_addLine_15 : decode cX4_addLine 15 = .ok (.invokevirtual 45, 3) := by decide +kernel
theorem dX4_addLine_18 : decode cX4_addLine 18 = .ok (.ireturn, 1) := by decide +kernel
theorem dX4_addLine_19 : decode cX4_addLine 19 = .ok (.iload_n 2, 1) := by decide +kernel
theorem dX4_addLine_20 : decode cX4_addLine 20 = .ok (.iconst 1, 1) := by decide +kernel
theorem dX4_addLine_21 : decode cX4_addLine 21 = .ok (.bipush 20, 2) := by decide +kernel
theorem dX4_addLine_23 : decode cX4_addLine 23 = .ok (.invokestatic 41, 3) := by decide +kernel
theorem dX4_addLine_26 : decode cX4_addLine 26 = .ok (.ifCond .ne 9, 3) := by decide +kernel
theorem dX4_addLine_29 : decode cX4_addLine 29 = .ok (.aload_n 0, 1) := by decide +kernel
theorem dX4_addLine_30 : decode cX4_addLine 30 = .ok (.iconst 2, 1) := by decide +kernel
theorem dX4_addLine_31 : decode cX4_addLine 31 = .ok (.invokevirtual 45, 3) := by decide +kernel
theorem dX4_addLine_34 : decode cX4_addLine 34 = .ok (.ireturn, 1) := by decide +kernel
theorem dX4_addLine_35 : decode cX4_addLine 35 = .ok (.aload_n 0, 1) := by decide +kernel
theorem dX4_addLine_36 : decode cX4_addLine 36 = .ok (.getfield 70, 3) := by decide +kernel
theorem dX4_addLine_39 : decode cX4_addLine 39 = .ok (.bipush 20, 2) := by decide +kernel
theorem dX4_addLine_41 : decode cX4_addLine 41 = .ok (.if_icmp .ne 9, 3) := by decide +kernel
theorem dX4_addLine_44 : decode cX4_addLine 44 = .ok (.aload_n 0, 1) := by decide +kernel
theorem dX4_addLine_45 : decode cX4_addLine 45 = .ok (.iconst 3, 1) := by decide +kernel
theorem dX4_addLine_46 : decode cX4_addLine 46 = .ok (.invokevirtual 45, 3) := by decide +kernel
theorem dX4_addLine_49 : decode cX4_addLine 49 = .ok (.ireturn, 1) := by decide +kernel
theorem dX4_addLine_50 : decode cX4_addLine 50 = .ok (.aload_n 0, 1) := by decide +kernel
theorem dX4_addLine_51 : decode cX4_addLine 51 = .ok (.getfield 29, 3) := by decide +kernel
theorem dX4_addLine_54 : decode cX4_addLine 54 = .ok (.aload_n 0, 1) := by decide +kernel
theorem dX4_addLine_55 : decode cX4_addLine 55 = .ok (.getfield 70, 3) := by decide +kernel
theorem dX4_addLine_58 : decode cX4_addLine 58 = .ok (.iload_n 1, 1) := by decide +kernel
theorem dX4_addLine_59 : decode cX4_addLine 59 = .ok (.iastore, 1) := by decide +kernel
theorem dX4_addLine_60 : decode cX4_addLine 60 = .ok (.aload_n 0, 1) := by decide +kernel
theorem dX4_addLine_61 : decode cX4_addLine 61 = .ok (.getfield 32, 3) := by decide +kernel
theorem dX4_addLine_64 : decode cX4_addLine 64 = .ok (.aload_n 0, 1) := by decide +kernel
theorem dX4_addLine_65 : decode cX4_addLine 65 = .ok (.getfield 70, 3) := by decide +kernel
theorem dX4_addLine_68 : decode cX4_addLine 68 = .ok (.iload_n 2, 1) := by decide +kernel
theorem dX4_addLine_69 : decode cX4_addLine 69 = .ok (.iastore, 1) := by decide +kernel
theorem dX4_addLine_70 : decode cX4_addLine 70 = .ok (.aload_n 0, 1) := by decide +kernel
theorem dX4_addLine_71 : decode cX4_addLine 71 = .ok (.dup, 1) := by decide +kernel
theorem dX4_addLine_72 : decode cX4_addLine 72 = .ok (.getfield 70, 3) := by decide +kernel
theorem dX4_addLine_75 : decode cX4_addLine 75 = .ok (.iconst 1, 1) := by decide +kernel
theorem dX4_addLine_76 : decode cX4_addLine 76 = .ok (.iadd, 1) := by decide +kernel
theorem dX4_addLine_77 : decode cX4_addLine 77 = .ok (.putfield 70, 3) := by decide +kernel
theorem dX4_addLine_80 : decode cX4_addLine 80 = .ok (.aload_n 0, 1) := by decide +kernel
theorem dX4_addLine_81 : decode cX4_addLine 81 = .ok (.getfield 70, 3) := by decide +kernel
theorem dX4_addLine_84 : decode cX4_addLine 84 = .ok (.iconst 1, 1) := by decide +kernel
theorem dX4_addLine_85 : decode cX4_addLine 85 = .ok (.isub, 1) := by decide +kernel
theorem dX4_addLine_86 : decode cX4_addLine 86 = .ok (.ireturn, 1) := by decide +kernel
set_option maxRecDepth 20000 in
theorem ggX4_isAhead_X4_kind : GoodIn wsX4_isAhead wsX4_kind := goodIn_r _ [6, 7, 11, 12, 13, 14, 15, 16, 17, 18, 19, 20, 21, 22, 23, 24] (by decide +kernel) (by decide +kernel)
set_option maxRecDepth 20000 in
theorem gX4_isAhead_X4_kind : GoodIn wsX4_isAhead (wsV RX4 80 RX4 yX4_kind wsX4_kind) := goodIn_app (goodIn_of _ (by decide +kernel)) ggX4_isAhead_X4_kind
set_option maxRecDepth 20000 in
theorem ggX4_isAhead_X4_needsDeck : GoodIn wsX4_isAhead wsX4_needsDeck := goodIn_r _ [10] (by decide +kernel) (by decide +kernel)
set_option maxRecDepth 20000 in
theorem gX4_isAhead_X4_needsDeck : GoodIn wsX4_isAhead (va_wsS RX4 136 yX4_needsDeck wsX4_needsDeck) := goodIn_app (goodIn_of _ (by decide +kernel)) ggX4_isAhead_X4_needsDeck
theorem dX4_isAhead_0 : decode cX4_isAhead 0 = .ok (.aload_n 0, 1) := by decide +kernel
theorem dX4_isAhead_1 : decode cX4_isAhead 1 = .ok (.getfield 29, 3) := by decide +kernel
theorem dX4_isAhead_4 : decode cX4_isAhead 4 = .ok (.iload_n 1, 1) := by decide +kernel
theorem dX4_isAhead_5 : decode cX4_isAhead 5 = .ok (.iaload, 1) := by decide +kernel
theorem dX4_isAhead_6 : decode cX4_isAhead 6 = .ok (.istore_n 3, 1) := by decide +kernel
theorem dX4_isAhead_7 : decode cX4_isAhead 7 = .ok (.aload_n 0, 1) := by decide +kernel
theorem dX4_isAhead_8 : decode cX4_isAhead 8 = .ok (.getfield 29, 3) := by decide +kernel
theorem dX4_isAhead_11 : decode cX4_isAhead 11 = .ok (.iload_n 2, 1) := by decide +kernel
theorem dX4_isAhead_12 : decode cX4_isAhead 12 = .ok (.iaload, 1) := by decide +kernel
theorem dX4_isAhead_13 : decode cX4_isAhead 13 = .ok (.istore 4, 2) := by decide +kernel
theorem dX4_isAhead_15 : decode cX4_isAhead 15 = .ok (.aload_n 0, 1) := by decide +kernel
theorem dX4_isAhead_16 : decode cX4_isAhead 16 = .ok (.iload_n 3, 1) := by decide +kernel
theorem dX4_isAhead_17 : decode cX4_isAhead 17 = .ok (.iconst 5, 1) := by decide +kernel
theorem dX4_isAhead_18 : decode cX4_isAhead 18 = .ok (.invokevirtual 80, 3) := by decide +kernel
theorem dX4_isAhead_21 : decode cX4_isAhead 21 = .ok (.invokestatic 136, 3) := by decide +kernel
theorem dX4_isAhead_24 : decode cX4_isAhead 24 = .ok (.aload_n 0, 1) := by decide +kernel
theorem dX4_isAhead_25 : decode cX4_isAhead 25 = .ok (.iload 4, 2) := by decide +kernel
theorem dX4_isAhead_27 : decode cX4_isAhead 27 = .ok (.iconst 5, 1) := by decide +kernel
theorem dX4_isAhead_28 : decode cX4_isAhead 28 = .ok (.invokevirtual 80, 3) := by decide +kernel
theorem dX4_isAhead_31 : decode cX4_isAhead 31 = .ok (.invokestatic 136, 3) := by decide +kernel
theorem dX4_isAhead_34 : decode cX4_isAhead 34 = .ok (.if_icmp .eq 13, 3) := by decide +kernel
theorem dX4_isAhead_37 : decode cX4_isAhead 37 = .ok (.aload_n 0, 1) := by decide +kernel
theorem dX4_isAhead_38 : decode cX4_isAhead 38 = .ok (.iload_n 3, 1) := by decide +kernel
theorem dX4_isAhead_39 : decode cX4_isAhead 39 = .ok (.iconst 5, 1) := by decide +kernel
theorem dX4_isAhead_40 : decode cX4_isAhead 40 = .ok (.invokevirtual 80, 3) := by decide +kernel
theorem dX4_isAhead_43 : decode cX4_isAhead 43 = .ok (.invokestatic 136, 3) := by decide +kernel
theorem dX4_isAhead_46 : decode cX4_isAhead 46 = .ok (.ireturn, 1) := by decide +kernel
theorem dX4_isAhead_47 : decode cX4_isAhead 47 = .ok (.aload_n 0, 1) := by decide +kernel
theorem dX4_isAhead_48 : decode cX4_isAhead 48 = .ok (.iload_n 3, 1) := by decide +kernel
theorem dX4_isAhead_49 : decode cX4_isAhead 49 = .ok (.iconst 4, 1) := by decide +kernel
theorem dX4_isAhead_50 : decode cX4_isAhead 50 = .ok (.invokevirtual 80, 3) := by decide +kernel
theorem dX4_isAhead_53 : decode cX4_isAhead 53 = .ok (.aload_n 0, 1) := by decide +kernel
theorem dX4_isAhead_54 : decode cX4_isAhead 54 = .ok (.iload 4, 2) := by decide +kernel
theorem dX4_isAhead_56 : decode cX4_isAhead 56 = .ok (.iconst 4, 1) := by decide +kernel
theorem dX4_isAhead_57 : decode cX4_isAhead 57 = .ok (.invokevirtual 80, 3) := by decide +kernel
theorem dX4_isAhead_60 : decode cX4_isAhead 60 = .ok (.if_icmp .eq 25, 3) := by decide +kernel
theorem dX4_isAhead_63 : decode cX4_isAhead 63 = .ok (.aload_n 0, 1) := by decide +kernel
theorem dX4_isAhead_64 : decode cX4_isAhead 64 = .ok (.iload_n 3, 1) := by decide +kernel
theorem dX4_isAhead_65 : decode cX4_isAhead 65 = .ok (.iconst 4, 1) := by decide +kernel
theorem dX4_isAhead_66 : decode cX4_isAhead 66 = .ok (.invokevirtual 80, 3) := by decide +kernel
theorem dX4_isAhead_69 : decode cX4_isAhead 69 = .ok (.aload_n 0, 1) := by decide +kernel
theorem dX4_isAhead_70 : decode cX4_isAhead 70 = .ok (.iload 4, 2) := by decide +kernel
theorem dX4_isAhead_72 : decode cX4_isAhead 72 = .ok (.iconst 4, 1) := by decide +kernel
theorem dX4_isAhead_73 : decode cX4_isAhead 73 = .ok (.invokevirtual 80, 3) := by decide +kernel
theorem dX4_isAhead_76 : decode cX4_isAhead 76 = .ok (.if_icmp .le 7, 3) := by decide +kernel
theorem dX4_isAhead_79 : decode cX4_isAhead 79 = .ok (.iconst 1, 1) := by decide +kernel
theorem dX4_isAhead_80 : decode cX4_isAhead 80 = .ok (.goto 4, 3) := by decide +kernel
theorem dX4_isAhead_83 : decode cX4_isAhead 83 = .ok (.iconst 0, 1) := by decide +kernel
theorem dX4_isAhead_84 : decode cX4_isAhead 84 = .ok (.ireturn, 1) := by decide +kernel
theorem dX4_isAhead_85 : decode cX4_isAhead 85 = .ok (.aload_n 0, 1) := by decide +kernel
theorem dX4_isAhead_86 : decode cX4_isAhead 86 = .ok (.iload_n 3, 1) := by decide +kernel
theorem dX4_isAhead_87 : decode cX4_isAhead 87 = .ok (.iconst 3, 1) := by decide +kernel
theorem dX4_isAhead_88 : decode cX4_isAhead 88 = .ok (.invokevirtual 80, 3) := by decide +kernel
theorem dX4_isAhead_91 : decode cX4_isAhead 91 = .ok (.aload_n 0, 1) := by decide +kernel
theorem dX4_isAhead_92 : decode cX4_isAhead 92 = .ok (.iload 4, 2) := by decide +kernel
theorem dX4_isAhead_94 : decode cX4_isAhead 94 = .ok (.iconst 3, 1) := by decide +kernel
theorem dX4_isAhead_95 : decode cX4_isAhead 95 = .ok (.invokevirtual 80, 3) := by decide +kernel
theorem dX4_isAhead_98 : decode cX4_isAhead 98 = .ok (.if_icmp .le 7, 3) := by decide +kernel
theorem dX4_isAhead_101 : decode cX4_isAhead 101 = .ok (.iconst 1, 1) := by decide +kernel
theorem dX4_isAhead_102 : decode cX4_isAhead 102 = .ok (.goto 4, 3) := by decide +kernel
theorem dX4_isAhead_105 : decode cX4_isAhead 105 = .ok (.iconst 0, 1) := by decide +kernel
theorem dX4_isAhead_106 : decode cX4_isAhead 106 = .ok (.ireturn, 1) := by decide +kernel
set_option maxRecDepth 20000 in
theorem ggX4_stack_X4_isAhead : GoodIn wsX4_stack wsX4_isAhead := goodIn_r _ [10, 5, 11, 12, 13, 9, 14, 15, 16, 17, 18, 132, 133, 134, 135, 136, 137, 138, 139, 140, 141, 142, 143, 144, 145] (by decide +kernel) (by decide +kernel)
set_option maxRecDepth 20000 in
theorem gX4_stack_X4_isAhead : GoodIn wsX4_stack (wsV RX4 187 RX4 yX4_isAhead wsX4_isAhead) := goodIn_app (goodIn_of _ (by decide +kernel)) ggX4_stack_X4_isAhead
set_option maxRecDepth 20000 in
theorem ggX4_stack_X4_putBest : GoodIn wsX4_stack wsX4_putBest := goodIn_r _ [22, 23, 24, 25, 26, 9, 27, 28, 29, 30, 31, 32, 33, 34, 35, 36, 37, 11, 12, 13, 14, 15, 38, 39, 40, 41, 42, 43, 44, 45, 46, 47, 48, 49, 50, 51, 52, 53, 54, 55, 56, 57, 58, 59, 60, 61, 62, 63, 64, 65, 66, 67, 68, 69, 70, 71, 72, 73, 74, 75, 76, 77, 78, 79, 80, 81, 82, 83, 84, 85, 86, 16, 17, 18, 87, 88, 89, 90, 91, 92, 93, 94, 95, 96, 97, 98, 99, 100, 101, 102, 103, 104, 105, 106, 107, 108, 109, 110, 111, 112, 113, 114, 115, 116, 117, 118, 119, 120, 121, 122, 123, 124, 125, 126, 127, 128, 129, 130, 131, 132, 133, 134, 135, 136, 137, 138, 139, 140, 141, 142, 143, 144, 145] (by decide +kernel) (by decide +kernel)
set_option maxRecDepth 20000 in
theorem gX4_stack_X4_putBest : GoodIn wsX4_stack (wsV RX4 184 RX4 yX4_putBest wsX4_putBest) := goodIn_app (goodIn_of _ (by decide +kernel)) ggX4_stack_X4_putBest
theorem dX4_stack_0 : decode cX4_stack 0 = .ok (.aload_n 0, 1) := by decide +kernel
theorem dX4_stack_1 : decode cX4_stack 1 = .ok (.iconst 0, 1) := by decide +kernel
theorem dX4_stack_2 : decode cX4_stack 2 = .ok (.putfield 35, 3) := by decide +kernel
theorem dX4_stack_5 : decode cX4_stack 5 = .ok (.bipush 20, 2) := by decide +kernel
theorem dX4_stack_7 : decode cX4_stack 7 = .ok (.newarray .boolean, 2) := by decide +kernel
theorem dX4_stack_9 : decode cX4_stack 9 = .ok (.astore_n 1, 1) := by decide +kernel
theorem dX4_stack_10 : decode cX4_stack 10 = .ok (.iconst 0, 1) := by decide +kernel
theorem dX4_stack_11 : decode cX4_stack 11 = .ok (.istore_n 2, 1) := by decide +kernel
theorem dX4_stack_12 : decode cX4_stack 12 = .ok (.iconst 0, 1) := by decide +kernel
theorem dX4_stack_13 : decode cX4_stack 13 = .ok (.istore_n 3, 1) := by decide +kernel
theorem dX4_stack_14 : decode cX4_stack 14 = .ok (.iload_n 3, 1) := by decide +kernel
theorem dX4_stack_15 : decode cX4_stack 15 = .ok (.iconst (-1), 1) := by decide +kernel
theorem dX4_stack_16 : decode cX4_stack 16 = .ok (.if_icmp .eq 102, 3) := by decide +kernel
theorem dX4_stack_19 : decode cX4_stack 19 = .ok (.iconst (-1), 1) := by decide +kernel
theorem dX4_stack_20 : decode cX4_stack 20 = .ok (.istore_n 3, 1) := by decide +kernel
theorem dX4_stack_21 : decode cX4_stack 21 = .ok (.iconst 0, 1) := by decide +kernel
theorem dX4_stack_22 : decode cX4_stack 22 = .ok (.istore 4, 2) := by decide +kernel
theorem dX4_stack_24 : decode cX4_stack 24 = .ok (.iload 4, 2) := by decide +kernel
theorem dX4_stack_26 : decode cX4_stack 26 = .ok (.aload_n 0, 1) := by decide +kernel
theorem dX4_stack_27 : decode cX4_stack 27 = .ok (.getfield 70, 3) := by decide +kernel
theorem dX4_stack_30 : decode cX4_stack 30 = .ok (.if_icmp .ge 44, 3) := by decide +kernel
theorem dX4_stack_33 : decode cX4_stack 33 = .ok (.aload_n 1, 1) := by decide +kernel
theorem dX4_stack_34 : decode cX4_stack 34 = .ok (.iload 4, 2) := by decide +kernel
theorem dX4_stack_36 : decode cX4_stack 36 = .ok (.baload, 1) := by decide +kernel
theorem dX4_stack_37 : decode cX4_stack 37 = .ok (.ifCond .ne 31, 3) := by decide +kernel
theorem dX4_stack_40 : decode cX4_stack 40 = .ok (.aload_n 0, 1) := by decide +kernel
theorem dX4_stack_41 : decode cX4_stack 41 = .ok (.getfield 32, 3) := by decide +kernel
theorem dX4_stack_44 : decode cX4_stack 44 = .ok (.iload 4, 2) := by decide +kernel
theorem dX4_stack_46 : decode cX4_stack 46 = .ok (.iaload, 1) := by decide +kernel
theorem dX4_stack_47 : decode cX4_stack 47 = .ok (.ifCond .le 21, 3) := by decide +kernel
theorem dX4_stack_50 : decode cX4_stack 50 = .ok (.iload_n 3, 1) := by decide +kernel
theorem dX4_stack_51 : decode cX4_stack 51 = .ok (.iconst (-1), 1) := by decide +kernel
theorem dX4_stack_52 : decode cX4_stack 52 = .ok (.if_icmp .eq 13, 3) := by decide +kernel
theorem dX4_stack_55 : decode cX4_stack 55 = .ok (.aload_n 0, 1) := by decide +kernel
theorem dX4_stack_56 : decode cX4_stack 56 = .ok (.iload 4, 2) := by decide +kernel
theorem dX4_stack_58 : decode cX4_stack 58 = .ok (.iload_n 3, 1) := by decide +kernel
theorem dX4_stack_59 : decode cX4_stack 59 = .ok (.invokevirtual 187, 3) := by decide +kernel
theorem dX4_stack_62 : decode cX4_stack 62 = .ok (.ifCond .eq 6, 3) := by decide +kernel
theorem dX4_stack_65 : decode cX4_stack 65 = .ok (.iload 4, 2) := by decide +kernel
theorem dX4_stack_67 : decode cX4_stack 67 = .ok (.istore_n 3, 1) := by decide +kernel
theorem dX4_stack_68 : decode cX4_stack 68 = .ok (.iinc 4 1, 3) := by decide +kernel
theorem dX4_stack_71 : decode cX4_stack 71 = .ok (.goto (-47), 3) := by decide +kernel
theorem dX4_stack_74 : decode cX4_stack 74 = .ok (.iload_n 3, 1) := by decide +kernel
theorem dX4_stack_75 : decode cX4_stack 75 = .ok (.iconst (-1), 1) := by decide +kernel
theorem dX4_stack_76 : decode cX4_stack 76 = .ok (.if_icmp .ne 6, 3) := by decide +kernel
theorem dX4_stack_79 : decode cX4_stack 79 = .ok (.goto (-65), 3) := by decide +kernel
theorem dX4_stack_82 : decode cX4_stack 82 = .ok (.aload_n 0, 1) := by decide +kernel
theorem dX4_stack_83 : decode cX4_stack 83 = .ok (.aload_n 0, 1) := by decide +kernel
theorem dX4_stack_84 : decode cX4_stack 84 = .ok (.getfield 29, 3) := by decide +kernel
theorem dX4_stack_87 : decode cX4_stack 87 = .ok (.iload_n 3, 1) := by decide +kernel
theorem dX4_stack_88 : decode cX4_stack 88 = .ok (.iaload, 1) := by decide +kernel
theorem dX4_stack_89 : decode cX4_stack 89 = .ok (.invokevirtual 184, 3) := by decide +kernel
theorem dX4_stack_92 : decode cX4_stack 92 = .ok (.ifCond .eq 19, 3) := by decide +kernel
theorem dX4_stack_95 : decode cX4_stack 95 = .ok (.aload_n 0, 1) := by decide +kernel
theorem dX4_stack_96 : decode cX4_stack 96 = .ok (.getfield 32, 3) := by decide +kernel
theorem dX4_stack_99 : decode cX4_stack 99 = .ok (.iload_n 3, 1) := by decide +kernel
theorem dX4_stack_100 : decode cX4_stack 100 = .ok (.dup2, 1) := by decide +kernel
theorem dX4_stack_101 : decode cX4_stack 101 = .ok (.iaload, 1) := by decide +kernel
theorem dX4_stack_102 : decode cX4_stack 102 = .ok (.iconst 1, 1) := by decide +kernel
theorem dX4_stack_103 : decode cX4_stack 103 = .ok (.isub, 1) := by decide +kernel
theorem dX4_stack_104 : decode cX4_stack 104 = .ok (.iastore, 1) := by decide +kernel
theorem dX4_stack_105 : decode cX4_stack 105 = .ok (.iinc 2 1, 3) := by decide +kernel
theorem dX4_stack_108 : decode cX4_stack 108 = .ok (.goto (-94), 3) := by decide +kernel
theorem dX4_stack_111 : decode cX4_stack 111 = .ok (.aload_n 1, 1) := by decide +kernel
theorem dX4_stack_112 : decode cX4_stack 112 = .ok (.iload_n 3, 1) := by decide +kernel
theorem dX4_stack_113 : decode cX4_stack 113 = .ok (.iconst 1, 1) := by decide +kernel
theorem dX4_stack_114 : decode cX4_stack 114 = .ok (.bastore, 1) := by decide +kernel
theorem dX4_stack_115 : decode cX4_stack 115 = .ok (.goto (-101), 3) := by decide +kernel
theorem dX4_stack_118 : decode cX4_stack 118 = .ok (.iload_n 2, 1) := by decide +kernel
theorem dX4_stack_119 : decode cX4_stack 119 = .ok (.ireturn, 1) := by decide +kernel
end
section
/-! my own rows: worlds passed to a call by places, joined behind it, in one step; lower bounds of the heap's size -/
abbrev zG : Type := (Nat → ClassId) × (Nat → Nat → Nat)
/-- a method's start: its world, and the heap's size -/
def zPc (D : zG) (tys : List (ClassId × FieldType)) (ws : va_W) (sz : Nat) (av : List Value) : Array Value → State → Prop :=
  va_Pc av (fun U => U.heap.size = sz ∧ va_P D vwCl ws U.heap ∧ va_K D vwCl tys U ∧ va_D (fun _ => True) ws)
/-- a method's end: at least n0 cells, its world -/
def zB {S : Type} (D : zG) (A : Nat → Prop) (tys : S → List (ClassId × FieldType)) (n0 : Nat) (wf : S → va_W) : S → State → Prop := fun u t =>
  n0 ≤ t.heap.size ∧ va_P D vwCl (wf u) t.heap ∧ va_K D vwCl (tys u) t ∧ va_D A (wf u)
theorem zPc_blind {D : zG} {tys : List (ClassId × FieldType)} {ws : va_W} {sz : Nat} {av : List Value} : FrameBlind (zPc D tys ws sz av) := fun a U g mk q => by
  obtain ⟨q0, q1, qP, qK, qD⟩ := q
  exact ⟨q0, q1, qP, va_K.moved (u := U) (U := U.calling g mk a) (Vm.Alike.refl U.vm) qK, qD⟩
theorem zPc_in {D : zG} {tys tc : List (ClassId × FieldType)} {ws wc : va_W} {s U : State} {H : Heap} {A : Nat → Prop} {av : List Value} (hK : va_K D vwCl tys s) (hP : va_P D vwCl ws H) (hD : va_D A ws)
    (isC : List Nat) (hC : isC.map (fun i => ws[i]?) = wc.map some) (hn : va_nd isC = true) (it : List Nat) (hT : it.filterMap (fun i => tys[i]?) = tc) (hU : U.heap = H) (hW : s.WarmedH U.vm) : zPc D tc wc H.size av av.toArray U := by
  have hC' : isC.filterMap (fun i => ws[i]?) = wc := by
    have : (isC.map (fun i => ws[i]?)).filterMap id = (wc.map some).filterMap id := by rw [hC]
    simpa [List.filterMap_map] using this
  refine ⟨rfl, by rw [hU], by rw [hU]; exact hP.sub isC hC', (va_K.moved hW.alike hK).sub it hT, (hD.sub isC hn hC).weaken (fun _ _ _ _ => trivial)⟩
theorem va_S.tr {A : Nat → Prop} {H0 H1 H2 : Heap} {l1 l2 : List Loc} (h1 : va_S A H0 H1 l1) (h2 : va_S A H1 H2 l2) : va_S A H0 H2 l2 :=
  ⟨Nat.le_trans h1.1 h2.1, fun q h n => (h2.2.1 q (Nat.lt_of_lt_of_le h h1.1) n).trans (h1.2.1 q h n), h2.2.2⟩
theorem va_S.re {A : Nat → Prop} {H0 H1 : Heap} {l1 : List Loc} (h1 : va_S A H0 H1 l1) : va_S A H1 H1 l1 := ⟨Nat.le_refl _, fun _ _ _ => rfl, h1.2.2⟩
section ZC
variable {p : Program} {l : Launch} {e : Env} {R : Room} {s : State} {m : MethodId} {args : Array Value} {below : List Frame} {meth : Method} {c : Code} {H : Heap} {locs : List Loc} {cells slots : Nat} {Q : State → Prop}
variable {pc : Nat} {ls : Array Slot} {rest As : List Value} {A : Nat → Prop} {H0 : Heap} {mc ms n index nL maxL : Nat} {D : zG} {tys tc : List (ClassId × FieldType)} {ws wc wr : va_W} {y : MethodName} {bytes cc : ByteArray} {ret : Option FieldType} {wsy Ts : List Cond} {rm : Room} {own C : String} {b n0 : Nat}
/-- a static method that only reads, called -/
theorem zrdS {post : Int32 → Prop} (S : CallFix p m c cc nL s args Ts own) (hM : Met l y wsy rm (zPc D tc wc H.size As) (vp_Si post) 0 0 (fun _ => False)) (cw : CallB R s args own index y bytes maxL ret wsy rm 0 0 n ∧ (Cond.static y).before args s = true)
    (hK : va_K D vwCl tys s) (hP : va_P D vwCl ws H) (hD : va_D A ws) (isC : List Nat) (hC : isC.map (fun i => ws[i]?) = wc.map some) (hn : va_nd isC = true) (it : List Nat) (hT : it.filterMap (fun i => tys[i]?) = tc)
    (ha : As.length = n) (hsz : ls.size = nL) {st : List Value} (hst : st = As.reverse ++ rest) (hW : (rest.map fun v => v.category).sum ≤ 8) (hdg : decode cc pc = .ok (.invokestatic index, 3)) (hf : cells ≤ R.cells ∧ slots ≤ R.slots)
    (kk : ∀ r : Int32, post r → W p l e R s m args below meth c H locs cells slots Q (F0 m (pc + 3) ls (.int r :: rest))) : W p l e R s m args below meth c H locs cells slots Q (F0 m pc ls st) :=
  vp_callSi (W.runS (As := As) (rest := rest) S hM cw ⟨zPc_blind, fun U hU hW => zPc_in hK hP hD isC hC hn it hT hU hW⟩ rfl ha hsz hst (lv_room hW) hdg hf) kk
theorem zrdV {post : Int32 → Prop} (S : CallFix p m c cc nL s args Ts own) (hM : Met l y wsy rm (zPc D tc wc H.size (.ref b :: As)) (vp_Si post) 0 0 (fun _ => False)) (cw : CallW R s args own C index y bytes maxL ret wsy rm 0 0 n)
    (hK : va_K D vwCl tys s) (hP : va_P D vwCl ws H) (hD : va_D A ws) (isC : List Nat) (hC : isC.map (fun i => ws[i]?) = wc.map some) (hn : va_nd isC = true) (it : List Nat) (hT : it.filterMap (fun i => tys[i]?) = tc)
    {ci q0 : Nat} {T : u_T} {N : Nat} {fs : List Value} (hc : vwCl[ci]? = some (C, T, N)) (he : ws[q0]? = some (b, .inr (ci, fs)))
    (ha : As.length = n) (hsz : ls.size = nL) {st : List Value} (hst : st = As.reverse ++ .ref b :: rest) (hW : (rest.map fun v => v.category).sum ≤ 8) (hdg : decode cc pc = .ok (.invokevirtual index, 3)) (hf : cells ≤ R.cells ∧ slots ≤ R.slots)
    (kk : ∀ r : Int32, post r → W p l e R s m args below meth c H locs cells slots Q (F0 m (pc + 3) ls (.int r :: rest))) : W p l e R s m args below meth c H locs cells slots Q (F0 m pc ls st) :=
  vp_callSi (W.runV (As := As) (rest := rest) S hM cw ⟨zPc_blind, va_recv hK hP hc he, fun U hU hW => zPc_in hK hP hD isC hC hn it hT hU hW⟩ rfl ha hsz hst (lv_room hW) hdg hf) kk
/-- a method that only reads and answers a reference or null -/
theorem zrdVq {post : Option Nat → Prop} (S : CallFix p m c cc nL s args Ts own) (hM : Met l y wsy rm (zPc D tc wc H.size (.ref b :: As)) (va_Sq post) 0 0 (fun _ => False)) (cw : CallW R s args own C index y bytes maxL ret wsy rm 0 0 n)
    (hK : va_K D vwCl tys s) (hP : va_P D vwCl ws H) (hD : va_D A ws) (isC : List Nat) (hC : isC.map (fun i => ws[i]?) = wc.map some) (hn : va_nd isC = true) (it : List Nat) (hT : it.filterMap (fun i => tys[i]?) = tc)
    {ci q0 : Nat} {T : u_T} {N : Nat} {fs : List Value} (hc : vwCl[ci]? = some (C, T, N)) (he : ws[q0]? = some (b, .inr (ci, fs)))
    (ha : As.length = n) (hsz : ls.size = nL) {st : List Value} (hst : st = As.reverse ++ .ref b :: rest) (hW : (rest.map fun v => v.category).sum ≤ 8) (hdg : decode cc pc = .ok (.invokevirtual index, 3)) (hf : cells ≤ R.cells ∧ slots ≤ R.slots)
    (kk : ∀ r : Option Nat, post r → W p l e R s m args below meth c H locs cells slots Q (F0 m (pc + 3) ls (va_rf r :: rest))) : W p l e R s m args below meth c H locs cells slots Q (F0 m pc ls st) :=
  va_csq (W.runV (As := As) (rest := rest) S hM cw ⟨zPc_blind, va_recv hK hP hc he, fun U hU hW => zPc_in hK hP hD isC hC hn it hT hU hW⟩ rfl ha hsz hst (lv_room hW) hdg hf) kk
/-- what stands behind a call that may write: the world of the caller, joined -/
theorem zjoin {S' : Type} {u : S'} {t : State} {H1 : Heap} {tyf : S' → List (ClassId × FieldType)} {wf : S' → va_W} (hK : va_K D vwCl tys s) (hP : va_P D vwCl ws H) (hD : va_D A ws) (hS : va_S A H0 H locs) (hA : ∀ q, H0.size ≤ q → A q)
    (isC isR : List Nat) (hC : isC.map (fun i => ws[i]?) = wc.map some) (hR : isR.map (fun i => ws[i]?) = wr.map some) (hn2 : va_nd isR = true) (hdis : ∀ i ∈ isR, i ∉ isC)
    (ht : t.heap = H1) (hvm : s.vm.Alike t.vm) (hB : zB D (va_A wc H.size) tyf n0 wf u t) (hk1 : ∀ q : Nat, q < H.size → ¬ va_A wc H.size q → H1[q]? = H[q]?) :
    n0 ≤ H1.size ∧ va_K D vwCl (tys ++ tyf u) s ∧ va_P D vwCl (wr ++ wf u) H1 ∧ va_D A (wr ++ wf u) := by
  obtain ⟨g0, hP1, hK1, hD1⟩ := hB
  rw [ht] at g0 hP1
  have hF := va_free (wc := wc) hD hS hA isC hC
  obtain ⟨a1, a2⟩ := va_join (wr := wr) (w1 := wf u) hP hD isC isR hC hR hn2 hdis hk1 hF hP1 hD1
  exact ⟨g0, hK.app (va_K.moved hvm.symm hK1), a1, a2⟩
theorem zcalliV {S' : Type} {post : Int32 → S' → Prop} {tyf : S' → List (ClassId × FieldType)} {wf : S' → va_W} (S : CallFix p m c cc nL s args Ts own) (hM : Met l y wsy rm (zPc D tc wc H.size (.ref b :: As)) (va_Qi post (zB D (va_A wc H.size) tyf n0 wf) (va_A wc H.size)) mc ms (va_A wc H.size)) (cw : CallW R s args own C index y bytes maxL ret wsy rm mc ms n)
    (hK : va_K D vwCl tys s) (hP : va_P D vwCl ws H) (hD : va_D A ws) (hS : va_S A H0 H locs) (hA : ∀ q, H0.size ≤ q → A q) (isC isR : List Nat) (hC : isC.map (fun i => ws[i]?) = wc.map some) (hn : va_nd isC = true) (hR : isR.map (fun i => ws[i]?) = wr.map some) (hn2 : va_nd isR = true) (hdis : ∀ i ∈ isR, i ∉ isC) (it : List Nat) (hT : it.filterMap (fun i => tys[i]?) = tc)
    {ci q0 : Nat} {T : u_T} {N : Nat} {fs : List Value} (hc : vwCl[ci]? = some (C, T, N)) (he : ws[q0]? = some (b, .inr (ci, fs)))
    (ha : As.length = n) (hsz : ls.size = nL) {st : List Value} (hst : st = As.reverse ++ .ref b :: rest) (hW : (rest.map fun v => v.category).sum ≤ 8) (hdg : decode cc pc = .ok (.invokevirtual index, 3)) (hf : cells + mc ≤ R.cells ∧ slots + ms ≤ R.slots)
    (kk : ∀ (r : Int32) (u : S') (H1 : Heap) (locs1 : List Loc), post r u → n0 ≤ H1.size → H.size ≤ H1.size → va_K D vwCl (tys ++ tyf u) s → va_P D vwCl (wr ++ wf u) H1 → va_D A (wr ++ wf u) → va_S A H0 H1 locs1 → W p l e R s m args below meth c H1 locs1 (cells + mc) (slots + ms) Q (F0 m (pc + 3) ls (.int r :: rest))) : W p l e R s m args below meth c H locs cells slots Q (F0 m pc ls st) := by
  have hF := va_free (wc := wc) hD hS hA isC hC
  refine va_calli (va_runV (As := As) (rest := rest) S hM cw ⟨zPc_blind, va_recv hK hP hc he, fun U hU hW => zPc_in hK hP hD isC hC hn it hT hU hW⟩ rfl ha hsz hst (lv_room hW) hdg hf) hS (fun q _ h => hF q h) hF (fun r u t H1 locs1 ht hvm hw hB hz1 hk1 hS1 => ?_)
  obtain ⟨g0, gK, gP, gD⟩ := zjoin hK hP hD hS hA isC isR hC hR hn2 hdis ht hvm hB hk1
  exact kk r u H1 locs1 hw g0 hz1 gK gP gD hS1
theorem zcallvV {S' : Type} {post : S' → Prop} {tyf : S' → List (ClassId × FieldType)} {wf : S' → va_W} (S : CallFix p m c cc nL s args Ts own) (hM : Met l y wsy rm (zPc D tc wc H.size (.ref b :: As)) (va_Qv post (zB D (va_A wc H.size) tyf n0 wf) (va_A wc H.size)) mc ms (va_A wc H.size)) (cw : CallW R s args own C index y bytes maxL ret wsy rm mc ms n)
    (hK : va_K D vwCl tys s) (hP : va_P D vwCl ws H) (hD : va_D A ws) (hS : va_S A H0 H locs) (hA : ∀ q, H0.size ≤ q → A q) (isC isR : List Nat) (hC : isC.map (fun i => ws[i]?) = wc.map some) (hn : va_nd isC = true) (hR : isR.map (fun i => ws[i]?) = wr.map some) (hn2 : va_nd isR = true) (hdis : ∀ i ∈ isR, i ∉ isC) (it : List Nat) (hT : it.filterMap (fun i => tys[i]?) = tc)
    {ci q0 : Nat} {T : u_T} {N : Nat} {fs : List Value} (hc : vwCl[ci]? = some (C, T, N)) (he : ws[q0]? = some (b, .inr (ci, fs)))
    (ha : As.length = n) (hsz : ls.size = nL) {st : List Value} (hst : st = As.reverse ++ .ref b :: rest) (hW : (rest.map fun v => v.category).sum ≤ 8) (hdg : decode cc pc = .ok (.invokevirtual index, 3)) (hf : cells + mc ≤ R.cells ∧ slots + ms ≤ R.slots)
    (kk : ∀ (u : S') (H1 : Heap) (locs1 : List Loc), post u → n0 ≤ H1.size → H.size ≤ H1.size → va_K D vwCl (tys ++ tyf u) s → va_P D vwCl (wr ++ wf u) H1 → va_D A (wr ++ wf u) → va_S A H0 H1 locs1 → W p l e R s m args below meth c H1 locs1 (cells + mc) (slots + ms) Q (F0 m (pc + 3) ls rest)) : W p l e R s m args below meth c H locs cells slots Q (F0 m pc ls st) := by
  have hF := va_free (wc := wc) hD hS hA isC hC
  refine va_callv (va_runV (As := As) (rest := rest) S hM cw ⟨zPc_blind, va_recv hK hP hc he, fun U hU hW => zPc_in hK hP hD isC hC hn it hT hU hW⟩ rfl ha hsz hst (lv_room hW) hdg hf) hS (fun q _ h => hF q h) hF (fun u t H1 locs1 ht hvm hw hB hz1 hk1 hS1 => ?_)
  obtain ⟨g0, gK, gP, gD⟩ := zjoin hK hP hD hS hA isC isR hC hR hn2 hdis ht hvm hB hk1
  exact kk u H1 locs1 hw g0 hz1 gK gP gD hS1
/-- a constructor, called by invokespecial -/
theorem zcallvI {S' : Type} {post : S' → Prop} {tyf : S' → List (ClassId × FieldType)} {wf : S' → va_W} (S : CallFix p m c cc nL s args Ts own) (hM : Met l y wsy rm (zPc D tc wc H.size (.ref b :: As)) (va_Qv post (zB D (va_A wc H.size) tyf n0 wf) (va_A wc H.size)) mc ms (va_A wc H.size)) (cw : CallB R s args own index y bytes maxL none wsy rm mc ms n ∧ y.name = "<init>" ∧ (Cond.instanceMethod y).before args s = true)
    (hK : va_K D vwCl tys s) (hP : va_P D vwCl ws H) (hD : va_D A ws) (hS : va_S A H0 H locs) (hA : ∀ q, H0.size ≤ q → A q) (isC isR : List Nat) (hC : isC.map (fun i => ws[i]?) = wc.map some) (hn : va_nd isC = true) (hR : isR.map (fun i => ws[i]?) = wr.map some) (hn2 : va_nd isR = true) (hdis : ∀ i ∈ isR, i ∉ isC) (it : List Nat) (hT : it.filterMap (fun i => tys[i]?) = tc)
    (ha : As.length = n) (hsz : ls.size = nL) {st : List Value} (hst : st = As.reverse ++ .ref b :: rest) (hW : (rest.map fun v => v.category).sum ≤ 8) (hdg : decode cc pc = .ok (.invokespecial index, 3)) (hf : cells + mc ≤ R.cells ∧ slots + ms ≤ R.slots)
    (kk : ∀ (u : S') (H1 : Heap) (locs1 : List Loc), post u → n0 ≤ H1.size → H.size ≤ H1.size → va_K D vwCl (tys ++ tyf u) s → va_P D vwCl (wr ++ wf u) H1 → va_D A (wr ++ wf u) → va_S A H0 H1 locs1 → W p l e R s m args below meth c H1 locs1 (cells + mc) (slots + ms) Q (F0 m (pc + 3) ls rest)) : W p l e R s m args below meth c H locs cells slots Q (F0 m pc ls st) := by
  have hF := va_free (wc := wc) hD hS hA isC hC
  refine va_callv (va_runI (As := As) (rest := rest) S hM cw ⟨zPc_blind, fun U hU hW => zPc_in hK hP hD isC hC hn it hT hU hW⟩ rfl ha hsz hst (lv_room hW) hdg hf) hS (fun q _ h => hF q h) hF (fun u t H1 locs1 ht hvm hw hB hz1 hk1 hS1 => ?_)
  obtain ⟨g0, gK, gP, gD⟩ := zjoin hK hP hD hS hA isC isR hC hR hn2 hdis ht hvm hB hk1
  exact kk u H1 locs1 hw g0 hz1 gK gP gD hS1
/-- a nest mate's private constructor -/
theorem zcallvIN {S' : Type} {post : S' → Prop} {tyf : S' → List (ClassId × FieldType)} {wf : S' → va_W} {host : String} (S : CallFix p m c cc nL s args Ts own) (hM : Met l y wsy rm (zPc D tc wc H.size (.ref b :: As)) (va_Qv post (zB D (va_A wc H.size) tyf n0 wf) (va_A wc H.size)) mc ms (va_A wc H.size)) (cw : va_CN R s args own index y host bytes maxL none wsy rm mc ms n ∧ y.name = "<init>" ∧ (Cond.instanceMethod y).before args s = true)
    (hK : va_K D vwCl tys s) (hP : va_P D vwCl ws H) (hD : va_D A ws) (hS : va_S A H0 H locs) (hA : ∀ q, H0.size ≤ q → A q) (isC isR : List Nat) (hC : isC.map (fun i => ws[i]?) = wc.map some) (hn : va_nd isC = true) (hR : isR.map (fun i => ws[i]?) = wr.map some) (hn2 : va_nd isR = true) (hdis : ∀ i ∈ isR, i ∉ isC) (it : List Nat) (hT : it.filterMap (fun i => tys[i]?) = tc)
    (ha : As.length = n) (hsz : ls.size = nL) {st : List Value} (hst : st = As.reverse ++ .ref b :: rest) (hW : (rest.map fun v => v.category).sum ≤ 8) (hdg : decode cc pc = .ok (.invokespecial index, 3)) (hf : cells + mc ≤ R.cells ∧ slots + ms ≤ R.slots)
    (kk : ∀ (u : S') (H1 : Heap) (locs1 : List Loc), post u → n0 ≤ H1.size → H.size ≤ H1.size → va_K D vwCl (tys ++ tyf u) s → va_P D vwCl (wr ++ wf u) H1 → va_D A (wr ++ wf u) → va_S A H0 H1 locs1 → W p l e R s m args below meth c H1 locs1 (cells + mc) (slots + ms) Q (F0 m (pc + 3) ls rest)) : W p l e R s m args below meth c H locs cells slots Q (F0 m pc ls st) := by
  have hF := va_free (wc := wc) hD hS hA isC hC
  refine va_callv (va_runIN (As := As) (rest := rest) S hM cw ⟨zPc_blind, fun U hU hW => zPc_in hK hP hD isC hC hn it hT hU hW⟩ rfl ha hsz hst (lv_room hW) hdg hf) hS (fun q _ h => hF q h) hF (fun u t H1 locs1 ht hvm hw hB hz1 hk1 hS1 => ?_)
  obtain ⟨g0, gK, gP, gD⟩ := zjoin hK hP hD hS hA isC isR hC hR hn2 hdis ht hvm hB hk1
  exact kk u H1 locs1 hw g0 hz1 gK gP gD hS1
/-- a new array, and that the heap is longer by one cell -/
theorem znewa (hexec : p.tables.exec = Jvm.exec) (hb : c.code = cc) {atype : ArrayType} (harr : (Cond.arrayClass (newarray.typeOf atype)).before args s = true) {ty : FieldType} (hty : newarray.typeOf atype = ty) (hK : va_K D vwCl tys s) (hP : va_P D vwCl ws H) (hD : va_D A ws) (hS : va_S A H0 H locs) (hA : ∀ q, H0.size ≤ q → A q)
    {k : Int32} {N' : Nat} {a0 : vp_A} (ha : ∀ cA : ClassId, vp_cell cA a0 = arrV cA N' (fun _ => defaultValue ty)) (hn : ¬ k < 0) (hN : k.toNatClampNeg = N') (hbytes : N' * componentBytes ty ≤ 536870912) (hcells : cells + 1 ≤ R.cells) (hslots : slots + N' ≤ R.slots) (hdg : decode cc pc = .ok (.newarray atype, 2))
    (kk : ∀ (q : Nat) (cA : ClassId) (H1 : Heap), H1.size = H.size + 1 → va_K D vwCl (tys ++ [(cA, ty)]) s → va_P D vwCl (ws ++ [(q, .inl (cA, a0))]) H1 → va_D A (ws ++ [(q, .inl (cA, a0))]) → va_S A H0 H1 locs →
      W p l e R s m args below meth c H1 locs (cells + 1) (slots + N') Q (F0 m (pc + 2) ls (.ref q :: rest))) : W p l e R s m args below meth c H locs cells slots Q (F0 m pc ls (.int k :: rest)) := by
  subst hty
  refine va_newaK hexec hb harr rfl hdg rfl hn hN hbytes hcells hslots rfl fun H1 cA e1 z1 o1 hAr hNm => ?_
  have hk : ∀ (k : Nat) (x : Nat × va_E), ws[k]? = some x → H1[x.1]? = H[x.1]? := fun k x hx => o1 x.1 ((hP k x hx).lt)
  refine kk H.size cA H1 z1 ⟨hK.1, fun k x hx => ?_⟩ ((hP.kept hk).app (fun k x hx => ?_)) (hD.push hP rfl (hA _ hS.1)) ⟨Nat.le_trans hS.1 (by omega), fun x h1 h2 => (o1 x (Nat.lt_of_lt_of_le h1 hS.1)).trans (hS.2.1 x h1 h2), hS.2.2⟩
  · by_cases hl : k < tys.length
    · rw [List.getElem?_append_left hl] at hx
      exact hK.2 k x hx
    · rw [List.getElem?_append_right (by omega)] at hx
      have hz : k - tys.length < 1 := (List.getElem?_eq_some_iff.mp hx).1
      rw [show k - tys.length = 0 by omega] at hx
      cases hx
      exact ⟨hAr, by cases atype <;> exact hNm⟩
  · have hz : k < 1 := (List.getElem?_eq_some_iff.mp hx).1
    rw [show k = 0 by omega] at hx
    cases hx
    show H1[H.size]? = some (vp_cell _ _)
    rw [ha]
    exact e1
end ZC
/-- a method's start with premises of the tables beside -/
def zPcK (D : zG) (tys : List (ClassId × FieldType)) (ws : va_W) (sz : Nat) (K : State → Prop) (av : List Value) : Array Value → State → Prop :=
  va_Pc av (fun U => (U.heap.size = sz ∧ va_P D vwCl ws U.heap ∧ va_K D vwCl tys U ∧ va_D (fun _ => True) ws) ∧ K U)
theorem zPcK_blind {D : zG} {tys : List (ClassId × FieldType)} {ws : va_W} {sz : Nat} {K : State → Prop} {av : List Value} (hk : ∀ (a : Array Value) (U : State) (g : JFrame) (mk : MethodId), K U → K (U.calling g mk a)) : FrameBlind (zPcK D tys ws sz K av) := fun a U g mk q => by
  obtain ⟨q0, ⟨q1, qP, qK, qD⟩, q2⟩ := q
  exact ⟨q0, ⟨q1, qP, va_K.moved (u := U) (U := U.calling g mk a) (Vm.Alike.refl U.vm) qK, qD⟩, hk a U g mk q2⟩
section ZQ
variable {p : Program} {l : Launch} {e : Env} {R : Room} {s : State} {m : MethodId} {args : Array Value} {below : List Frame} {meth : Method} {c : Code} {H : Heap} {locs : List Loc} {cells slots : Nat} {Q : State → Prop}
variable {pc : Nat} {ls : Array Slot} {rest As : List Value} {A : Nat → Prop} {H0 : Heap} {mc ms n index nL maxL : Nat} {D : zG} {tys tc : List (ClassId × FieldType)} {ws wc wr X cx pl : va_W} {y : MethodName} {bytes cc : ByteArray} {ret : Option FieldType} {wsy Ts : List Cond} {rm : Room} {own C : String} {b n0 : Nat}
/-- a nest mate's private constructor -/
theorem zcallvINK {S' : Type} {post : S' → Prop} {tyf : S' → List (ClassId × FieldType)} {wf : S' → va_W} {host : String} {KK : State → Prop} (S : CallFix p m c cc nL s args Ts own) (hM : Met l y wsy rm (zPcK D tc wc H.size KK (.ref b :: As)) (va_Qv post (zB D (va_A wc H.size) tyf n0 wf) (va_A wc H.size)) mc ms (va_A wc H.size)) (cw : va_CN R s args own index y host bytes maxL none wsy rm mc ms n ∧ y.name = "<init>" ∧ (Cond.instanceMethod y).before args s = true) (hkb : ∀ (a : Array Value) (U : State) (g : JFrame) (mk : MethodId), KK U → KK (U.calling g mk a)) (hks : ∀ U : State, s.WarmedH U.vm → KK U)
    (hK : va_K D vwCl tys s) (hP : va_P D vwCl ws H) (hD : va_D A ws) (hS : va_S A H0 H locs) (hA : ∀ q, H0.size ≤ q → A q) (isC isR : List Nat) (hC : isC.map (fun i => ws[i]?) = wc.map some) (hn : va_nd isC = true) (hR : isR.map (fun i => ws[i]?) = wr.map some) (hn2 : va_nd isR = true) (hdis : ∀ i ∈ isR, i ∉ isC) (it : List Nat) (hT : it.filterMap (fun i => tys[i]?) = tc)
    (ha : As.length = n) (hsz : ls.size = nL) {st : List Value} (hst : st = As.reverse ++ .ref b :: rest) (hW : (rest.map fun v => v.category).sum ≤ 8) (hdg : decode cc pc = .ok (.invokespecial index, 3)) (hf : cells + mc ≤ R.cells ∧ slots + ms ≤ R.slots)
    (kk : ∀ (u : S') (H1 : Heap) (locs1 : List Loc), post u → n0 ≤ H1.size → H.size ≤ H1.size → va_K D vwCl (tys ++ tyf u) s → va_P D vwCl (wr ++ wf u) H1 → va_D A (wr ++ wf u) → va_S A H0 H1 locs1 → W p l e R s m args below meth c H1 locs1 (cells + mc) (slots + ms) Q (F0 m (pc + 3) ls rest)) : W p l e R s m args below meth c H locs cells slots Q (F0 m pc ls st) := by
  have hF := va_free (wc := wc) hD hS hA isC hC
  refine va_callv (va_runIN (As := As) (rest := rest) S hM cw ⟨zPcK_blind hkb, fun U hU hW => by
    obtain ⟨a1, a2⟩ := zPc_in (av := .ref b :: As) hK hP hD isC hC hn it hT hU hW
    exact ⟨a1, a2, hks U hW⟩⟩ rfl ha hsz hst (lv_room hW) hdg hf) hS (fun q _ h => hF q h) hF (fun u t H1 locs1 ht hvm hw hB hz1 hk1 hS1 => ?_)
  obtain ⟨g0, gK, gP, gD⟩ := zjoin hK hP hD hS hA isC isR hC hR hn2 hdis ht hvm hB hk1
  exact kk u H1 locs1 hw g0 hz1 gK gP gD hS1
theorem zPc_in2 {U : State} {av : List Value} (hK : va_K D vwCl tys s) (hPc : va_P D vwCl wc H) (hDc : va_D A wc) (it : List Nat) (hT : it.filterMap (fun i => tys[i]?) = tc) (hU : U.heap = H) (hW : s.WarmedH U.vm) : zPc D tc wc H.size av av.toArray U :=
  ⟨rfl, by rw [hU], by rw [hU]; exact hPc, (va_K.moved hW.alike hK).sub it hT, hDc.weaken (fun _ _ _ _ => trivial)⟩
/-- a read-only call, its world handed over -/
theorem zrdV2 {post : Int32 → Prop} (S : CallFix p m c cc nL s args Ts own) (hM : Met l y wsy rm (zPc D tc wc H.size (.ref b :: As)) (vp_Si post) 0 0 (fun _ => False)) (cw : CallW R s args own C index y bytes maxL ret wsy rm 0 0 n)
    (hK : va_K D vwCl tys s) (hPc : va_P D vwCl wc H) (hDc : va_D A wc) (it : List Nat) (hT : it.filterMap (fun i => tys[i]?) = tc)
    {ci q0 : Nat} {T : u_T} {N : Nat} {fs : List Value} (hc : vwCl[ci]? = some (C, T, N)) (he : wc[q0]? = some (b, .inr (ci, fs)))
    (ha : As.length = n) (hsz : ls.size = nL) {st : List Value} (hst : st = As.reverse ++ .ref b :: rest) (hW : (rest.map fun v => v.category).sum ≤ 8) (hdg : decode cc pc = .ok (.invokevirtual index, 3)) (hf : cells ≤ R.cells ∧ slots ≤ R.slots)
    (kk : ∀ r : Int32, post r → W p l e R s m args below meth c H locs cells slots Q (F0 m (pc + 3) ls (.int r :: rest))) : W p l e R s m args below meth c H locs cells slots Q (F0 m pc ls st) :=
  vp_callSi (W.runV (As := As) (rest := rest) S hM cw ⟨zPc_blind, va_recv hK hPc hc he, fun U hU hW => zPc_in2 hK hPc hDc it hT hU hW⟩ rfl ha hsz hst (lv_room hW) hdg hf) kk
theorem zrdVq2 {post : Option Nat → Prop} (S : CallFix p m c cc nL s args Ts own) (hM : Met l y wsy rm (zPc D tc wc H.size (.ref b :: As)) (va_Sq post) 0 0 (fun _ => False)) (cw : CallW R s args own C index y bytes maxL ret wsy rm 0 0 n)
    (hK : va_K D vwCl tys s) (hPc : va_P D vwCl wc H) (hDc : va_D A wc) (it : List Nat) (hT : it.filterMap (fun i => tys[i]?) = tc)
    {ci q0 : Nat} {T : u_T} {N : Nat} {fs : List Value} (hc : vwCl[ci]? = some (C, T, N)) (he : wc[q0]? = some (b, .inr (ci, fs)))
    (ha : As.length = n) (hsz : ls.size = nL) {st : List Value} (hst : st = As.reverse ++ .ref b :: rest) (hW : (rest.map fun v => v.category).sum ≤ 8) (hdg : decode cc pc = .ok (.invokevirtual index, 3)) (hf : cells ≤ R.cells ∧ slots ≤ R.slots)
    (kk : ∀ r : Option Nat, post r → W p l e R s m args below meth c H locs cells slots Q (F0 m (pc + 3) ls (va_rf r :: rest))) : W p l e R s m args below meth c H locs cells slots Q (F0 m pc ls st) :=
  va_csq (W.runV (As := As) (rest := rest) S hM cw ⟨zPc_blind, va_recv hK hPc hc he, fun U hU hW => zPc_in2 hK hPc hDc it hT hU hW⟩ rfl ha hsz hst (lv_room hW) hdg hf) kk
/-- a writing call over some explicit cells; a pool stays beside -/
theorem zcalliVQ {S' : Type} {post : Int32 → S' → Prop} {tyf : S' → List (ClassId × FieldType)} {wf : S' → va_W} (S : CallFix p m c cc nL s args Ts own) (hM : Met l y wsy rm (zPc D tc cx H.size (.ref b :: As)) (va_Qi post (zB D (va_A cx H.size) tyf n0 wf) (va_A cx H.size)) mc ms (va_A cx H.size)) (cw : CallW R s args own C index y bytes maxL ret wsy rm mc ms n)
    (hK : va_K D vwCl tys s) (hP : va_P D vwCl (X ++ pl) H) (hD : va_D A (X ++ pl)) (hS : va_S A H0 H locs) (hA : ∀ q, H0.size ≤ q → A q) (isC isR : List Nat) (hC : isC.map (fun i => X[i]?) = cx.map some) (hn : va_nd isC = true) (hR : isR.map (fun i => X[i]?) = wr.map some) (hn2 : va_nd isR = true) (hdis : ∀ i ∈ isR, i ∉ isC) (it : List Nat) (hT : it.filterMap (fun i => tys[i]?) = tc)
    {ci q0 : Nat} {T : u_T} {N : Nat} {fs : List Value} (hc : vwCl[ci]? = some (C, T, N)) (he : cx[q0]? = some (b, .inr (ci, fs)))
    (ha : As.length = n) (hsz : ls.size = nL) {st : List Value} (hst : st = As.reverse ++ .ref b :: rest) (hW : (rest.map fun v => v.category).sum ≤ 8) (hdg : decode cc pc = .ok (.invokevirtual index, 3)) (hf : cells + mc ≤ R.cells ∧ slots + ms ≤ R.slots)
    (kk : ∀ (r : Int32) (u : S') (H1 : Heap) (locs1 : List Loc), post r u → n0 ≤ H1.size → H.size ≤ H1.size → va_K D vwCl (tys ++ tyf u) s → va_P D vwCl ((wr ++ wf u) ++ pl) H1 → va_D A ((wr ++ wf u) ++ pl) → va_S A H0 H1 locs1 → W p l e R s m args below meth c H1 locs1 (cells + mc) (slots + ms) Q (F0 m (pc + 3) ls (.int r :: rest))) : W p l e R s m args below meth c H locs cells slots Q (F0 m pc ls st) := by
  have hPx : va_P D vwCl (X ++ []) H := hP.by (fun k => k) (fun k q hk => by
    rw [List.append_nil] at hk
    rw [List.getElem?_append_left (List.getElem?_eq_some_iff.mp hk).1]; exact hk)
  have hDx : va_D A (X ++ []) := hD.by (fun k => k) (fun k q hk => by
    rw [List.append_nil] at hk
    rw [List.getElem?_append_left (List.getElem?_eq_some_iff.mp hk).1]; exact hk) (fun _ _ _ _ h => h)
  rw [List.append_nil] at hPx hDx
  have hF : ∀ q, va_A cx H.size q → A q := va_free (wc := cx) hDx hS hA isC hC
  have hC' : isC.filterMap (fun i => X[i]?) = cx := by
    have : (isC.map (fun i => X[i]?)).filterMap id = (cx.map some).filterMap id := by rw [hC]
    simpa [List.filterMap_map] using this
  have hPc := hPx.sub isC hC'
  have hDc := hDx.sub isC hn hC
  refine va_calli (va_runV (As := As) (rest := rest) S hM cw ⟨zPc_blind, va_recv hK hPc hc he, fun U hU hW => zPc_in2 hK hPc hDc it hT hU hW⟩ rfl ha hsz hst (lv_room hW) hdg hf) hS (fun q _ h => hF q h) hF (fun r u t H1 locs1 ht hvm hw hB hz1 hk1 hS1 => ?_)
  obtain ⟨g0, hP1, hK1, hD1⟩ := hB
  rw [ht] at g0 hP1
  obtain ⟨a1, a2⟩ := va_joinQ (wr := wr) (w1 := wf u) hP hD isC isR hC hR hn2 hdis hk1 hF hP1 hD1
  exact kk r u H1 locs1 hw g0 hz1 (hK.app (va_K.moved hvm.symm hK1)) a1 a2 hS1
/-- a writing call that takes the pool too -/
theorem zcalliVP {S' : Type} {post : Int32 → S' → Prop} {tyf : S' → List (ClassId × FieldType)} {wf plf : S' → va_W} (S : CallFix p m c cc nL s args Ts own) (hM : Met l y wsy rm (zPc D tc (cx ++ pl) H.size (.ref b :: As)) (va_Qi post (zB D (va_A (cx ++ pl) H.size) tyf n0 (fun u => wf u ++ plf u)) (va_A (cx ++ pl) H.size)) mc ms (va_A (cx ++ pl) H.size)) (cw : CallW R s args own C index y bytes maxL ret wsy rm mc ms n)
    (hK : va_K D vwCl tys s) (hP : va_P D vwCl (X ++ pl) H) (hD : va_D A (X ++ pl)) (hS : va_S A H0 H locs) (hA : ∀ q, H0.size ≤ q → A q) (isC isR : List Nat) (hC : isC.map (fun i => X[i]?) = cx.map some) (hn : va_nd isC = true) (hR : isR.map (fun i => X[i]?) = wr.map some) (hn2 : va_nd isR = true) (hdis : ∀ i ∈ isR, i ∉ isC) (it : List Nat) (hT : it.filterMap (fun i => tys[i]?) = tc)
    {ci q0 : Nat} {T : u_T} {N : Nat} {fs : List Value} (hc : vwCl[ci]? = some (C, T, N)) (he : cx[q0]? = some (b, .inr (ci, fs)))
    (ha : As.length = n) (hsz : ls.size = nL) {st : List Value} (hst : st = As.reverse ++ .ref b :: rest) (hW : (rest.map fun v => v.category).sum ≤ 8) (hdg : decode cc pc = .ok (.invokevirtual index, 3)) (hf : cells + mc ≤ R.cells ∧ slots + ms ≤ R.slots)
    (kk : ∀ (r : Int32) (u : S') (H1 : Heap) (locs1 : List Loc), post r u → n0 ≤ H1.size → H.size ≤ H1.size → va_K D vwCl (tys ++ tyf u) s → va_P D vwCl ((wr ++ wf u) ++ plf u) H1 → va_D A ((wr ++ wf u) ++ plf u) → va_S A H0 H1 locs1 → W p l e R s m args below meth c H1 locs1 (cells + mc) (slots + ms) Q (F0 m (pc + 3) ls (.int r :: rest))) : W p l e R s m args below meth c H locs cells slots Q (F0 m pc ls st) := by
  have hF : ∀ q, va_A (cx ++ pl) H.size q → A q := va_freeP hD hS hA isC hC
  have hPc := hP.part isC hC
  have hDc := hD.part isC hn hC
  refine va_calli (va_runV (As := As) (rest := rest) S hM cw ⟨zPc_blind, va_recv hK hPc hc (q0 := q0) (by rw [List.getElem?_append_left (List.getElem?_eq_some_iff.mp he).1]; exact he), fun U hU hW => zPc_in2 hK hPc hDc it hT hU hW⟩ rfl ha hsz hst (lv_room hW) hdg hf) hS (fun q _ h => hF q h) hF (fun r u t H1 locs1 ht hvm hw hB hz1 hk1 hS1 => ?_)
  obtain ⟨g0, hP1, hK1, hD1⟩ := hB
  rw [ht] at g0 hP1
  obtain ⟨a1, a2⟩ := va_joinP (wr := wr) (rx := wf u) (pl1 := plf u) hP hD isC isR hC hR hn2 hdis hk1 hF hP1 hD1
  exact kk r u H1 locs1 hw g0 hz1 (hK.app (va_K.moved hvm.symm hK1)) a1 a2 hS1
end ZQ
/-- the lines of an order: n objects of one kind, one box each, put aside or not -/
def zL (k0 : Nat) (ad : Nat → Nat) (as : Nat → Int32) (n : Nat) : va_W := (List.range n).map (fun i => (ad i, .inr (2, [.ref k0, .int 1, .int (as i)])))
theorem zL_get {X : va_W} {k0 : Nat} {ad : Nat → Nat} {as : Nat → Int32} {n i k : Nat} (h : i < n) (hX : X.length = k) : (X ++ zL k0 ad as n)[k + i]? = some (ad i, .inr (2, [.ref k0, .int 1, .int (as i)])) := by
  subst hX
  rw [List.getElem?_append_right (Nat.le_add_right _ _), Nat.add_sub_cancel_left]
  simp [zL, h]
theorem zL_set {X : va_W} {k0 : Nat} {ad : Nat → Nat} {as : Nat → Int32} {n i k : Nat} {v : Int32} (hX : X.length = k) : (X ++ zL k0 ad as n).set (k + i) (ad i, .inr (2, [.ref k0, .int 1, .int v])) = X ++ zL k0 ad (upd as i v) n := by
  subst hX
  rw [List.set_append_right _ _ (Nat.le_add_right _ _), Nat.add_sub_cancel_left]
  congr 1
  apply List.ext_getElem?
  intro j
  rw [List.getElem?_set]
  by_cases hj : i = j
  · subst hj
    by_cases hi : i < n
    · simp [zL, hi, upd]
    · simp [zL, hi]
  · have hj' : ¬ j = i := fun h => hj h.symm
    by_cases hjn : j < n
    · simp [zL, hj, hj', upd, hjn]
    · simp [zL, hj, hjn]
theorem zL_push {X : va_W} {k0 q : Nat} {ad : Nat → Nat} {as : Nat → Int32} {n : Nat} {v : Int32} : (X ++ zL k0 ad as n) ++ [(q, .inr (2, [.ref k0, .int 1, .int v]))] = X ++ zL k0 (va_up ad n q) (upd as n v) (n + 1) := by
  rw [List.append_assoc]
  congr 1
  unfold zL
  rw [List.range_succ, List.map_append]
  congr 1
  · apply List.map_congr_left
    intro i hi
    have : i ≠ n := Nat.ne_of_lt (List.mem_range.mp hi)
    simp [va_up, upd, this]
  · simp [va_up, upd]
theorem zL_ext {k0 : Nat} {ad : Nat → Nat} {as as' : Nat → Int32} {n : Nat} (h : ∀ i, i < n → as i = as' i) : zL k0 ad as n = zL k0 ad as' n := by
  unfold zL
  apply List.map_congr_left
  intro i hi
  rw [h i (List.mem_range.mp hi)]

theorem zP_perm {D : zG} {ws ws' : va_W} {H : Heap} (h : ws.Perm ws') (hP : va_P D vwCl ws H) : va_P D vwCl ws' H := fun k q hk => by
  obtain ⟨j, hj⟩ := List.getElem?_of_mem (h.mem_iff.mpr (List.mem_of_getElem? hk))
  exact hP j q hj
theorem zD_nodup {A : Nat → Prop} {ws : va_W} : va_D A ws ↔ (ws.map Prod.fst).Nodup ∧ ∀ q ∈ ws, A q.1 := by
  constructor
  · intro h
    refine ⟨?_, fun q hq => ?_⟩
    · rw [List.Nodup, List.pairwise_iff_getElem]
      intro i j hi hj hij he
      rw [List.length_map] at hi hj
      rw [List.getElem_map, List.getElem_map] at he
      exact absurd (h.1 i j _ _ (List.getElem?_eq_getElem hi) (List.getElem?_eq_getElem hj) he) (by omega)
    · obtain ⟨j, hj⟩ := List.getElem?_of_mem hq
      exact h.2 j q hj
  · intro h
    refine ⟨fun i j x y hx hy hxy => ?_, fun k q hk => h.2 q (List.mem_of_getElem? hk)⟩
    obtain ⟨hi, rfl⟩ := List.getElem?_eq_some_iff.mp hx
    obtain ⟨hj, rfl⟩ := List.getElem?_eq_some_iff.mp hy
    have hn := List.pairwise_iff_getElem.mp h.1
    rcases Nat.lt_trichotomy i j with q | q | q
    · exact absurd (by rw [List.getElem_map, List.getElem_map]; exact hxy) (hn i j (by simpa using hi) (by simpa using hj) q)
    · exact q
    · exact absurd (by rw [List.getElem_map, List.getElem_map]; exact hxy.symm) (hn j i (by simpa using hj) (by simpa using hi) q)
theorem zD_perm {A : Nat → Prop} {ws ws' : va_W} (h : ws.Perm ws') (hD : va_D A ws) : va_D A ws' := by
  rw [zD_nodup] at hD ⊢
  exact ⟨(h.map Prod.fst).nodup_iff.mp hD.1, fun q hq => hD.2 q (h.mem_iff.mpr hq)⟩
/-- a new line goes to the others' end -/
theorem zL_in {X : va_W} {k0 q : Nat} {ad : Nat → Nat} {as : Nat → Int32} {n : Nat} {v : Int32} : List.Perm (α := Nat × va_E) ((X ++ [(q, .inr (2, [.ref k0, .int 1, .int v]))]) ++ zL k0 ad as n) (X ++ zL k0 (va_up ad n q) (upd as n v) (n + 1)) := by
  rw [← zL_push, List.append_assoc, List.append_assoc]
  exact List.Perm.append_left X List.perm_append_comm
end
section
set_option maxHeartbeats 4000000 in
set_option maxRecDepth 100000 in
/-- isWithin -/
theorem c_isWithin (l : Launch) (D : zG) (sz : Nat) (a b c1 : Int32) : Met l yX3_isWithin wsX3_isWithin ({ frames := 0, cells := 0, slots := 0, locals := 0 }) (zPc D [] ([]) sz [.int a, .int b, .int c1]) (vp_Si (fun r => r = if b ≤ a ∧ a ≤ c1 then 1 else 0)) 0 0 (fun _ => False) := by
  refine Met.ofW (cc := cX3_isWithin) (maxL := 3) (ret := (some .boolean)) (by decide) rfl ?_
  intro p e s m args below meth c s₁ B hml hv
  obtain ⟨rfl, hsz, hP, hK, hD0⟩ := hv
  have hx := B.exec
  have hb := B.bytes
  have hr := B.returns
  have hts := atoms_spec (ws := wsX3_isWithin) B.pre
  have hown : s.vm.findClass RX3 = some m.cls := findClass_of_methodNamed B.named
  have hlocks := B.notSynchronized
  subst hsz
  have hD := hD0
  generalize hAe : (fun _ : Nat => True) = A at hD
  have hl := lv_entry ([.int a, .int b, .int c1]) (n := 3) (Nat.le_of_ble_eq_true rfl)
  rw [lg_entry_eq]
  generalize (lg_sl ([.int a, .int b, .int c1]) ++ List.replicate (3 - (lg_sl ([.int a, .int b, .int c1])).length) Slot.unset).toArray = ls at hl ⊢
  have hl : lv_has ls 3 [(0, .int a), (1, .int b), (2, .int c1)] := hl
  have hP : va_P D vwCl ([]) s.heap := hP
  generalize hRe : (headSpec _ _).room = R
  have hRf : R.frames = 0 := by rw [← hRe]; rfl
  have hRc : R.cells = 0 := by rw [← hRe]; rfl
  have hRs : R.slots = 0 := by rw [← hRe]; rfl
  have hRl : R.locals = 0 := by rw [← hRe]; rfl
  clear hRe
  refine lv_iload_n hx hb dX3_isWithin_0 rfl (lv_at hl 0 rfl) ?_
  refine lv_iload_n hx hb dX3_isWithin_1 rfl (lv_at hl 1 rfl) ?_
  refine lv_icmp_lt (tgt := 14) hx hb dX3_isWithin_2 (by decide) (fun c_1 => ?_) (fun c_1 => ?_)
  · have h_b := True.intro
    refine lv_iconst (v := 0) hx hb dX3_isWithin_14 (by decide) ?_
    exact W.zret (ty := .boolean) (v := 0) hx hb hr rfl (fun t ht hW => ⟨0, rfl, (if_neg (fun h => absurd h.1 (Int32.not_le.mpr c_1))).symm, ht⟩) (fun _ h => by cases h) dX3_isWithin_15
  · have h_b := True.intro
    refine lv_iload_n hx hb dX3_isWithin_5 rfl (lv_at hl 0 rfl) ?_
    refine lv_iload_n hx hb dX3_isWithin_6 rfl (lv_at hl 2 rfl) ?_
    refine lv_icmp_gt (tgt := 14) hx hb dX3_isWithin_7 (by decide) (fun c_2 => ?_) (fun c_2 => ?_)
    · have h_b := True.intro
      refine lv_iconst (v := 0) hx hb dX3_isWithin_14 (by decide) ?_
      exact W.zret (ty := .boolean) (v := 0) hx hb hr rfl (fun t ht hW => ⟨0, rfl, (if_neg (fun h => absurd h.2 (Int32.not_le.mpr c_2))).symm, ht⟩) (fun _ h => by cases h) dX3_isWithin_15
    · have h_b := True.intro
      refine lv_iconst (v := 1) hx hb dX3_isWithin_10 (by decide) ?_
      refine lv_goto (tgt := 15) hx hb dX3_isWithin_11 (by decide) ?_
      exact W.zret (ty := .boolean) (v := 1) hx hb hr rfl (fun t ht hW => ⟨1, rfl, (if_pos ⟨Int32.not_lt.mp c_1, Int32.not_lt.mp c_2⟩).symm, ht⟩) (fun _ h => by cases h) dX3_isWithin_15
set_option maxHeartbeats 4000000 in
set_option maxRecDepth 100000 in
/-- xOf -/
theorem c_xOf (l : Launch) (D : zG) (sz : Nat) (c1 : Nat) (hc : c1 < 240) : Met l yX3_xOf wsX3_xOf ({ frames := 0, cells := 0, slots := 0, locals := 0 }) (zPc D [] ([]) sz [.int (nI c1)]) (vp_Si (fun r => r = nI (c1 / 2 % 12))) 0 0 (fun _ => False) := by
  refine Met.ofW (cc := cX3_xOf) (maxL := 1) (ret := (some .int)) (by decide) rfl ?_
  intro p e s m args below meth c s₁ B hml hv
  obtain ⟨rfl, hsz, hP, hK, hD0⟩ := hv
  have hx := B.exec
  have hb := B.bytes
  have hr := B.returns
  have hts := atoms_spec (ws := wsX3_xOf) B.pre
  have hown : s.vm.findClass RX3 = some m.cls := findClass_of_methodNamed B.named
  have hlocks := B.notSynchronized
  subst hsz
  have hD := hD0
  generalize hAe : (fun _ : Nat => True) = A at hD
  have hl := lv_entry ([.int (nI c1)]) (n := 1) (Nat.le_of_ble_eq_true rfl)
  rw [lg_entry_eq]
  generalize (lg_sl ([.int (nI c1)]) ++ List.replicate (1 - (lg_sl ([.int (nI c1)])).length) Slot.unset).toArray = ls at hl ⊢
  have hl : lv_has ls 1 [(0, .int (nI c1))] := hl
  have hP : va_P D vwCl ([]) s.heap := hP
  generalize hRe : (headSpec _ _).room = R
  have hRf : R.frames = 0 := by rw [← hRe]; rfl
  have hRc : R.cells = 0 := by rw [← hRe]; rfl
  have hRs : R.slots = 0 := by rw [← hRe]; rfl
  have hRl : R.locals = 0 := by rw [← hRe]; rfl
  clear hRe
  refine lv_iload_n hx hb dX3_xOf_0 rfl (lv_at hl 0 rfl) ?_
  refine lv_iconst (v := 2) hx hb dX3_xOf_1 (by decide) ?_
  refine lv_idiv hx hb dX3_xOf_2 (by decide) ?_
  refine lv_topi (fun v_3 ev_3 => ?_)
  obtain rfl : v_3 = (nI (c1 / 2)) := ev_3.trans (pk_div (d := 2) (by omega) (by decide) (by decide))
  refine lv_bipush (v := 12) hx hb dX3_xOf_3 (by decide) ?_
  refine lv_irem hx hb dX3_xOf_5 (by decide) ?_
  refine lv_topi (fun v_4 ev_4 => ?_)
  obtain rfl : v_4 = (nI (c1 / 2 % 12)) := ev_4.trans (pk_rem (d := 12) (by omega) (by decide) (by decide))
  exact W.iret (v := (nI (c1 / 2 % 12))) hx hb hr (fun t ht hW => ⟨(nI (c1 / 2 % 12)), rfl, rfl, ht⟩) (fun _ h => by cases h) dX3_xOf_6
set_option maxHeartbeats 4000000 in
set_option maxRecDepth 100000 in
/-- yOf -/
theorem c_yOf (l : Launch) (D : zG) (sz : Nat) (c1 : Nat) (hc : c1 < 240) : Met l yX3_yOf wsX3_yOf ({ frames := 0, cells := 0, slots := 0, locals := 0 }) (zPc D [] ([]) sz [.int (nI c1)]) (vp_Si (fun r => r = nI (c1 / 2 / 12))) 0 0 (fun _ => False) := by
  refine Met.ofW (cc := cX3_yOf) (maxL := 1) (ret := (some .int)) (by decide) rfl ?_
  intro p e s m args below meth c s₁ B hml hv
  obtain ⟨rfl, hsz, hP, hK, hD0⟩ := hv
  have hx := B.exec
  have hb := B.bytes
  have hr := B.returns
  have hts := atoms_spec (ws := wsX3_yOf) B.pre
  have hown : s.vm.findClass RX3 = some m.cls := findClass_of_methodNamed B.named
  have hlocks := B.notSynchronized
  subst hsz
  have hD := hD0
  generalize hAe : (fun _ : Nat => True) = A at hD
  have hl := lv_entry ([.int (nI c1)]) (n := 1) (Nat.le_of_ble_eq_true rfl)
  rw [lg_entry_eq]
  generalize (lg_sl ([.int (nI c1)]) ++ List.replicate (1 - (lg_sl ([.int (nI c1)])).length) Slot.unset).toArray = ls at hl ⊢
  have hl : lv_has ls 1 [(0, .int (nI c1))] := hl
  have hP : va_P D vwCl ([]) s.heap := hP
  generalize hRe : (headSpec _ _).room = R
  have hRf : R.frames = 0 := by rw [← hRe]; rfl
  have hRc : R.cells = 0 := by rw [← hRe]; rfl
  have hRs : R.slots = 0 := by rw [← hRe]; rfl
  have hRl : R.locals = 0 := by rw [← hRe]; rfl
  clear hRe
  refine lv_iload_n hx hb dX3_yOf_0 rfl (lv_at hl 0 rfl) ?_
  refine lv_iconst (v := 2) hx hb dX3_yOf_1 (by decide) ?_
  refine lv_idiv hx hb dX3_yOf_2 (by decide) ?_
  refine lv_topi (fun v_5 ev_5 => ?_)
  obtain rfl : v_5 = (nI (c1 / 2)) := ev_5.trans (pk_div (d := 2) (by omega) (by decide) (by decide))
  refine lv_bipush (v := 12) hx hb dX3_yOf_3 (by decide) ?_
  refine lv_idiv hx hb dX3_yOf_5 (by decide) ?_
  refine lv_topi (fun v_6 ev_6 => ?_)
  obtain rfl : v_6 = (nI (c1 / 2 / 12)) := ev_6.trans (pk_div (d := 12) (by omega) (by decide) (by decide))
  exact W.iret (v := (nI (c1 / 2 / 12))) hx hb hr (fun t ht hW => ⟨(nI (c1 / 2 / 12)), rfl, rfl, ht⟩) (fun _ h => by cases h) dX3_yOf_6
set_option maxHeartbeats 4000000 in
set_option maxRecDepth 100000 in
/-- isTurnedIn -/
theorem c_isTurnedIn (l : Launch) (D : zG) (sz : Nat) (c1 : Nat) (hc : c1 < 240) : Met l yX3_isTurnedIn wsX3_isTurnedIn ({ frames := 0, cells := 0, slots := 0, locals := 0 }) (zPc D [] ([]) sz [.int (nI c1)]) (vp_Si (fun r => r = nI (c1 % 2))) 0 0 (fun _ => False) := by
  refine Met.ofW (cc := cX3_isTurnedIn) (maxL := 1) (ret := (some .boolean)) (by decide) rfl ?_
  intro p e s m args below meth c s₁ B hml hv
  obtain ⟨rfl, hsz, hP, hK, hD0⟩ := hv
  have hx := B.exec
  have hb := B.bytes
  have hr := B.returns
  have hts := atoms_spec (ws := wsX3_isTurnedIn) B.pre
  have hown : s.vm.findClass RX3 = some m.cls := findClass_of_methodNamed B.named
  have hlocks := B.notSynchronized
  subst hsz
  have hD := hD0
  generalize hAe : (fun _ : Nat => True) = A at hD
  have hl := lv_entry ([.int (nI c1)]) (n := 1) (Nat.le_of_ble_eq_true rfl)
  rw [lg_entry_eq]
  generalize (lg_sl ([.int (nI c1)]) ++ List.replicate (1 - (lg_sl ([.int (nI c1)])).length) Slot.unset).toArray = ls at hl ⊢
  have hl : lv_has ls 1 [(0, .int (nI c1))] := hl
  have hP : va_P D vwCl ([]) s.heap := hP
  generalize hRe : (headSpec _ _).room = R
  have hRf : R.frames = 0 := by rw [← hRe]; rfl
  have hRc : R.cells = 0 := by rw [← hRe]; rfl
  have hRs : R.slots = 0 := by rw [← hRe]; rfl
  have hRl : R.locals = 0 := by rw [← hRe]; rfl
  clear hRe
  refine lv_iload_n hx hb dX3_isTurnedIn_0 rfl (lv_at hl 0 rfl) ?_
  refine lv_iconst (v := 2) hx hb dX3_isTurnedIn_1 (by decide) ?_
  refine lv_irem hx hb dX3_isTurnedIn_2 (by decide) ?_
  refine lv_topi (fun v_7 ev_7 => ?_)
  obtain rfl : v_7 = (nI (c1 % 2)) := ev_7.trans (pk_rem (d := 2) (by omega) (by decide) (by decide))
  refine lv_iconst (v := 1) hx hb dX3_isTurnedIn_3 (by decide) ?_
  refine lv_icmp_ne (tgt := 11) hx hb dX3_isTurnedIn_4 (by decide) (fun c_8 => ?_) (fun c_8 => ?_)
  · have h_b := True.intro
    refine lv_iconst (v := 0) hx hb dX3_isTurnedIn_11 (by decide) ?_
    exact W.zret (ty := .boolean) (v := 0) hx hb hr rfl (fun t ht hW => ⟨0, rfl, by rcases Nat.mod_two_eq_zero_or_one c1 with h | h <;> rw [h] at c_8 ⊢ <;> first | rfl | exact absurd rfl c_8, ht⟩) (fun _ h => by cases h) dX3_isTurnedIn_12
  · have h_b := True.intro
    refine lv_iconst (v := 1) hx hb dX3_isTurnedIn_7 (by decide) ?_
    refine lv_goto (tgt := 12) hx hb dX3_isTurnedIn_8 (by decide) ?_
    exact W.zret (ty := .boolean) (v := 1) hx hb hr rfl (fun t ht hW => ⟨1, rfl, by rcases Nat.mod_two_eq_zero_or_one c1 with h | h <;> rw [h] at c_8 ⊢ <;> first | rfl | exact absurd c_8 (by decide), ht⟩) (fun _ h => by cases h) dX3_isTurnedIn_12
end
section
set_option maxHeartbeats 4000000 in
set_option maxRecDepth 100000 in
theorem c_isInField_0 (l : Launch) (D : zG) (sz : Nat) (k0 a b : Nat) (ha : a < 12) (hb2 : b < 10) : Met l yX3_isInField wsX3_isInField ({ frames := 1, cells := 0, slots := 0, locals := 22 }) (zPc D [] ([(k0, .inr (1, [.int 0, .int 1, .int 1, .int 2, .int 1, .int 0, .int 1, .int 0]))]) sz [.ref k0, .int (nI a), .int (nI b), .int 0]) (vp_Si (fun r => r = 1)) 0 0 (fun _ => False) := by
  refine Met.ofW (cc := cX3_isInField) (maxL := 6) (ret := (some .boolean)) (by decide) rfl ?_
  intro p e s m args below meth c s₁ B hml hv
  obtain ⟨rfl, hsz, hP, hK, hD0⟩ := hv
  have hx := B.exec
  have hb := B.bytes
  have hr := B.returns
  have hts := atoms_spec (ws := wsX3_isInField) B.pre
  have hown : s.vm.findClass RX3 = some m.cls := findClass_of_methodNamed B.named
  have hlocks := B.notSynchronized
  subst hsz
  have hD := hD0
  generalize hAe : (fun _ : Nat => True) = A at hD
  have hl := lv_entry ([.ref k0, .int (nI a), .int (nI b), .int 0]) (n := 6) (Nat.le_of_ble_eq_true rfl)
  rw [lg_entry_eq]
  generalize (lg_sl ([.ref k0, .int (nI a), .int (nI b), .int 0]) ++ List.replicate (6 - (lg_sl ([.ref k0, .int (nI a), .int (nI b), .int 0])).length) Slot.unset).toArray = ls at hl ⊢
  have hl : lv_has ls 6 [(0, .ref k0), (1, .int (nI a)), (2, .int (nI b)), (3, .int 0)] := hl
  have hP : va_P D vwCl ([(k0, .inr (1, [.int 0, .int 1, .int 1, .int 2, .int 1, .int 0, .int 1, .int 0]))]) s.heap := hP
  generalize hRe : (headSpec _ _).room = R
  have hRf : R.frames = 1 := by rw [← hRe]; rfl
  have hRc : R.cells = 0 := by rw [← hRe]; rfl
  have hRs : R.slots = 0 := by rw [← hRe]; rfl
  have hRl : R.locals = 22 := by rw [← hRe]; rfl
  clear hRe
  refine lv_iload_n hx hb dX3_isInField_0 rfl (lv_at hl 3 rfl) ?_
  refine lv_if_eq (tgt := 13) hx hb dX3_isInField_1 (by decide) (fun c_1 => ?_) (fun c_1 => absurd (rfl) c_1)
  refine lv_iload_n hx hb dX3_isInField_13 rfl (lv_at hl 3 rfl) ?_
  refine lv_if_eq (tgt := 24) hx hb dX3_isInField_14 (by decide) (fun c_2 => ?_) (fun c_2 => absurd (rfl) c_2)
  refine lv_aload_n hx hb dX3_isInField_24 rfl (lv_at hl 0 rfl) ?_
  refine va_get (D := D) (ci := 1) (v := .int 1) (C := RX1) (T := TX1) (N := 8) hx hb hts (fun _ h9 => List.mem_cons_of_mem _ (List.mem_append_right _ h9)) hown hK hP 0 rfl rfl 1 (by decide) (hts (.fieldLink RX3 249 "PalletStack$Kind" "width" "I") (List.mem_of_getElem? (i := 3) (by rfl))) (fun _ h9 => h9) rfl dX3_isInField_25 ?_
  refine lv_istore (lv' := [(4, .int 1), (0, .ref k0), (1, .int (nI a)), (2, .int (nI b)), (3, .int 0)]) hx hb dX3_isInField_28 hl (by decide) rfl (fun ls hl => ?_)
  refine lv_iload_n hx hb dX3_isInField_30 rfl (lv_at hl 4 rfl) ?_
  refine lv_if_eq (tgt := 41) hx hb dX3_isInField_31 (by decide) (fun c_3 => ?_) (fun c_3 => absurd (rfl) c_3)
  refine lv_aload_n hx hb dX3_isInField_41 rfl (lv_at hl 1 rfl) ?_
  refine va_get (D := D) (ci := 1) (v := .int 1) (C := RX1) (T := TX1) (N := 8) hx hb hts (fun _ h9 => List.mem_cons_of_mem _ (List.mem_append_right _ h9)) hown hK hP 0 rfl rfl 2 (by decide) (hts (.fieldLink RX3 248 "PalletStack$Kind" "depth" "I") (List.mem_of_getElem? (i := 2) (by rfl))) (fun _ h9 => h9) rfl dX3_isInField_42 ?_
  refine lv_istore (lv' := [(5, .int 1), (4, .int 1), (0, .ref k0), (1, .int (nI a)), (2, .int (nI b)), (3, .int 0)]) hx hb dX3_isInField_45 hl (by decide) rfl (fun ls hl => ?_)
  refine lv_iload_n hx hb dX3_isInField_47 rfl (lv_at hl 3 rfl) ?_
  refine lv_iconst (v := 0) hx hb dX3_isInField_48 (by decide) ?_
  refine lv_bipush (v := 12) hx hb dX3_isInField_49 (by decide) ?_
  refine lv_iload hx hb dX3_isInField_51 (lv_at hl 1 rfl) ?_
  refine lv_isub hx hb dX3_isInField_53 ?_
  refine lv_topi (fun v_4 ev_4 => ?_)
  obtain rfl : v_4 = 11 := ev_4.trans (by decide)
  refine zrdS (As := [.int (nI a), .int 0, .int 11]) (rest := []) (wc := []) ⟨hx, hb, hml, hown, hts⟩ (c_isWithin l D _ (nI a) 0 11) (va_cwS 3 hts gX3_isInField_X3_isWithin rfl rfl rfl (by decide +kernel) ⟨by rw [hRf]; exact Nat.le_of_ble_eq_true rfl, by rw [hRl]; exact Nat.le_of_ble_eq_true rfl⟩) hK hP hD [] rfl (by decide) [] rfl rfl hl.1 rfl (Nat.le_of_ble_eq_true rfl) dX3_isInField_54 ⟨by omega, by omega⟩ (fun r_5 hr_5 => ?_)
  refine lv_topi (fun v_6 ev_6 => ?_)
  obtain rfl : v_6 = 1 := ev_6.trans (hr_5.trans (if_pos ⟨nI_pos' (by omega), (nI_leI (b := 11) (by omega) (by decide)).mpr (by omega)⟩))
  refine lv_if_eq (tgt := 77) hx hb dX3_isInField_57 (by decide) (fun c_7 => absurd c_7 (by decide)) (fun c_7 => ?_)
  refine lv_iload_n hx hb dX3_isInField_60 rfl (lv_at hl 4 rfl) ?_
  refine lv_iconst (v := 0) hx hb dX3_isInField_61 (by decide) ?_
  refine lv_bipush (v := 10) hx hb dX3_isInField_62 (by decide) ?_
  refine lv_iload hx hb dX3_isInField_64 (lv_at hl 0 rfl) ?_
  refine lv_isub hx hb dX3_isInField_66 ?_
  refine lv_topi (fun v_8 ev_8 => ?_)
  obtain rfl : v_8 = 9 := ev_8.trans (by decide)
  refine zrdS (As := [.int (nI b), .int 0, .int 9]) (rest := []) (wc := []) ⟨hx, hb, hml, hown, hts⟩ (c_isWithin l D _ (nI b) 0 9) (va_cwS 3 hts gX3_isInField_X3_isWithin rfl rfl rfl (by decide +kernel) ⟨by rw [hRf]; exact Nat.le_of_ble_eq_true rfl, by rw [hRl]; exact Nat.le_of_ble_eq_true rfl⟩) hK hP hD [] rfl (by decide) [] rfl rfl hl.1 rfl (Nat.le_of_ble_eq_true rfl) dX3_isInField_67 ⟨by omega, by omega⟩ (fun r_9 hr_9 => ?_)
  refine lv_topi (fun v_10 ev_10 => ?_)
  obtain rfl : v_10 = 1 := ev_10.trans (hr_9.trans (if_pos ⟨nI_pos' (by omega), (nI_leI (b := 9) (by omega) (by decide)).mpr (by omega)⟩))
  refine lv_if_eq (tgt := 77) hx hb dX3_isInField_70 (by decide) (fun c_11 => absurd c_11 (by decide)) (fun c_11 => ?_)
  refine lv_iconst (v := 1) hx hb dX3_isInField_73 (by decide) ?_
  refine lv_goto (tgt := 78) hx hb dX3_isInField_74 (by decide) ?_
  exact W.zret (ty := .boolean) (v := 1) hx hb hr rfl (fun t ht hW => ⟨1, rfl, rfl, ht⟩) (fun _ h => by cases h) dX3_isInField_78
set_option maxHeartbeats 4000000 in
set_option maxRecDepth 100000 in
theorem c_isInField_1 (l : Launch) (D : zG) (sz : Nat) (k0 a b : Nat) (ha : a < 12) (hb2 : b < 10) : Met l yX3_isInField wsX3_isInField ({ frames := 1, cells := 0, slots := 0, locals := 22 }) (zPc D [] ([(k0, .inr (1, [.int 0, .int 1, .int 1, .int 2, .int 1, .int 0, .int 1, .int 0]))]) sz [.ref k0, .int (nI a), .int (nI b), .int 1]) (vp_Si (fun r => r = 1)) 0 0 (fun _ => False) := by
  refine Met.ofW (cc := cX3_isInField) (maxL := 6) (ret := (some .boolean)) (by decide) rfl ?_
  intro p e s m args below meth c s₁ B hml hv
  obtain ⟨rfl, hsz, hP, hK, hD0⟩ := hv
  have hx := B.exec
  have hb := B.bytes
  have hr := B.returns
  have hts := atoms_spec (ws := wsX3_isInField) B.pre
  have hown : s.vm.findClass RX3 = some m.cls := findClass_of_methodNamed B.named
  have hlocks := B.notSynchronized
  subst hsz
  have hD := hD0
  generalize hAe : (fun _ : Nat => True) = A at hD
  have hl := lv_entry ([.ref k0, .int (nI a), .int (nI b), .int 1]) (n := 6) (Nat.le_of_ble_eq_true rfl)
  rw [lg_entry_eq]
  generalize (lg_sl ([.ref k0, .int (nI a), .int (nI b), .int 1]) ++ List.replicate (6 - (lg_sl ([.ref k0, .int (nI a), .int (nI b), .int 1])).length) Slot.unset).toArray = ls at hl ⊢
  have hl : lv_has ls 6 [(0, .ref k0), (1, .int (nI a)), (2, .int (nI b)), (3, .int 1)] := hl
  have hP : va_P D vwCl ([(k0, .inr (1, [.int 0, .int 1, .int 1, .int 2, .int 1, .int 0, .int 1, .int 0]))]) s.heap := hP
  generalize hRe : (headSpec _ _).room = R
  have hRf : R.frames = 1 := by rw [← hRe]; rfl
  have hRc : R.cells = 0 := by rw [← hRe]; rfl
  have hRs : R.slots = 0 := by rw [← hRe]; rfl
  have hRl : R.locals = 22 := by rw [← hRe]; rfl
  clear hRe
  refine lv_iload_n hx hb dX3_isInField_0 rfl (lv_at hl 3 rfl) ?_
  refine lv_if_eq (tgt := 13) hx hb dX3_isInField_1 (by decide) (fun c_12 => absurd c_12 (by decide)) (fun c_12 => ?_)
  refine lv_aload_n hx hb dX3_isInField_4 rfl (lv_at hl 0 rfl) ?_
  refine va_get (D := D) (ci := 1) (v := .int 1) (C := RX1) (T := TX1) (N := 8) hx hb hts (fun _ h9 => List.mem_cons_of_mem _ (List.mem_append_right _ h9)) hown hK hP 0 rfl rfl 6 (by decide) (hts (.fieldLink RX3 245 "PalletStack$Kind" "canTurn" "Z") (List.mem_of_getElem? (i := 1) (by rfl))) (fun _ h9 => h9) rfl dX3_isInField_5 ?_
  refine lv_if_ne (tgt := 13) hx hb dX3_isInField_8 (by decide) (fun c_13 => ?_) (fun c_13 => absurd c_13 (by decide))
  refine lv_iload_n hx hb dX3_isInField_13 rfl (lv_at hl 3 rfl) ?_
  refine lv_if_eq (tgt := 24) hx hb dX3_isInField_14 (by decide) (fun c_14 => absurd c_14 (by decide)) (fun c_14 => ?_)
  refine lv_aload_n hx hb dX3_isInField_17 rfl (lv_at hl 0 rfl) ?_
  refine va_get (D := D) (ci := 1) (v := .int 1) (C := RX1) (T := TX1) (N := 8) hx hb hts (fun _ h9 => List.mem_cons_of_mem _ (List.mem_append_right _ h9)) hown hK hP 0 rfl rfl 2 (by decide) (hts (.fieldLink RX3 248 "PalletStack$Kind" "depth" "I") (List.mem_of_getElem? (i := 2) (by rfl))) (fun _ h9 => h9) rfl dX3_isInField_18 ?_
  refine lv_goto (tgt := 28) hx hb dX3_isInField_21 (by decide) ?_
  refine lv_istore (lv' := [(4, .int 1), (0, .ref k0), (1, .int (nI a)), (2, .int (nI b)), (3, .int 1)]) hx hb dX3_isInField_28 hl (by decide) rfl (fun ls hl => ?_)
  refine lv_iload_n hx hb dX3_isInField_30 rfl (lv_at hl 4 rfl) ?_
  refine lv_if_eq (tgt := 41) hx hb dX3_isInField_31 (by decide) (fun c_15 => absurd c_15 (by decide)) (fun c_15 => ?_)
  refine lv_aload_n hx hb dX3_isInField_34 rfl (lv_at hl 1 rfl) ?_
  refine va_get (D := D) (ci := 1) (v := .int 1) (C := RX1) (T := TX1) (N := 8) hx hb hts (fun _ h9 => List.mem_cons_of_mem _ (List.mem_append_right _ h9)) hown hK hP 0 rfl rfl 1 (by decide) (hts (.fieldLink RX3 249 "PalletStack$Kind" "width" "I") (List.mem_of_getElem? (i := 3) (by rfl))) (fun _ h9 => h9) rfl dX3_isInField_35 ?_
  refine lv_goto (tgt := 45) hx hb dX3_isInField_38 (by decide) ?_
  refine lv_istore (lv' := [(5, .int 1), (4, .int 1), (0, .ref k0), (1, .int (nI a)), (2, .int (nI b)), (3, .int 1)]) hx hb dX3_isInField_45 hl (by decide) rfl (fun ls hl => ?_)
  refine lv_iload_n hx hb dX3_isInField_47 rfl (lv_at hl 3 rfl) ?_
  refine lv_iconst (v := 0) hx hb dX3_isInField_48 (by decide) ?_
  refine lv_bipush (v := 12) hx hb dX3_isInField_49 (by decide) ?_
  refine lv_iload hx hb dX3_isInField_51 (lv_at hl 1 rfl) ?_
  refine lv_isub hx hb dX3_isInField_53 ?_
  refine lv_topi (fun v_16 ev_16 => ?_)
  obtain rfl : v_16 = 11 := ev_16.trans (by decide)
  refine zrdS (As := [.int (nI a), .int 0, .int 11]) (rest := []) (wc := []) ⟨hx, hb, hml, hown, hts⟩ (c_isWithin l D _ (nI a) 0 11) (va_cwS 3 hts gX3_isInField_X3_isWithin rfl rfl rfl (by decide +kernel) ⟨by rw [hRf]; exact Nat.le_of_ble_eq_true rfl, by rw [hRl]; exact Nat.le_of_ble_eq_true rfl⟩) hK hP hD [] rfl (by decide) [] rfl rfl hl.1 rfl (Nat.le_of_ble_eq_true rfl) dX3_isInField_54 ⟨by omega, by omega⟩ (fun r_17 hr_17 => ?_)
  refine lv_topi (fun v_18 ev_18 => ?_)
  obtain rfl : v_18 = 1 := ev_18.trans (hr_17.trans (if_pos ⟨nI_pos' (by omega), (nI_leI (b := 11) (by omega) (by decide)).mpr (by omega)⟩))
  refine lv_if_eq (tgt := 77) hx hb dX3_isInField_57 (by decide) (fun c_19 => absurd c_19 (by decide)) (fun c_19 => ?_)
  refine lv_iload_n hx hb dX3_isInField_60 rfl (lv_at hl 4 rfl) ?_
  refine lv_iconst (v := 0) hx hb dX3_isInField_61 (by decide) ?_
  refine lv_bipush (v := 10) hx hb dX3_isInField_62 (by decide) ?_
  refine lv_iload hx hb dX3_isInField_64 (lv_at hl 0 rfl) ?_
  refine lv_isub hx hb dX3_isInField_66 ?_
  refine lv_topi (fun v_20 ev_20 => ?_)
  obtain rfl : v_20 = 9 := ev_20.trans (by decide)
  refine zrdS (As := [.int (nI b), .int 0, .int 9]) (rest := []) (wc := []) ⟨hx, hb, hml, hown, hts⟩ (c_isWithin l D _ (nI b) 0 9) (va_cwS 3 hts gX3_isInField_X3_isWithin rfl rfl rfl (by decide +kernel) ⟨by rw [hRf]; exact Nat.le_of_ble_eq_true rfl, by rw [hRl]; exact Nat.le_of_ble_eq_true rfl⟩) hK hP hD [] rfl (by decide) [] rfl rfl hl.1 rfl (Nat.le_of_ble_eq_true rfl) dX3_isInField_67 ⟨by omega, by omega⟩ (fun r_21 hr_21 => ?_)
  refine lv_topi (fun v_22 ev_22 => ?_)
  obtain rfl : v_22 = 1 := ev_22.trans (hr_21.trans (if_pos ⟨nI_pos' (by omega), (nI_leI (b := 9) (by omega) (by decide)).mpr (by omega)⟩))
  refine lv_if_eq (tgt := 77) hx hb dX3_isInField_70 (by decide) (fun c_23 => absurd c_23 (by decide)) (fun c_23 => ?_)
  refine lv_iconst (v := 1) hx hb dX3_isInField_73 (by decide) ?_
  refine lv_goto (tgt := 78) hx hb dX3_isInField_74 (by decide) ?_
  exact W.zret (ty := .boolean) (v := 1) hx hb hr rfl (fun t ht hW => ⟨1, rfl, rfl, ht⟩) (fun _ h => by cases h) dX3_isInField_78
theorem c_isInField (l : Launch) (D : zG) (sz : Nat) (k0 a b : Nat) (ha : a < 12) (hb2 : b < 10) (t : Int32) (ht : t = 0 ∨ t = 1) : Met l yX3_isInField wsX3_isInField ({ frames := 1, cells := 0, slots := 0, locals := 22 }) (zPc D [] ([(k0, .inr (1, [.int 0, .int 1, .int 1, .int 2, .int 1, .int 0, .int 1, .int 0]))]) sz [.ref k0, .int (nI a), .int (nI b), .int t]) (vp_Si (fun r => r = 1)) 0 0 (fun _ => False) := by
  rcases ht with rfl | rfl
  · exact c_isInField_0 l D sz k0 a b ha hb2
  · exact c_isInField_1 l D sz k0 a b ha hb2
set_option maxHeartbeats 4000000 in
set_option maxRecDepth 100000 in
theorem c_shape_0 (l : Launch) (D : zG) (sz : Nat) (tr k0 su sc : Nat) (w : Nat → Int32) : Met l yX0_shape wsX0_shape ({ frames := 0, cells := 0, slots := 0, locals := 0 }) (zPc D [] ([(tr, .inr (0, [.int (w 0), .int (w 1), .int (w 2), .int (w 3), .int (w 4), .int (w 5), .int (w 6), .int (w 7), .int (w 8), .int (w 9), .int (w 10), .int (w 11), .int (w 12), .int (w 13), .int (w 14), .int (w 15), .ref su, .ref sc])), (k0, .inr (1, [.int 0, .int 1, .int 1, .int 2, .int 1, .int 0, .int 1, .int 0]))]) sz [.ref tr, .ref k0, .int 0]) (va_Qv (fun (u : Unit) => True) (zB D (va_A ([(tr, .inr (0, [.int (w 0), .int (w 1), .int (w 2), .int (w 3), .int (w 4), .int (w 5), .int (w 6), .int (w 7), .int (w 8), .int (w 9), .int (w 10), .int (w 11), .int (w 12), .int (w 13), .int (w 14), .int (w 15), .ref su, .ref sc])), (k0, .inr (1, [.int 0, .int 1, .int 1, .int 2, .int 1, .int 0, .int 1, .int 0]))]) sz) (fun _ => []) 0 (fun _ => [(tr, .inr (0, [.int 0, .int 1, .int 0, .int 0, .int 1, .int 1, .int (w 6), .int (w 7), .int (w 8), .int (w 9), .int (w 10), .int (w 11), .int (w 12), .int (w 13), .int (w 14), .int (w 15), .ref su, .ref sc])), (k0, .inr (1, [.int 0, .int 1, .int 1, .int 2, .int 1, .int 0, .int 1, .int 0]))])) (va_A ([(tr, .inr (0, [.int (w 0), .int (w 1), .int (w 2), .int (w 3), .int (w 4), .int (w 5), .int (w 6), .int (w 7), .int (w 8), .int (w 9), .int (w 10), .int (w 11), .int (w 12), .int (w 13), .int (w 14), .int (w 15), .ref su, .ref sc])), (k0, .inr (1, [.int 0, .int 1, .int 1, .int 2, .int 1, .int 0, .int 1, .int 0]))]) sz)) 0 0 (va_A ([(tr, .inr (0, [.int (w 0), .int (w 1), .int (w 2), .int (w 3), .int (w 4), .int (w 5), .int (w 6), .int (w 7), .int (w 8), .int (w 9), .int (w 10), .int (w 11), .int (w 12), .int (w 13), .int (w 14), .int (w 15), .ref su, .ref sc])), (k0, .inr (1, [.int 0, .int 1, .int 1, .int 2, .int 1, .int 0, .int 1, .int 0]))]) sz) := by
  refine Met.ofW (cc := cX0_shape) (maxL := 3) (ret := none) (by decide) rfl ?_
  intro p e s m args below meth c s₁ B hml hv
  obtain ⟨rfl, hsz, hP, hK, hD0⟩ := hv
  have hx := B.exec
  have hb := B.bytes
  have hr := B.returns
  have hts := atoms_spec (ws := wsX0_shape) B.pre
  have hown : s.vm.findClass RX0 = some m.cls := findClass_of_methodNamed B.named
  have hlocks := B.notSynchronized
  subst hsz
  have hD := hD0.self (sz := s.heap.size)
  generalize hAe : va_A ([(tr, .inr (0, [.int (w 0), .int (w 1), .int (w 2), .int (w 3), .int (w 4), .int (w 5), .int (w 6), .int (w 7), .int (w 8), .int (w 9), .int (w 10), .int (w 11), .int (w 12), .int (w 13), .int (w 14), .int (w 15), .ref su, .ref sc])), (k0, .inr (1, [.int 0, .int 1, .int 1, .int 2, .int 1, .int 0, .int 1, .int 0]))]) s.heap.size = A at hD ⊢
  have hA : ∀ q : Nat, s.heap.size ≤ q → A q := fun q h => by rw [← hAe]; exact Or.inr h
  have hS : va_S A s.heap s.heap [] := va_S.rf
  have hl := lv_entry ([.ref tr, .ref k0, .int 0]) (n := 3) (Nat.le_of_ble_eq_true rfl)
  rw [lg_entry_eq]
  generalize (lg_sl ([.ref tr, .ref k0, .int 0]) ++ List.replicate (3 - (lg_sl ([.ref tr, .ref k0, .int 0])).length) Slot.unset).toArray = ls at hl ⊢
  have hl : lv_has ls 3 [(0, .ref tr), (1, .ref k0), (2, .int 0)] := hl
  have hP : va_P D vwCl ([(tr, .inr (0, [.int (w 0), .int (w 1), .int (w 2), .int (w 3), .int (w 4), .int (w 5), .int (w 6), .int (w 7), .int (w 8), .int (w 9), .int (w 10), .int (w 11), .int (w 12), .int (w 13), .int (w 14), .int (w 15), .ref su, .ref sc])), (k0, .inr (1, [.int 0, .int 1, .int 1, .int 2, .int 1, .int 0, .int 1, .int 0]))]) s.heap := hP
  generalize hRe : (headSpec _ _).room = R
  have hRf : R.frames = 0 := by rw [← hRe]; rfl
  have hRc : R.cells = 0 := by rw [← hRe]; rfl
  have hRs : R.slots = 0 := by rw [← hRe]; rfl
  have hRl : R.locals = 0 := by rw [← hRe]; rfl
  clear hRe
  refine lv_aload_n hx hb dX0_shape_0 rfl (lv_at hl 0 rfl) ?_
  refine lv_aload_n hx hb dX0_shape_1 rfl (lv_at hl 1 rfl) ?_
  refine va_get (D := D) (ci := 1) (v := .int 0) (C := RX1) (T := TX1) (N := 8) hx hb hts (fun _ h9 => List.mem_cons_of_mem _ (List.mem_append_left _ (List.mem_append_right _ h9))) hown hK hP 1 rfl rfl 0 (by decide) (hts (.fieldLink RX0 69 "PalletStack$Kind" "number" "I") (List.mem_of_getElem? (i := 1) (by rfl))) (fun _ h9 => h9) rfl dX0_shape_2 ?_
  refine va_put (D := D) (ci := 0) (v := .int 0) (ty := .int) (C := RX0) (T := TX0) (N := 18) hx hb hts (fun _ h9 => List.mem_cons_of_mem _ (List.mem_append_right _ h9)) tyX0 tyX0_ok nmX0 hown hK hP hD hS 0 rfl rfl 0 (by decide) (hts (.fieldLink RX0 9 "PalletStack$Item" "kind" "I") (List.mem_of_getElem? (i := 2) (by rfl))) (fun _ h9 => h9) rfl (by decide +kernel) rfl rfl (Nat.le_of_ble_eq_true rfl) dX0_shape_5 (fun H locs hP hD hS => ?_)
  have hP : va_P D vwCl ([(tr, .inr (0, [.int 0, .int (w 1), .int (w 2), .int (w 3), .int (w 4), .int (w 5), .int (w 6), .int (w 7), .int (w 8), .int (w 9), .int (w 10), .int (w 11), .int (w 12), .int (w 13), .int (w 14), .int (w 15), .ref su, .ref sc])), (k0, .inr (1, [.int 0, .int 1, .int 1, .int 2, .int 1, .int 0, .int 1, .int 0]))]) H := hP
  have hD : va_D A ([(tr, .inr (0, [.int 0, .int (w 1), .int (w 2), .int (w 3), .int (w 4), .int (w 5), .int (w 6), .int (w 7), .int (w 8), .int (w 9), .int (w 10), .int (w 11), .int (w 12), .int (w 13), .int (w 14), .int (w 15), .ref su, .ref sc])), (k0, .inr (1, [.int 0, .int 1, .int 1, .int 2, .int 1, .int 0, .int 1, .int 0]))]) := hD
  refine lv_aload_n hx hb dX0_shape_8 rfl (lv_at hl 0 rfl) ?_
  refine lv_aload_n hx hb dX0_shape_9 rfl (lv_at hl 1 rfl) ?_
  refine va_get (D := D) (ci := 1) (v := .int 1) (C := RX1) (T := TX1) (N := 8) hx hb hts (fun _ h9 => List.mem_cons_of_mem _ (List.mem_append_left _ (List.mem_append_right _ h9))) hown hK hP 1 rfl rfl 4 (by decide) (hts (.fieldLink RX0 74 "PalletStack$Kind" "weight" "I") (List.mem_of_getElem? (i := 3) (by rfl))) (fun _ h9 => h9) rfl dX0_shape_10 ?_
  refine va_put (D := D) (ci := 0) (v := .int 1) (ty := .int) (C := RX0) (T := TX0) (N := 18) hx hb hts (fun _ h9 => List.mem_cons_of_mem _ (List.mem_append_right _ h9)) tyX0 tyX0_ok nmX0 hown hK hP hD hS 0 rfl rfl 1 (by decide) (hts (.fieldLink RX0 15 "PalletStack$Item" "weight" "I") (List.mem_of_getElem? (i := 4) (by rfl))) (fun _ h9 => h9) rfl (by decide +kernel) rfl rfl (Nat.le_of_ble_eq_true rfl) dX0_shape_13 (fun H locs hP hD hS => ?_)
  have hP : va_P D vwCl ([(tr, .inr (0, [.int 0, .int 1, .int (w 2), .int (w 3), .int (w 4), .int (w 5), .int (w 6), .int (w 7), .int (w 8), .int (w 9), .int (w 10), .int (w 11), .int (w 12), .int (w 13), .int (w 14), .int (w 15), .ref su, .ref sc])), (k0, .inr (1, [.int 0, .int 1, .int 1, .int 2, .int 1, .int 0, .int 1, .int 0]))]) H := hP
  have hD : va_D A ([(tr, .inr (0, [.int 0, .int 1, .int (w 2), .int (w 3), .int (w 4), .int (w 5), .int (w 6), .int (w 7), .int (w 8), .int (w 9), .int (w 10), .int (w 11), .int (w 12), .int (w 13), .int (w 14), .int (w 15), .ref su, .ref sc])), (k0, .inr (1, [.int 0, .int 1, .int 1, .int 2, .int 1, .int 0, .int 1, .int 0]))]) := hD
  refine lv_aload_n hx hb dX0_shape_16 rfl (lv_at hl 0 rfl) ?_
  refine lv_aload_n hx hb dX0_shape_17 rfl (lv_at hl 1 rfl) ?_
  refine va_get (D := D) (ci := 1) (v := .int 0) (C := RX1) (T := TX1) (N := 8) hx hb hts (fun _ h9 => List.mem_cons_of_mem _ (List.mem_append_left _ (List.mem_append_right _ h9))) hown hK hP 1 rfl rfl 5 (by decide) (hts (.fieldLink RX0 75 "PalletStack$Kind" "strength" "I") (List.mem_of_getElem? (i := 5) (by rfl))) (fun _ h9 => h9) rfl dX0_shape_18 ?_
  refine va_put (D := D) (ci := 0) (v := .int 0) (ty := .int) (C := RX0) (T := TX0) (N := 18) hx hb hts (fun _ h9 => List.mem_cons_of_mem _ (List.mem_append_right _ h9)) tyX0 tyX0_ok nmX0 hown hK hP hD hS 0 rfl rfl 2 (by decide) (hts (.fieldLink RX0 18 "PalletStack$Item" "strength" "I") (List.mem_of_getElem? (i := 6) (by rfl))) (fun _ h9 => h9) rfl (by decide +kernel) rfl rfl (Nat.le_of_ble_eq_true rfl) dX0_shape_21 (fun H locs hP hD hS => ?_)
  have hP : va_P D vwCl ([(tr, .inr (0, [.int 0, .int 1, .int 0, .int (w 3), .int (w 4), .int (w 5), .int (w 6), .int (w 7), .int (w 8), .int (w 9), .int (w 10), .int (w 11), .int (w 12), .int (w 13), .int (w 14), .int (w 15), .ref su, .ref sc])), (k0, .inr (1, [.int 0, .int 1, .int 1, .int 2, .int 1, .int 0, .int 1, .int 0]))]) H := hP
  have hD : va_D A ([(tr, .inr (0, [.int 0, .int 1, .int 0, .int (w 3), .int (w 4), .int (w 5), .int (w 6), .int (w 7), .int (w 8), .int (w 9), .int (w 10), .int (w 11), .int (w 12), .int (w 13), .int (w 14), .int (w 15), .ref su, .ref sc])), (k0, .inr (1, [.int 0, .int 1, .int 1, .int 2, .int 1, .int 0, .int 1, .int 0]))]) := hD
  refine lv_aload_n hx hb dX0_shape_24 rfl (lv_at hl 0 rfl) ?_
  refine lv_iload_n hx hb dX0_shape_25 rfl (lv_at hl 2 rfl) ?_
  refine va_put (D := D) (ci := 0) (v := .int 0) (ty := .boolean) (C := RX0) (T := TX0) (N := 18) hx hb hts (fun _ h9 => List.mem_cons_of_mem _ (List.mem_append_right _ h9)) tyX0 tyX0_ok nmX0 hown hK hP hD hS 0 rfl rfl 3 (by decide) (hts (.fieldLink RX0 21 "PalletStack$Item" "isTurned" "Z") (List.mem_of_getElem? (i := 7) (by rfl))) (fun _ h9 => h9) rfl (by decide +kernel) rfl rfl (Nat.le_of_ble_eq_true rfl) dX0_shape_26 (fun H locs hP hD hS => ?_)
  have hP : va_P D vwCl ([(tr, .inr (0, [.int 0, .int 1, .int 0, .int 0, .int (w 4), .int (w 5), .int (w 6), .int (w 7), .int (w 8), .int (w 9), .int (w 10), .int (w 11), .int (w 12), .int (w 13), .int (w 14), .int (w 15), .ref su, .ref sc])), (k0, .inr (1, [.int 0, .int 1, .int 1, .int 2, .int 1, .int 0, .int 1, .int 0]))]) H := hP
  have hD : va_D A ([(tr, .inr (0, [.int 0, .int 1, .int 0, .int 0, .int (w 4), .int (w 5), .int (w 6), .int (w 7), .int (w 8), .int (w 9), .int (w 10), .int (w 11), .int (w 12), .int (w 13), .int (w 14), .int (w 15), .ref su, .ref sc])), (k0, .inr (1, [.int 0, .int 1, .int 1, .int 2, .int 1, .int 0, .int 1, .int 0]))]) := hD
  refine lv_aload_n hx hb dX0_shape_29 rfl (lv_at hl 0 rfl) ?_
  refine lv_iload_n hx hb dX0_shape_30 rfl (lv_at hl 2 rfl) ?_
  refine lv_if_eq (tgt := 41) hx hb dX0_shape_31 (by decide) (fun c_24 => ?_) (fun c_24 => absurd (rfl) c_24)
  refine lv_aload_n hx hb dX0_shape_41 rfl (lv_at hl 1 rfl) ?_
  refine va_get (D := D) (ci := 1) (v := .int 1) (C := RX1) (T := TX1) (N := 8) hx hb hts (fun _ h9 => List.mem_cons_of_mem _ (List.mem_append_left _ (List.mem_append_right _ h9))) hown hK hP 1 rfl rfl 1 (by decide) (hts (.fieldLink RX0 77 "PalletStack$Kind" "width" "I") (List.mem_of_getElem? (i := 9) (by rfl))) (fun _ h9 => h9) rfl dX0_shape_42 ?_
  refine va_put (D := D) (ci := 0) (v := .int 1) (ty := .int) (C := RX0) (T := TX0) (N := 18) hx hb hts (fun _ h9 => List.mem_cons_of_mem _ (List.mem_append_right _ h9)) tyX0 tyX0_ok nmX0 hown hK hP hD hS 0 rfl rfl 4 (by decide) (hts (.fieldLink RX0 25 "PalletStack$Item" "width" "I") (List.mem_of_getElem? (i := 10) (by rfl))) (fun _ h9 => h9) rfl (by decide +kernel) rfl rfl (Nat.le_of_ble_eq_true rfl) dX0_shape_45 (fun H locs hP hD hS => ?_)
  have hP : va_P D vwCl ([(tr, .inr (0, [.int 0, .int 1, .int 0, .int 0, .int 1, .int (w 5), .int (w 6), .int (w 7), .int (w 8), .int (w 9), .int (w 10), .int (w 11), .int (w 12), .int (w 13), .int (w 14), .int (w 15), .ref su, .ref sc])), (k0, .inr (1, [.int 0, .int 1, .int 1, .int 2, .int 1, .int 0, .int 1, .int 0]))]) H := hP
  have hD : va_D A ([(tr, .inr (0, [.int 0, .int 1, .int 0, .int 0, .int 1, .int (w 5), .int (w 6), .int (w 7), .int (w 8), .int (w 9), .int (w 10), .int (w 11), .int (w 12), .int (w 13), .int (w 14), .int (w 15), .ref su, .ref sc])), (k0, .inr (1, [.int 0, .int 1, .int 1, .int 2, .int 1, .int 0, .int 1, .int 0]))]) := hD
  refine lv_aload_n hx hb dX0_shape_48 rfl (lv_at hl 0 rfl) ?_
  refine lv_iload_n hx hb dX0_shape_49 rfl (lv_at hl 2 rfl) ?_
  refine lv_if_eq (tgt := 60) hx hb dX0_shape_50 (by decide) (fun c_25 => ?_) (fun c_25 => absurd (rfl) c_25)
  refine lv_aload_n hx hb dX0_shape_60 rfl (lv_at hl 1 rfl) ?_
  refine va_get (D := D) (ci := 1) (v := .int 1) (C := RX1) (T := TX1) (N := 8) hx hb hts (fun _ h9 => List.mem_cons_of_mem _ (List.mem_append_left _ (List.mem_append_right _ h9))) hown hK hP 1 rfl rfl 2 (by decide) (hts (.fieldLink RX0 76 "PalletStack$Kind" "depth" "I") (List.mem_of_getElem? (i := 8) (by rfl))) (fun _ h9 => h9) rfl dX0_shape_61 ?_
  refine va_put (D := D) (ci := 0) (v := .int 1) (ty := .int) (C := RX0) (T := TX0) (N := 18) hx hb hts (fun _ h9 => List.mem_cons_of_mem _ (List.mem_append_right _ h9)) tyX0 tyX0_ok nmX0 hown hK hP hD hS 0 rfl rfl 5 (by decide) (hts (.fieldLink RX0 28 "PalletStack$Item" "depth" "I") (List.mem_of_getElem? (i := 11) (by rfl))) (fun _ h9 => h9) rfl (by decide +kernel) rfl rfl (Nat.le_of_ble_eq_true rfl) dX0_shape_64 (fun H locs hP hD hS => ?_)
  have hP : va_P D vwCl ([(tr, .inr (0, [.int 0, .int 1, .int 0, .int 0, .int 1, .int 1, .int (w 6), .int (w 7), .int (w 8), .int (w 9), .int (w 10), .int (w 11), .int (w 12), .int (w 13), .int (w 14), .int (w 15), .ref su, .ref sc])), (k0, .inr (1, [.int 0, .int 1, .int 1, .int 2, .int 1, .int 0, .int 1, .int 0]))]) H := hP
  have hD : va_D A ([(tr, .inr (0, [.int 0, .int 1, .int 0, .int 0, .int 1, .int 1, .int (w 6), .int (w 7), .int (w 8), .int (w 9), .int (w 10), .int (w 11), .int (w 12), .int (w 13), .int (w 14), .int (w 15), .ref su, .ref sc])), (k0, .inr (1, [.int 0, .int 1, .int 1, .int 2, .int 1, .int 0, .int 1, .int 0]))]) := hD
  exact W.vret hx hb hr (fun t ht hW => ⟨⟨(), rfl, True.intro, ⟨Nat.zero_le _, by rw [ht]; exact hP, va_K.moved hW.alike (hK.sub (tys' := []) [] rfl), hD⟩⟩, hS.F ht⟩) hS.2.2 dX0_shape_67
set_option maxHeartbeats 4000000 in
set_option maxRecDepth 100000 in
theorem c_shape_1 (l : Launch) (D : zG) (sz : Nat) (tr k0 su sc : Nat) (w : Nat → Int32) : Met l yX0_shape wsX0_shape ({ frames := 0, cells := 0, slots := 0, locals := 0 }) (zPc D [] ([(tr, .inr (0, [.int (w 0), .int (w 1), .int (w 2), .int (w 3), .int (w 4), .int (w 5), .int (w 6), .int (w 7), .int (w 8), .int (w 9), .int (w 10), .int (w 11), .int (w 12), .int (w 13), .int (w 14), .int (w 15), .ref su, .ref sc])), (k0, .inr (1, [.int 0, .int 1, .int 1, .int 2, .int 1, .int 0, .int 1, .int 0]))]) sz [.ref tr, .ref k0, .int 1]) (va_Qv (fun (u : Unit) => True) (zB D (va_A ([(tr, .inr (0, [.int (w 0), .int (w 1), .int (w 2), .int (w 3), .int (w 4), .int (w 5), .int (w 6), .int (w 7), .int (w 8), .int (w 9), .int (w 10), .int (w 11), .int (w 12), .int (w 13), .int (w 14), .int (w 15), .ref su, .ref sc])), (k0, .inr (1, [.int 0, .int 1, .int 1, .int 2, .int 1, .int 0, .int 1, .int 0]))]) sz) (fun _ => []) 0 (fun _ => [(tr, .inr (0, [.int 0, .int 1, .int 0, .int 1, .int 1, .int 1, .int (w 6), .int (w 7), .int (w 8), .int (w 9), .int (w 10), .int (w 11), .int (w 12), .int (w 13), .int (w 14), .int (w 15), .ref su, .ref sc])), (k0, .inr (1, [.int 0, .int 1, .int 1, .int 2, .int 1, .int 0, .int 1, .int 0]))])) (va_A ([(tr, .inr (0, [.int (w 0), .int (w 1), .int (w 2), .int (w 3), .int (w 4), .int (w 5), .int (w 6), .int (w 7), .int (w 8), .int (w 9), .int (w 10), .int (w 11), .int (w 12), .int (w 13), .int (w 14), .int (w 15), .ref su, .ref sc])), (k0, .inr (1, [.int 0, .int 1, .int 1, .int 2, .int 1, .int 0, .int 1, .int 0]))]) sz)) 0 0 (va_A ([(tr, .inr (0, [.int (w 0), .int (w 1), .int (w 2), .int (w 3), .int (w 4), .int (w 5), .int (w 6), .int (w 7), .int (w 8), .int (w 9), .int (w 10), .int (w 11), .int (w 12), .int (w 13), .int (w 14), .int (w 15), .ref su, .ref sc])), (k0, .inr (1, [.int 0, .int 1, .int 1, .int 2, .int 1, .int 0, .int 1, .int 0]))]) sz) := by
  refine Met.ofW (cc := cX0_shape) (maxL := 3) (ret := none) (by decide) rfl ?_
  intro p e s m args below meth c s₁ B hml hv
  obtain ⟨rfl, hsz, hP, hK, hD0⟩ := hv
  have hx := B.exec
  have hb := B.bytes
  have hr := B.returns
  have hts := atoms_spec (ws := wsX0_shape) B.pre
  have hown : s.vm.findClass RX0 = some m.cls := findClass_of_methodNamed B.named
  have hlocks := B.notSynchronized
  subst hsz
  have hD := hD0.self (sz := s.heap.size)
  generalize hAe : va_A ([(tr, .inr (0, [.int (w 0), .int (w 1), .int (w 2), .int (w 3), .int (w 4), .int (w 5), .int (w 6), .int (w 7), .int (w 8), .int (w 9), .int (w 10), .int (w 11), .int (w 12), .int (w 13), .int (w 14), .int (w 15), .ref su, .ref sc])), (k0, .inr (1, [.int 0, .int 1, .int 1, .int 2, .int 1, .int 0, .int 1, .int 0]))]) s.heap.size = A at hD ⊢
  have hA : ∀ q : Nat, s.heap.size ≤ q → A q := fun q h => by rw [← hAe]; exact Or.inr h
  have hS : va_S A s.heap s.heap [] := va_S.rf
  have hl := lv_entry ([.ref tr, .ref k0, .int 1]) (n := 3) (Nat.le_of_ble_eq_true rfl)
  rw [lg_entry_eq]
  generalize (lg_sl ([.ref tr, .ref k0, .int 1]) ++ List.replicate (3 - (lg_sl ([.ref tr, .ref k0, .int 1])).length) Slot.unset).toArray = ls at hl ⊢
  have hl : lv_has ls 3 [(0, .ref tr), (1, .ref k0), (2, .int 1)] := hl
  have hP : va_P D vwCl ([(tr, .inr (0, [.int (w 0), .int (w 1), .int (w 2), .int (w 3), .int (w 4), .int (w 5), .int (w 6), .int (w 7), .int (w 8), .int (w 9), .int (w 10), .int (w 11), .int (w 12), .int (w 13), .int (w 14), .int (w 15), .ref su, .ref sc])), (k0, .inr (1, [.int 0, .int 1, .int 1, .int 2, .int 1, .int 0, .int 1, .int 0]))]) s.heap := hP
  generalize hRe : (headSpec _ _).room = R
  have hRf : R.frames = 0 := by rw [← hRe]; rfl
  have hRc : R.cells = 0 := by rw [← hRe]; rfl
  have hRs : R.slots = 0 := by rw [← hRe]; rfl
  have hRl : R.locals = 0 := by rw [← hRe]; rfl
  clear hRe
  refine lv_aload_n hx hb dX0_shape_0 rfl (lv_at hl 0 rfl) ?_
  refine lv_aload_n hx hb dX0_shape_1 rfl (lv_at hl 1 rfl) ?_
  refine va_get (D := D) (ci := 1) (v := .int 0) (C := RX1) (T := TX1) (N := 8) hx hb hts (fun _ h9 => List.mem_cons_of_mem _ (List.mem_append_left _ (List.mem_append_right _ h9))) hown hK hP 1 rfl rfl 0 (by decide) (hts (.fieldLink RX0 69 "PalletStack$Kind" "number" "I") (List.mem_of_getElem? (i := 1) (by rfl))) (fun _ h9 => h9) rfl dX0_shape_2 ?_
  refine va_put (D := D) (ci := 0) (v := .int 0) (ty := .int) (C := RX0) (T := TX0) (N := 18) hx hb hts (fun _ h9 => List.mem_cons_of_mem _ (List.mem_append_right _ h9)) tyX0 tyX0_ok nmX0 hown hK hP hD hS 0 rfl rfl 0 (by decide) (hts (.fieldLink RX0 9 "PalletStack$Item" "kind" "I") (List.mem_of_getElem? (i := 2) (by rfl))) (fun _ h9 => h9) rfl (by decide +kernel) rfl rfl (Nat.le_of_ble_eq_true rfl) dX0_shape_5 (fun H locs hP hD hS => ?_)
  have hP : va_P D vwCl ([(tr, .inr (0, [.int 0, .int (w 1), .int (w 2), .int (w 3), .int (w 4), .int (w 5), .int (w 6), .int (w 7), .int (w 8), .int (w 9), .int (w 10), .int (w 11), .int (w 12), .int (w 13), .int (w 14), .int (w 15), .ref su, .ref sc])), (k0, .inr (1, [.int 0, .int 1, .int 1, .int 2, .int 1, .int 0, .int 1, .int 0]))]) H := hP
  have hD : va_D A ([(tr, .inr (0, [.int 0, .int (w 1), .int (w 2), .int (w 3), .int (w 4), .int (w 5), .int (w 6), .int (w 7), .int (w 8), .int (w 9), .int (w 10), .int (w 11), .int (w 12), .int (w 13), .int (w 14), .int (w 15), .ref su, .ref sc])), (k0, .inr (1, [.int 0, .int 1, .int 1, .int 2, .int 1, .int 0, .int 1, .int 0]))]) := hD
  refine lv_aload_n hx hb dX0_shape_8 rfl (lv_at hl 0 rfl) ?_
  refine lv_aload_n hx hb dX0_shape_9 rfl (lv_at hl 1 rfl) ?_
  refine va_get (D := D) (ci := 1) (v := .int 1) (C := RX1) (T := TX1) (N := 8) hx hb hts (fun _ h9 => List.mem_cons_of_mem _ (List.mem_append_left _ (List.mem_append_right _ h9))) hown hK hP 1 rfl rfl 4 (by decide) (hts (.fieldLink RX0 74 "PalletStack$Kind" "weight" "I") (List.mem_of_getElem? (i := 3) (by rfl))) (fun _ h9 => h9) rfl dX0_shape_10 ?_
  refine va_put (D := D) (ci := 0) (v := .int 1) (ty := .int) (C := RX0) (T := TX0) (N := 18) hx hb hts (fun _ h9 => List.mem_cons_of_mem _ (List.mem_append_right _ h9)) tyX0 tyX0_ok nmX0 hown hK hP hD hS 0 rfl rfl 1 (by decide) (hts (.fieldLink RX0 15 "PalletStack$Item" "weight" "I") (List.mem_of_getElem? (i := 4) (by rfl))) (fun _ h9 => h9) rfl (by decide +kernel) rfl rfl (Nat.le_of_ble_eq_true rfl) dX0_shape_13 (fun H locs hP hD hS => ?_)
  have hP : va_P D vwCl ([(tr, .inr (0, [.int 0, .int 1, .int (w 2), .int (w 3), .int (w 4), .int (w 5), .int (w 6), .int (w 7), .int (w 8), .int (w 9), .int (w 10), .int (w 11), .int (w 12), .int (w 13), .int (w 14), .int (w 15), .ref su, .ref sc])), (k0, .inr (1, [.int 0, .int 1, .int 1, .int 2, .int 1, .int 0, .int 1, .int 0]))]) H := hP
  have hD : va_D A ([(tr, .inr (0, [.int 0, .int 1, .int (w 2), .int (w 3), .int (w 4), .int (w 5), .int (w 6), .int (w 7), .int (w 8), .int (w 9), .int (w 10), .int (w 11), .int (w 12), .int (w 13), .int (w 14), .int (w 15), .ref su, .ref sc])), (k0, .inr (1, [.int 0, .int 1, .int 1, .int 2, .int 1, .int 0, .int 1, .int 0]))]) := hD
  refine lv_aload_n hx hb dX0_shape_16 rfl (lv_at hl 0 rfl) ?_
  refine lv_aload_n hx hb dX0_shape_17 rfl (lv_at hl 1 rfl) ?_
  refine va_get (D := D) (ci := 1) (v := .int 0) (C := RX1) (T := TX1) (N := 8) hx hb hts (fun _ h9 => List.mem_cons_of_mem _ (List.mem_append_left _ (List.mem_append_right _ h9))) hown hK hP 1 rfl rfl 5 (by decide) (hts (.fieldLink RX0 75 "PalletStack$Kind" "strength" "I") (List.mem_of_getElem? (i := 5) (by rfl))) (fun _ h9 => h9) rfl dX0_shape_18 ?_
  refine va_put (D := D) (ci := 0) (v := .int 0) (ty := .int) (C := RX0) (T := TX0) (N := 18) hx hb hts (fun _ h9 => List.mem_cons_of_mem _ (List.mem_append_right _ h9)) tyX0 tyX0_ok nmX0 hown hK hP hD hS 0 rfl rfl 2 (by decide) (hts (.fieldLink RX0 18 "PalletStack$Item" "strength" "I") (List.mem_of_getElem? (i := 6) (by rfl))) (fun _ h9 => h9) rfl (by decide +kernel) rfl rfl (Nat.le_of_ble_eq_true rfl) dX0_shape_21 (fun H locs hP hD hS => ?_)
  have hP : va_P D vwCl ([(tr, .inr (0, [.int 0, .int 1, .int 0, .int (w 3), .int (w 4), .int (w 5), .int (w 6), .int (w 7), .int (w 8), .int (w 9), .int (w 10), .int (w 11), .int (w 12), .int (w 13), .int (w 14), .int (w 15), .ref su, .ref sc])), (k0, .inr (1, [.int 0, .int 1, .int 1, .int 2, .int 1, .int 0, .int 1, .int 0]))]) H := hP
  have hD : va_D A ([(tr, .inr (0, [.int 0, .int 1, .int 0, .int (w 3), .int (w 4), .int (w 5), .int (w 6), .int (w 7), .int (w 8), .int (w 9), .int (w 10), .int (w 11), .int (w 12), .int (w 13), .int (w 14), .int (w 15), .ref su, .ref sc])), (k0, .inr (1, [.int 0, .int 1, .int 1, .int 2, .int 1, .int 0, .int 1, .int 0]))]) := hD
  refine lv_aload_n hx hb dX0_shape_24 rfl (lv_at hl 0 rfl) ?_
  refine lv_iload_n hx hb dX0_shape_25 rfl (lv_at hl 2 rfl) ?_
  refine va_put (D := D) (ci := 0) (v := .int 1) (ty := .boolean) (C := RX0) (T := TX0) (N := 18) hx hb hts (fun _ h9 => List.mem_cons_of_mem _ (List.mem_append_right _ h9)) tyX0 tyX0_ok nmX0 hown hK hP hD hS 0 rfl rfl 3 (by decide) (hts (.fieldLink RX0 21 "PalletStack$Item" "isTurned" "Z") (List.mem_of_getElem? (i := 7) (by rfl))) (fun _ h9 => h9) rfl (by decide +kernel) rfl rfl (Nat.le_of_ble_eq_true rfl) dX0_shape_26 (fun H locs hP hD hS => ?_)
  have hP : va_P D vwCl ([(tr, .inr (0, [.int 0, .int 1, .int 0, .int 1, .int (w 4), .int (w 5), .int (w 6), .int (w 7), .int (w 8), .int (w 9), .int (w 10), .int (w 11), .int (w 12), .int (w 13), .int (w 14), .int (w 15), .ref su, .ref sc])), (k0, .inr (1, [.int 0, .int 1, .int 1, .int 2, .int 1, .int 0, .int 1, .int 0]))]) H := hP
  have hD : va_D A ([(tr, .inr (0, [.int 0, .int 1, .int 0, .int 1, .int (w 4), .int (w 5), .int (w 6), .int (w 7), .int (w 8), .int (w 9), .int (w 10), .int (w 11), .int (w 12), .int (w 13), .int (w 14), .int (w 15), .ref su, .ref sc])), (k0, .inr (1, [.int 0, .int 1, .int 1, .int 2, .int 1, .int 0, .int 1, .int 0]))]) := hD
  refine lv_aload_n hx hb dX0_shape_29 rfl (lv_at hl 0 rfl) ?_
  refine lv_iload_n hx hb dX0_shape_30 rfl (lv_at hl 2 rfl) ?_
  refine lv_if_eq (tgt := 41) hx hb dX0_shape_31 (by decide) (fun c_26 => absurd c_26 (by decide)) (fun c_26 => ?_)
  refine lv_aload_n hx hb dX0_shape_34 rfl (lv_at hl 1 rfl) ?_
  refine va_get (D := D) (ci := 1) (v := .int 1) (C := RX1) (T := TX1) (N := 8) hx hb hts (fun _ h9 => List.mem_cons_of_mem _ (List.mem_append_left _ (List.mem_append_right _ h9))) hown hK hP 1 rfl rfl 2 (by decide) (hts (.fieldLink RX0 76 "PalletStack$Kind" "depth" "I") (List.mem_of_getElem? (i := 8) (by rfl))) (fun _ h9 => h9) rfl dX0_shape_35 ?_
  refine lv_goto (tgt := 45) hx hb dX0_shape_38 (by decide) ?_
  refine va_put (D := D) (ci := 0) (v := .int 1) (ty := .int) (C := RX0) (T := TX0) (N := 18) hx hb hts (fun _ h9 => List.mem_cons_of_mem _ (List.mem_append_right _ h9)) tyX0 tyX0_ok nmX0 hown hK hP hD hS 0 rfl rfl 4 (by decide) (hts (.fieldLink RX0 25 "PalletStack$Item" "width" "I") (List.mem_of_getElem? (i := 10) (by rfl))) (fun _ h9 => h9) rfl (by decide +kernel) rfl rfl (Nat.le_of_ble_eq_true rfl) dX0_shape_45 (fun H locs hP hD hS => ?_)
  have hP : va_P D vwCl ([(tr, .inr (0, [.int 0, .int 1, .int 0, .int 1, .int 1, .int (w 5), .int (w 6), .int (w 7), .int (w 8), .int (w 9), .int (w 10), .int (w 11), .int (w 12), .int (w 13), .int (w 14), .int (w 15), .ref su, .ref sc])), (k0, .inr (1, [.int 0, .int 1, .int 1, .int 2, .int 1, .int 0, .int 1, .int 0]))]) H := hP
  have hD : va_D A ([(tr, .inr (0, [.int 0, .int 1, .int 0, .int 1, .int 1, .int (w 5), .int (w 6), .int (w 7), .int (w 8), .int (w 9), .int (w 10), .int (w 11), .int (w 12), .int (w 13), .int (w 14), .int (w 15), .ref su, .ref sc])), (k0, .inr (1, [.int 0, .int 1, .int 1, .int 2, .int 1, .int 0, .int 1, .int 0]))]) := hD
  refine lv_aload_n hx hb dX0_shape_48 rfl (lv_at hl 0 rfl) ?_
  refine lv_iload_n hx hb dX0_shape_49 rfl (lv_at hl 2 rfl) ?_
  refine lv_if_eq (tgt := 60) hx hb dX0_shape_50 (by decide) (fun c_27 => absurd c_27 (by decide)) (fun c_27 => ?_)
  refine lv_aload_n hx hb dX0_shape_53 rfl (lv_at hl 1 rfl) ?_
  refine va_get (D := D) (ci := 1) (v := .int 1) (C := RX1) (T := TX1) (N := 8) hx hb hts (fun _ h9 => List.mem_cons_of_mem _ (List.mem_append_left _ (List.mem_append_right _ h9))) hown hK hP 1 rfl rfl 1 (by decide) (hts (.fieldLink RX0 77 "PalletStack$Kind" "width" "I") (List.mem_of_getElem? (i := 9) (by rfl))) (fun _ h9 => h9) rfl dX0_shape_54 ?_
  refine lv_goto (tgt := 64) hx hb dX0_shape_57 (by decide) ?_
  refine va_put (D := D) (ci := 0) (v := .int 1) (ty := .int) (C := RX0) (T := TX0) (N := 18) hx hb hts (fun _ h9 => List.mem_cons_of_mem _ (List.mem_append_right _ h9)) tyX0 tyX0_ok nmX0 hown hK hP hD hS 0 rfl rfl 5 (by decide) (hts (.fieldLink RX0 28 "PalletStack$Item" "depth" "I") (List.mem_of_getElem? (i := 11) (by rfl))) (fun _ h9 => h9) rfl (by decide +kernel) rfl rfl (Nat.le_of_ble_eq_true rfl) dX0_shape_64 (fun H locs hP hD hS => ?_)
  have hP : va_P D vwCl ([(tr, .inr (0, [.int 0, .int 1, .int 0, .int 1, .int 1, .int 1, .int (w 6), .int (w 7), .int (w 8), .int (w 9), .int (w 10), .int (w 11), .int (w 12), .int (w 13), .int (w 14), .int (w 15), .ref su, .ref sc])), (k0, .inr (1, [.int 0, .int 1, .int 1, .int 2, .int 1, .int 0, .int 1, .int 0]))]) H := hP
  have hD : va_D A ([(tr, .inr (0, [.int 0, .int 1, .int 0, .int 1, .int 1, .int 1, .int (w 6), .int (w 7), .int (w 8), .int (w 9), .int (w 10), .int (w 11), .int (w 12), .int (w 13), .int (w 14), .int (w 15), .ref su, .ref sc])), (k0, .inr (1, [.int 0, .int 1, .int 1, .int 2, .int 1, .int 0, .int 1, .int 0]))]) := hD
  exact W.vret hx hb hr (fun t ht hW => ⟨⟨(), rfl, True.intro, ⟨Nat.zero_le _, by rw [ht]; exact hP, va_K.moved hW.alike (hK.sub (tys' := []) [] rfl), hD⟩⟩, hS.F ht⟩) hS.2.2 dX0_shape_67
theorem c_shape (l : Launch) (D : zG) (sz : Nat) (tr k0 su sc : Nat) (w : Nat → Int32) (t : Int32) (ht : t = 0 ∨ t = 1) : Met l yX0_shape wsX0_shape ({ frames := 0, cells := 0, slots := 0, locals := 0 }) (zPc D [] ([(tr, .inr (0, [.int (w 0), .int (w 1), .int (w 2), .int (w 3), .int (w 4), .int (w 5), .int (w 6), .int (w 7), .int (w 8), .int (w 9), .int (w 10), .int (w 11), .int (w 12), .int (w 13), .int (w 14), .int (w 15), .ref su, .ref sc])), (k0, .inr (1, [.int 0, .int 1, .int 1, .int 2, .int 1, .int 0, .int 1, .int 0]))]) sz [.ref tr, .ref k0, .int t]) (va_Qv (fun (u : Unit) => True) (zB D (va_A ([(tr, .inr (0, [.int (w 0), .int (w 1), .int (w 2), .int (w 3), .int (w 4), .int (w 5), .int (w 6), .int (w 7), .int (w 8), .int (w 9), .int (w 10), .int (w 11), .int (w 12), .int (w 13), .int (w 14), .int (w 15), .ref su, .ref sc])), (k0, .inr (1, [.int 0, .int 1, .int 1, .int 2, .int 1, .int 0, .int 1, .int 0]))]) sz) (fun _ => []) 0 (fun _ => [(tr, .inr (0, [.int 0, .int 1, .int 0, .int t, .int 1, .int 1, .int (w 6), .int (w 7), .int (w 8), .int (w 9), .int (w 10), .int (w 11), .int (w 12), .int (w 13), .int (w 14), .int (w 15), .ref su, .ref sc])), (k0, .inr (1, [.int 0, .int 1, .int 1, .int 2, .int 1, .int 0, .int 1, .int 0]))])) (va_A ([(tr, .inr (0, [.int (w 0), .int (w 1), .int (w 2), .int (w 3), .int (w 4), .int (w 5), .int (w 6), .int (w 7), .int (w 8), .int (w 9), .int (w 10), .int (w 11), .int (w 12), .int (w 13), .int (w 14), .int (w 15), .ref su, .ref sc])), (k0, .inr (1, [.int 0, .int 1, .int 1, .int 2, .int 1, .int 0, .int 1, .int 0]))]) sz)) 0 0 (va_A ([(tr, .inr (0, [.int (w 0), .int (w 1), .int (w 2), .int (w 3), .int (w 4), .int (w 5), .int (w 6), .int (w 7), .int (w 8), .int (w 9), .int (w 10), .int (w 11), .int (w 12), .int (w 13), .int (w 14), .int (w 15), .ref su, .ref sc])), (k0, .inr (1, [.int 0, .int 1, .int 1, .int 2, .int 1, .int 0, .int 1, .int 0]))]) sz) := by
  rcases ht with rfl | rfl
  · exact c_shape_0 l D sz tr k0 su sc w
  · exact c_shape_1 l D sz tr k0 su sc w
set_option maxHeartbeats 4000000 in
set_option maxRecDepth 100000 in
theorem c_topOf (l : Launch) (D : zG) (sz : Nat) (o kA iA tA tr lA n : Nat) (cT : ClassId) (a b : Nat) (ha : a < 12) (hb2 : b < 10) : Met l yX3_topOf wsX3_topOf ({ frames := 0, cells := 0, slots := 0, locals := 0 }) (zPc D [(cT, .int)] ([(o, .inr (3, [.ref kA, .int 1, .int 1, .int 0, .int 1, .int 0, .ref iA, .int 0, .int 0, .int 0, .ref tA, .ref tr, .ref lA, .int (nI n)])), (tA, .inl (cT, 120, .inl (fun _ => 0)))]) sz [.ref o, .int (nI a), .int (nI b)]) (vp_Si (fun r => r = 0)) 0 0 (fun _ => False) := by
  refine Met.ofW (cc := cX3_topOf) (maxL := 4) (ret := (some .int)) (by decide) rfl ?_
  intro p e s m args below meth c s₁ B hml hv
  obtain ⟨rfl, hsz, hP, hK, hD0⟩ := hv
  have hx := B.exec
  have hb := B.bytes
  have hr := B.returns
  have hts := atoms_spec (ws := wsX3_topOf) B.pre
  have hown : s.vm.findClass RX3 = some m.cls := findClass_of_methodNamed B.named
  have hlocks := B.notSynchronized
  subst hsz
  have hD := hD0
  generalize hAe : (fun _ : Nat => True) = A at hD
  have hl := lv_entry ([.ref o, .int (nI a), .int (nI b)]) (n := 4) (Nat.le_of_ble_eq_true rfl)
  rw [lg_entry_eq]
  generalize (lg_sl ([.ref o, .int (nI a), .int (nI b)]) ++ List.replicate (4 - (lg_sl ([.ref o, .int (nI a), .int (nI b)])).length) Slot.unset).toArray = ls at hl ⊢
  have hl : lv_has ls 4 [(0, .ref o), (1, .int (nI a)), (2, .int (nI b))] := hl
  have hP : va_P D vwCl ([(o, .inr (3, [.ref kA, .int 1, .int 1, .int 0, .int 1, .int 0, .ref iA, .int 0, .int 0, .int 0, .ref tA, .ref tr, .ref lA, .int (nI n)])), (tA, .inl (cT, 120, .inl (fun _ => 0)))]) s.heap := hP
  generalize hRe : (headSpec _ _).room = R
  have hRf : R.frames = 0 := by rw [← hRe]; rfl
  have hRc : R.cells = 0 := by rw [← hRe]; rfl
  have hRs : R.slots = 0 := by rw [← hRe]; rfl
  have hRl : R.locals = 0 := by rw [← hRe]; rfl
  clear hRe
  refine lv_iload_n hx hb dX3_topOf_0 rfl (lv_at hl 2 rfl) ?_
  refine lv_bipush (v := 12) hx hb dX3_topOf_1 (by decide) ?_
  refine lv_imul hx hb dX3_topOf_3 ?_
  refine lv_topi (fun v_28 ev_28 => ?_)
  obtain rfl : v_28 = (nI (b * 12)) := ev_28.trans (pk_mul b 12)
  refine lv_iload_n hx hb dX3_topOf_4 rfl (lv_at hl 1 rfl) ?_
  refine lv_iadd hx hb dX3_topOf_5 ?_
  refine lv_topi (fun v_29 ev_29 => ?_)
  obtain rfl : v_29 = (nI (b * 12 + a)) := ev_29.trans (nI_add _ _)
  refine lv_istore_n (lv' := [(3, .int (nI (b * 12 + a))), (0, .ref o), (1, .int (nI a)), (2, .int (nI b))]) hx hb dX3_topOf_6 rfl hl (by decide) rfl (fun ls hl => ?_)
  refine lv_iload_n hx hb dX3_topOf_7 rfl (lv_at hl 0 rfl) ?_
  refine lv_if_lt (tgt := 26) hx hb dX3_topOf_8 (by decide) (fun c_30 => absurd c_30 (nI_pos (by omega))) (fun c_30 => ?_)
  refine lv_iload_n hx hb dX3_topOf_11 rfl (lv_at hl 0 rfl) ?_
  refine lv_bipush (v := 120) hx hb dX3_topOf_12 (by decide) ?_
  refine lv_icmp_ge (tgt := 26) hx hb dX3_topOf_14 (by decide) (fun c_31 => absurd c_31 (nI_ge (b := 120) (by omega) (by decide))) (fun c_31 => ?_)
  refine lv_aload_n hx hb dX3_topOf_17 rfl (lv_at hl 1 rfl) ?_
  refine va_get (D := D) (ci := 3) (v := .ref tA) (C := RX3) (T := TX3) (N := 14) hx hb hts (fun _ h9 => List.mem_cons_of_mem _ (List.mem_append_right _ h9)) hown hK hP 0 rfl rfl 10 (by decide) (hts (.fieldLink RX3 47 "PalletStack" "tops" "[I") (List.mem_of_getElem? (i := 1) (by rfl))) (fun _ h9 => h9) rfl dX3_topOf_18 ?_
  refine lv_iload_n hx hb dX3_topOf_21 rfl (lv_at hl 0 rfl) ?_
  refine va_iald hx hb hK hP 1 0 rfl rfl (vp_in_nI (N := 120) (by omega) (by decide)) dX3_topOf_22 ?_
  refine lv_topi (fun v_32 ev_32 => ?_)
  obtain rfl : v_32 = 0 := ev_32.trans rfl
  refine lv_goto (tgt := 27) hx hb dX3_topOf_23 (by decide) ?_
  exact W.iret (v := 0) hx hb hr (fun t ht hW => ⟨0, rfl, rfl, ht⟩) (fun _ h => by cases h) dX3_topOf_27
set_option maxHeartbeats 4000000 in
set_option maxRecDepth 100000 in
theorem c_letDown (l : Launch) (D : zG) (sz : Nat) (o kA iA tA tr lA n : Nat) (k0 su sc : Nat) (w : Nat → Int32) (cT : ClassId) (a b : Nat) (ha : a < 12) (hb2 : b < 10) (t : Int32) (ht : t = 0 ∨ t = 1) : Met l yX3_letDown wsX3_letDown ({ frames := 1, cells := 0, slots := 0, locals := 23 }) (zPc D [(cT, .int)] ([(o, .inr (3, [.ref kA, .int 1, .int 1, .int 0, .int 1, .int 0, .ref iA, .int 0, .int 0, .int 0, .ref tA, .ref tr, .ref lA, .int (nI n)])), (tA, .inl (cT, 120, .inl (fun _ => 0))), (tr, .inr (0, [.int (w 0), .int (w 1), .int (w 2), .int (w 3), .int (w 4), .int (w 5), .int (w 6), .int (w 7), .int (w 8), .int (w 9), .int (w 10), .int (w 11), .int (w 12), .int (w 13), .int (w 14), .int (w 15), .ref su, .ref sc])), (k0, .inr (1, [.int 0, .int 1, .int 1, .int 2, .int 1, .int 0, .int 1, .int 0]))]) sz [.ref o, .ref k0, .int (nI a), .int (nI b), .int t]) (va_Qv (fun (u : Unit) => True) (zB D (va_A ([(o, .inr (3, [.ref kA, .int 1, .int 1, .int 0, .int 1, .int 0, .ref iA, .int 0, .int 0, .int 0, .ref tA, .ref tr, .ref lA, .int (nI n)])), (tA, .inl (cT, 120, .inl (fun _ => 0))), (tr, .inr (0, [.int (w 0), .int (w 1), .int (w 2), .int (w 3), .int (w 4), .int (w 5), .int (w 6), .int (w 7), .int (w 8), .int (w 9), .int (w 10), .int (w 11), .int (w 12), .int (w 13), .int (w 14), .int (w 15), .ref su, .ref sc])), (k0, .inr (1, [.int 0, .int 1, .int 1, .int 2, .int 1, .int 0, .int 1, .int 0]))]) sz) (fun _ => []) 0 (fun _ => [(o, .inr (3, [.ref kA, .int 1, .int 1, .int 0, .int 1, .int 0, .ref iA, .int 0, .int 0, .int 0, .ref tA, .ref tr, .ref lA, .int (nI n)])), (tA, .inl (cT, 120, .inl (fun _ => 0))), (tr, .inr (0, [.int 0, .int 1, .int 0, .int t, .int 1, .int 1, .int (nI a), .int (nI b), .int 0, .int 2, .int 1, .int (w 11), .int (w 12), .int (w 13), .int (w 14), .int (w 15), .ref su, .ref sc])), (k0, .inr (1, [.int 0, .int 1, .int 1, .int 2, .int 1, .int 0, .int 1, .int 0]))])) (va_A ([(o, .inr (3, [.ref kA, .int 1, .int 1, .int 0, .int 1, .int 0, .ref iA, .int 0, .int 0, .int 0, .ref tA, .ref tr, .ref lA, .int (nI n)])), (tA, .inl (cT, 120, .inl (fun _ => 0))), (tr, .inr (0, [.int (w 0), .int (w 1), .int (w 2), .int (w 3), .int (w 4), .int (w 5), .int (w 6), .int (w 7), .int (w 8), .int (w 9), .int (w 10), .int (w 11), .int (w 12), .int (w 13), .int (w 14), .int (w 15), .ref su, .ref sc])), (k0, .inr (1, [.int 0, .int 1, .int 1, .int 2, .int 1, .int 0, .int 1, .int 0]))]) sz)) 0 0 (va_A ([(o, .inr (3, [.ref kA, .int 1, .int 1, .int 0, .int 1, .int 0, .ref iA, .int 0, .int 0, .int 0, .ref tA, .ref tr, .ref lA, .int (nI n)])), (tA, .inl (cT, 120, .inl (fun _ => 0))), (tr, .inr (0, [.int (w 0), .int (w 1), .int (w 2), .int (w 3), .int (w 4), .int (w 5), .int (w 6), .int (w 7), .int (w 8), .int (w 9), .int (w 10), .int (w 11), .int (w 12), .int (w 13), .int (w 14), .int (w 15), .ref su, .ref sc])), (k0, .inr (1, [.int 0, .int 1, .int 1, .int 2, .int 1, .int 0, .int 1, .int 0]))]) sz) := by
  refine Met.ofW (cc := cX3_letDown) (maxL := 10) (ret := none) (by decide) rfl ?_
  intro p e s m args below meth c s₁ B hml hv
  obtain ⟨rfl, hsz, hP, hK, hD0⟩ := hv
  have hx := B.exec
  have hb := B.bytes
  have hr := B.returns
  have hts := atoms_spec (ws := wsX3_letDown) B.pre
  have hown : s.vm.findClass RX3 = some m.cls := findClass_of_methodNamed B.named
  have hlocks := B.notSynchronized
  subst hsz
  have hD := hD0.self (sz := s.heap.size)
  generalize hAe : va_A ([(o, .inr (3, [.ref kA, .int 1, .int 1, .int 0, .int 1, .int 0, .ref iA, .int 0, .int 0, .int 0, .ref tA, .ref tr, .ref lA, .int (nI n)])), (tA, .inl (cT, 120, .inl (fun _ => 0))), (tr, .inr (0, [.int (w 0), .int (w 1), .int (w 2), .int (w 3), .int (w 4), .int (w 5), .int (w 6), .int (w 7), .int (w 8), .int (w 9), .int (w 10), .int (w 11), .int (w 12), .int (w 13), .int (w 14), .int (w 15), .ref su, .ref sc])), (k0, .inr (1, [.int 0, .int 1, .int 1, .int 2, .int 1, .int 0, .int 1, .int 0]))]) s.heap.size = A at hD ⊢
  have hA : ∀ q : Nat, s.heap.size ≤ q → A q := fun q h => by rw [← hAe]; exact Or.inr h
  have hS : va_S A s.heap s.heap [] := va_S.rf
  have hl := lv_entry ([.ref o, .ref k0, .int (nI a), .int (nI b), .int t]) (n := 10) (Nat.le_of_ble_eq_true rfl)
  rw [lg_entry_eq]
  generalize (lg_sl ([.ref o, .ref k0, .int (nI a), .int (nI b), .int t]) ++ List.replicate (10 - (lg_sl ([.ref o, .ref k0, .int (nI a), .int (nI b), .int t])).length) Slot.unset).toArray = ls at hl ⊢
  have hl : lv_has ls 10 [(0, .ref o), (1, .ref k0), (2, .int (nI a)), (3, .int (nI b)), (4, .int t)] := hl
  have hP : va_P D vwCl ([(o, .inr (3, [.ref kA, .int 1, .int 1, .int 0, .int 1, .int 0, .ref iA, .int 0, .int 0, .int 0, .ref tA, .ref tr, .ref lA, .int (nI n)])), (tA, .inl (cT, 120, .inl (fun _ => 0))), (tr, .inr (0, [.int (w 0), .int (w 1), .int (w 2), .int (w 3), .int (w 4), .int (w 5), .int (w 6), .int (w 7), .int (w 8), .int (w 9), .int (w 10), .int (w 11), .int (w 12), .int (w 13), .int (w 14), .int (w 15), .ref su, .ref sc])), (k0, .inr (1, [.int 0, .int 1, .int 1, .int 2, .int 1, .int 0, .int 1, .int 0]))]) s.heap := hP
  generalize hRe : (headSpec _ _).room = R
  have hRf : R.frames = 1 := by rw [← hRe]; rfl
  have hRc : R.cells = 0 := by rw [← hRe]; rfl
  have hRs : R.slots = 0 := by rw [← hRe]; rfl
  have hRl : R.locals = 23 := by rw [← hRe]; rfl
  clear hRe
  refine lv_aload_n hx hb dX3_letDown_0 rfl (lv_at hl 0 rfl) ?_
  refine va_get (D := D) (ci := 3) (v := .ref tr) (C := RX3) (T := TX3) (N := 14) hx hb hts (fun _ h9 => List.mem_cons_of_mem _ (List.mem_append_left _ (List.mem_append_left _ (List.mem_append_right _ h9)))) hown hK hP 0 rfl rfl 11 (by decide) (hts (.fieldLink RX3 52 "PalletStack" "trial" "LPalletStack$Item;") (List.mem_of_getElem? (i := 1) (by rfl))) (fun _ h9 => h9) rfl dX3_letDown_1 ?_
  refine lv_aload_n hx hb dX3_letDown_4 rfl (lv_at hl 1 rfl) ?_
  refine lv_iload hx hb dX3_letDown_5 (lv_at hl 4 rfl) ?_
  refine zcallvV (As := [.ref k0, .int t]) (rest := []) (wc := [(tr, .inr (0, [.int (w 0), .int (w 1), .int (w 2), .int (w 3), .int (w 4), .int (w 5), .int (w 6), .int (w 7), .int (w 8), .int (w 9), .int (w 10), .int (w 11), .int (w 12), .int (w 13), .int (w 14), .int (w 15), .ref su, .ref sc])), (k0, .inr (1, [.int 0, .int 1, .int 1, .int 2, .int 1, .int 0, .int 1, .int 0]))]) (wr := [(o, .inr (3, [.ref kA, .int 1, .int 1, .int 0, .int 1, .int 0, .ref iA, .int 0, .int 0, .int 0, .ref tA, .ref tr, .ref lA, .int (nI n)])), (tA, .inl (cT, 120, .inl (fun _ => 0)))]) ⟨hx, hb, hml, hown, hts⟩ (c_shape l D _ tr k0 su sc w t ht) (cwV 2 hts gX3_letDown_X0_shape rfl rfl rfl (by decide +kernel) ⟨by rw [hRf]; exact Nat.le_of_ble_eq_true rfl, by rw [hRl]; exact Nat.le_of_ble_eq_true rfl⟩) hK hP hD hS hA [2, 3] [0, 1] rfl (by decide) rfl (by decide) (by decide) [] rfl (ci := 0) (q0 := 2) rfl rfl rfl hl.1 rfl (Nat.le_of_ble_eq_true rfl) dX3_letDown_7 ⟨by omega, by omega⟩ (fun u_34 H locs hwu_34 hnu_34 hzu_34 hK hP hD hS => ?_)
  have hK : va_K D vwCl [(cT, .int)] s := hK
  have hP : va_P D vwCl ([(o, .inr (3, [.ref kA, .int 1, .int 1, .int 0, .int 1, .int 0, .ref iA, .int 0, .int 0, .int 0, .ref tA, .ref tr, .ref lA, .int (nI n)])), (tA, .inl (cT, 120, .inl (fun _ => 0))), (tr, .inr (0, [.int 0, .int 1, .int 0, .int t, .int 1, .int 1, .int (w 6), .int (w 7), .int (w 8), .int (w 9), .int (w 10), .int (w 11), .int (w 12), .int (w 13), .int (w 14), .int (w 15), .ref su, .ref sc])), (k0, .inr (1, [.int 0, .int 1, .int 1, .int 2, .int 1, .int 0, .int 1, .int 0]))]) H := hP
  have hD : va_D A ([(o, .inr (3, [.ref kA, .int 1, .int 1, .int 0, .int 1, .int 0, .ref iA, .int 0, .int 0, .int 0, .ref tA, .ref tr, .ref lA, .int (nI n)])), (tA, .inl (cT, 120, .inl (fun _ => 0))), (tr, .inr (0, [.int 0, .int 1, .int 0, .int t, .int 1, .int 1, .int (w 6), .int (w 7), .int (w 8), .int (w 9), .int (w 10), .int (w 11), .int (w 12), .int (w 13), .int (w 14), .int (w 15), .ref su, .ref sc])), (k0, .inr (1, [.int 0, .int 1, .int 1, .int 2, .int 1, .int 0, .int 1, .int 0]))]) := hD
  have hP := hP.sub (ws' := [(o, .inr (3, [.ref kA, .int 1, .int 1, .int 0, .int 1, .int 0, .ref iA, .int 0, .int 0, .int 0, .ref tA, .ref tr, .ref lA, .int (nI n)])), (tA, .inl (cT, 120, .inl (fun _ => 0))), (tr, .inr (0, [.int 0, .int 1, .int 0, .int t, .int 1, .int 1, .int (w 6), .int (w 7), .int (w 8), .int (w 9), .int (w 10), .int (w 11), .int (w 12), .int (w 13), .int (w 14), .int (w 15), .ref su, .ref sc])), (k0, .inr (1, [.int 0, .int 1, .int 1, .int 2, .int 1, .int 0, .int 1, .int 0]))]) [0, 1, 2, 3] rfl
  have hD := hD.sub (ws' := [(o, .inr (3, [.ref kA, .int 1, .int 1, .int 0, .int 1, .int 0, .ref iA, .int 0, .int 0, .int 0, .ref tA, .ref tr, .ref lA, .int (nI n)])), (tA, .inl (cT, 120, .inl (fun _ => 0))), (tr, .inr (0, [.int 0, .int 1, .int 0, .int t, .int 1, .int 1, .int (w 6), .int (w 7), .int (w 8), .int (w 9), .int (w 10), .int (w 11), .int (w 12), .int (w 13), .int (w 14), .int (w 15), .ref su, .ref sc])), (k0, .inr (1, [.int 0, .int 1, .int 1, .int 2, .int 1, .int 0, .int 1, .int 0]))]) [0, 1, 2, 3] (by decide) rfl
  refine lv_aload_n hx hb dX3_letDown_10 rfl (lv_at hl 0 rfl) ?_
  refine va_get (D := D) (ci := 3) (v := .ref tr) (C := RX3) (T := TX3) (N := 14) hx hb hts (fun _ h9 => List.mem_cons_of_mem _ (List.mem_append_left _ (List.mem_append_left _ (List.mem_append_right _ h9)))) hown hK hP 0 rfl rfl 11 (by decide) (hts (.fieldLink RX3 52 "PalletStack" "trial" "LPalletStack$Item;") (List.mem_of_getElem? (i := 1) (by rfl))) (fun _ h9 => h9) rfl dX3_letDown_11 ?_
  refine lv_iload_n hx hb dX3_letDown_14 rfl (lv_at hl 2 rfl) ?_
  refine va_put (D := D) (ci := 0) (v := .int (nI a)) (ty := .int) (C := RX0) (T := TX0) (N := 18) hx hb hts (fun _ h9 => List.mem_cons_of_mem _ (List.mem_append_left _ (List.mem_append_right _ h9))) tyX0 tyX0_ok nmX0 hown hK hP hD hS 2 rfl rfl 6 (by decide) (hts (.fieldLink RX3 182 "PalletStack$Item" "x" "I") (List.mem_of_getElem? (i := 2) (by rfl))) (fun _ h9 => h9) rfl (by decide +kernel) rfl rfl (Nat.le_of_ble_eq_true rfl) dX3_letDown_15 (fun H locs hP hD hS => ?_)
  have hP : va_P D vwCl ([(o, .inr (3, [.ref kA, .int 1, .int 1, .int 0, .int 1, .int 0, .ref iA, .int 0, .int 0, .int 0, .ref tA, .ref tr, .ref lA, .int (nI n)])), (tA, .inl (cT, 120, .inl (fun _ => 0))), (tr, .inr (0, [.int 0, .int 1, .int 0, .int t, .int 1, .int 1, .int (nI a), .int (w 7), .int (w 8), .int (w 9), .int (w 10), .int (w 11), .int (w 12), .int (w 13), .int (w 14), .int (w 15), .ref su, .ref sc])), (k0, .inr (1, [.int 0, .int 1, .int 1, .int 2, .int 1, .int 0, .int 1, .int 0]))]) H := hP
  have hD : va_D A ([(o, .inr (3, [.ref kA, .int 1, .int 1, .int 0, .int 1, .int 0, .ref iA, .int 0, .int 0, .int 0, .ref tA, .ref tr, .ref lA, .int (nI n)])), (tA, .inl (cT, 120, .inl (fun _ => 0))), (tr, .inr (0, [.int 0, .int 1, .int 0, .int t, .int 1, .int 1, .int (nI a), .int (w 7), .int (w 8), .int (w 9), .int (w 10), .int (w 11), .int (w 12), .int (w 13), .int (w 14), .int (w 15), .ref su, .ref sc])), (k0, .inr (1, [.int 0, .int 1, .int 1, .int 2, .int 1, .int 0, .int 1, .int 0]))]) := hD
  refine lv_aload_n hx hb dX3_letDown_18 rfl (lv_at hl 0 rfl) ?_
  refine va_get (D := D) (ci := 3) (v := .ref tr) (C := RX3) (T := TX3) (N := 14) hx hb hts (fun _ h9 => List.mem_cons_of_mem _ (List.mem_append_left _ (List.mem_append_left _ (List.mem_append_right _ h9)))) hown hK hP 0 rfl rfl 11 (by decide) (hts (.fieldLink RX3 52 "PalletStack" "trial" "LPalletStack$Item;") (List.mem_of_getElem? (i := 1) (by rfl))) (fun _ h9 => h9) rfl dX3_letDown_19 ?_
  refine lv_iload_n hx hb dX3_letDown_22 rfl (lv_at hl 3 rfl) ?_
  refine va_put (D := D) (ci := 0) (v := .int (nI b)) (ty := .int) (C := RX0) (T := TX0) (N := 18) hx hb hts (fun _ h9 => List.mem_cons_of_mem _ (List.mem_append_left _ (List.mem_append_right _ h9))) tyX0 tyX0_ok nmX0 hown hK hP hD hS 2 rfl rfl 7 (by decide) (hts (.fieldLink RX3 176 "PalletStack$Item" "y" "I") (List.mem_of_getElem? (i := 3) (by rfl))) (fun _ h9 => h9) rfl (by decide +kernel) rfl rfl (Nat.le_of_ble_eq_true rfl) dX3_letDown_23 (fun H locs hP hD hS => ?_)
  have hP : va_P D vwCl ([(o, .inr (3, [.ref kA, .int 1, .int 1, .int 0, .int 1, .int 0, .ref iA, .int 0, .int 0, .int 0, .ref tA, .ref tr, .ref lA, .int (nI n)])), (tA, .inl (cT, 120, .inl (fun _ => 0))), (tr, .inr (0, [.int 0, .int 1, .int 0, .int t, .int 1, .int 1, .int (nI a), .int (nI b), .int (w 8), .int (w 9), .int (w 10), .int (w 11), .int (w 12), .int (w 13), .int (w 14), .int (w 15), .ref su, .ref sc])), (k0, .inr (1, [.int 0, .int 1, .int 1, .int 2, .int 1, .int 0, .int 1, .int 0]))]) H := hP
  have hD : va_D A ([(o, .inr (3, [.ref kA, .int 1, .int 1, .int 0, .int 1, .int 0, .ref iA, .int 0, .int 0, .int 0, .ref tA, .ref tr, .ref lA, .int (nI n)])), (tA, .inl (cT, 120, .inl (fun _ => 0))), (tr, .inr (0, [.int 0, .int 1, .int 0, .int t, .int 1, .int 1, .int (nI a), .int (nI b), .int (w 8), .int (w 9), .int (w 10), .int (w 11), .int (w 12), .int (w 13), .int (w 14), .int (w 15), .ref su, .ref sc])), (k0, .inr (1, [.int 0, .int 1, .int 1, .int 2, .int 1, .int 0, .int 1, .int 0]))]) := hD
  refine lv_iconst (v := 0) hx hb dX3_letDown_26 (by decide) ?_
  refine lv_istore (lv' := [(5, .int 0), (0, .ref o), (1, .ref k0), (2, .int (nI a)), (3, .int (nI b)), (4, .int t)]) hx hb dX3_letDown_27 hl (by decide) rfl (fun ls hl => ?_)
  refine lv_iconst (v := 0) hx hb dX3_letDown_29 (by decide) ?_
  refine lv_istore (lv' := [(6, .int 0), (5, .int 0), (0, .ref o), (1, .ref k0), (2, .int (nI a)), (3, .int (nI b)), (4, .int t)]) hx hb dX3_letDown_30 hl (by decide) rfl (fun ls hl => ?_)
  refine lv_iload_n hx hb dX3_letDown_32 rfl (lv_at hl 5 rfl) ?_
  refine lv_istore (lv' := [(7, .int (nI b)), (6, .int 0), (5, .int 0), (0, .ref o), (1, .ref k0), (2, .int (nI a)), (3, .int (nI b)), (4, .int t)]) hx hb dX3_letDown_33 hl (by decide) rfl (fun ls hl => ?_)
  refine lv_iload hx hb dX3_letDown_35 (lv_at hl 0 rfl) ?_
  refine lv_iload_n hx hb dX3_letDown_37 rfl (lv_at hl 6 rfl) ?_
  refine lv_aload_n hx hb dX3_letDown_38 rfl (lv_at hl 3 rfl) ?_
  refine va_get (D := D) (ci := 3) (v := .ref tr) (C := RX3) (T := TX3) (N := 14) hx hb hts (fun _ h9 => List.mem_cons_of_mem _ (List.mem_append_left _ (List.mem_append_left _ (List.mem_append_right _ h9)))) hown hK hP 0 rfl rfl 11 (by decide) (hts (.fieldLink RX3 52 "PalletStack" "trial" "LPalletStack$Item;") (List.mem_of_getElem? (i := 1) (by rfl))) (fun _ h9 => h9) rfl dX3_letDown_39 ?_
  refine va_get (D := D) (ci := 0) (v := .int 1) (C := RX0) (T := TX0) (N := 18) hx hb hts (fun _ h9 => List.mem_cons_of_mem _ (List.mem_append_left _ (List.mem_append_right _ h9))) hown hK hP 2 rfl rfl 5 (by decide) (hts (.fieldLink RX3 179 "PalletStack$Item" "depth" "I") (List.mem_of_getElem? (i := 4) (by rfl))) (fun _ h9 => h9) rfl dX3_letDown_42 ?_
  refine lv_iadd hx hb dX3_letDown_45 ?_
  refine lv_topi (fun v_35 ev_35 => ?_)
  obtain rfl : v_35 = (nI (b + 1)) := ev_35.trans (nI_1 b)
  refine lv_icmp_ge (tgt := 115) hx hb dX3_letDown_46 (by decide) (fun c_36 => absurd c_36 (nI_ge (by omega) (by omega))) (fun c_36 => ?_)
  refine lv_iload_n hx hb dX3_letDown_49 rfl (lv_at hl 5 rfl) ?_
  refine lv_istore (lv' := [(8, .int (nI a)), (7, .int (nI b)), (6, .int 0), (5, .int 0), (0, .ref o), (1, .ref k0), (2, .int (nI a)), (3, .int (nI b)), (4, .int t)]) hx hb dX3_letDown_50 hl (by decide) rfl (fun ls hl => ?_)
  refine lv_iload hx hb dX3_letDown_52 (lv_at hl 0 rfl) ?_
  refine lv_iload_n hx hb dX3_letDown_54 rfl (lv_at hl 6 rfl) ?_
  refine lv_aload_n hx hb dX3_letDown_55 rfl (lv_at hl 4 rfl) ?_
  refine va_get (D := D) (ci := 3) (v := .ref tr) (C := RX3) (T := TX3) (N := 14) hx hb hts (fun _ h9 => List.mem_cons_of_mem _ (List.mem_append_left _ (List.mem_append_left _ (List.mem_append_right _ h9)))) hown hK hP 0 rfl rfl 11 (by decide) (hts (.fieldLink RX3 52 "PalletStack" "trial" "LPalletStack$Item;") (List.mem_of_getElem? (i := 1) (by rfl))) (fun _ h9 => h9) rfl dX3_letDown_56 ?_
  refine va_get (D := D) (ci := 0) (v := .int 1) (C := RX0) (T := TX0) (N := 18) hx hb hts (fun _ h9 => List.mem_cons_of_mem _ (List.mem_append_left _ (List.mem_append_right _ h9))) hown hK hP 2 rfl rfl 4 (by decide) (hts (.fieldLink RX3 185 "PalletStack$Item" "width" "I") (List.mem_of_getElem? (i := 5) (by rfl))) (fun _ h9 => h9) rfl dX3_letDown_59 ?_
  refine lv_iadd hx hb dX3_letDown_62 ?_
  refine lv_topi (fun v_37 ev_37 => ?_)
  obtain rfl : v_37 = (nI (a + 1)) := ev_37.trans (nI_1 a)
  refine lv_icmp_ge (tgt := 109) hx hb dX3_letDown_63 (by decide) (fun c_38 => absurd c_38 (nI_ge (by omega) (by omega))) (fun c_38 => ?_)
  refine lv_aload_n hx hb dX3_letDown_66 rfl (lv_at hl 4 rfl) ?_
  refine lv_iload hx hb dX3_letDown_67 (lv_at hl 0 rfl) ?_
  refine lv_iload hx hb dX3_letDown_69 (lv_at hl 1 rfl) ?_
  refine zrdV (As := [.int (nI a), .int (nI b)]) (rest := []) (wc := [(o, .inr (3, [.ref kA, .int 1, .int 1, .int 0, .int 1, .int 0, .ref iA, .int 0, .int 0, .int 0, .ref tA, .ref tr, .ref lA, .int (nI n)])), (tA, .inl (cT, 120, .inl (fun _ => 0)))]) ⟨hx, hb, hml, hown, hts⟩ (c_topOf l D _ o kA iA tA tr lA n cT a b ha hb2) (cwV 2 hts gX3_letDown_X3_topOf rfl rfl rfl (by decide +kernel) ⟨by rw [hRf]; exact Nat.le_of_ble_eq_true rfl, by rw [hRl]; exact Nat.le_of_ble_eq_true rfl⟩) hK hP hD [0, 1] rfl (by decide) [0] rfl (ci := 3) (q0 := 0) rfl rfl rfl hl.1 rfl (Nat.le_of_ble_eq_true rfl) dX3_letDown_71 ⟨by omega, by omega⟩ (fun r_39 hr_39 => ?_)
  refine lv_topi (fun v_40 ev_40 => ?_)
  obtain rfl : v_40 = 0 := ev_40.trans hr_39
  refine lv_istore (lv' := [(9, .int 0), (8, .int (nI a)), (7, .int (nI b)), (6, .int 0), (5, .int 0), (0, .ref o), (1, .ref k0), (2, .int (nI a)), (3, .int (nI b)), (4, .int t)]) hx hb dX3_letDown_74 hl (by decide) rfl (fun ls hl => ?_)
  refine lv_iload hx hb dX3_letDown_76 (lv_at hl 0 rfl) ?_
  refine lv_iload hx hb dX3_letDown_78 (lv_at hl 4 rfl) ?_
  refine lv_icmp_le (tgt := 93) hx hb dX3_letDown_80 (by decide) (fun c_41 => ?_) (fun c_41 => absurd (by decide) c_41)
  refine lv_iload hx hb dX3_letDown_93 (lv_at hl 0 rfl) ?_
  refine lv_iload hx hb dX3_letDown_95 (lv_at hl 4 rfl) ?_
  refine lv_icmp_ne (tgt := 103) hx hb dX3_letDown_97 (by decide) (fun c_42 => absurd (rfl) c_42) (fun c_42 => ?_)
  refine lv_iinc (v := 1) (lv' := [(6, .int 1), (9, .int 0), (8, .int (nI a)), (7, .int (nI b)), (5, .int 0), (0, .ref o), (1, .ref k0), (2, .int (nI a)), (3, .int (nI b)), (4, .int t)]) hx hb dX3_letDown_100 hl (k := 3) rfl (rfl) (by decide) rfl (fun ls hl => ?_)
  refine lv_iinc (v := (nI (a + 1))) (lv' := [(8, .int (nI (a + 1))), (6, .int 1), (9, .int 0), (7, .int (nI b)), (5, .int 0), (0, .ref o), (1, .ref k0), (2, .int (nI a)), (3, .int (nI b)), (4, .int t)]) hx hb dX3_letDown_103 hl (k := 2) rfl (nI_1 a) (by decide) rfl (fun ls hl => ?_)
  refine lv_goto (tgt := 52) hx hb dX3_letDown_106 (by decide) ?_
  refine lv_iload hx hb dX3_letDown_52 (lv_at hl 0 rfl) ?_
  refine lv_iload_n hx hb dX3_letDown_54 rfl (lv_at hl 7 rfl) ?_
  refine lv_aload_n hx hb dX3_letDown_55 rfl (lv_at hl 5 rfl) ?_
  refine va_get (D := D) (ci := 3) (v := .ref tr) (C := RX3) (T := TX3) (N := 14) hx hb hts (fun _ h9 => List.mem_cons_of_mem _ (List.mem_append_left _ (List.mem_append_left _ (List.mem_append_right _ h9)))) hown hK hP 0 rfl rfl 11 (by decide) (hts (.fieldLink RX3 52 "PalletStack" "trial" "LPalletStack$Item;") (List.mem_of_getElem? (i := 1) (by rfl))) (fun _ h9 => h9) rfl dX3_letDown_56 ?_
  refine va_get (D := D) (ci := 0) (v := .int 1) (C := RX0) (T := TX0) (N := 18) hx hb hts (fun _ h9 => List.mem_cons_of_mem _ (List.mem_append_left _ (List.mem_append_right _ h9))) hown hK hP 2 rfl rfl 4 (by decide) (hts (.fieldLink RX3 185 "PalletStack$Item" "width" "I") (List.mem_of_getElem? (i := 5) (by rfl))) (fun _ h9 => h9) rfl dX3_letDown_59 ?_
  refine lv_iadd hx hb dX3_letDown_62 ?_
  refine lv_topi (fun v_43 ev_43 => ?_)
  obtain rfl : v_43 = (nI (a + 1)) := ev_43.trans (nI_1 a)
  refine lv_icmp_ge (tgt := 109) hx hb dX3_letDown_63 (by decide) (fun c_44 => ?_) (fun c_44 => absurd (Int32.le_refl _) c_44)
  refine lv_iinc (v := (nI (b + 1))) (lv' := [(7, .int (nI (b + 1))), (8, .int (nI (a + 1))), (6, .int 1), (9, .int 0), (5, .int 0), (0, .ref o), (1, .ref k0), (2, .int (nI a)), (3, .int (nI b)), (4, .int t)]) hx hb dX3_letDown_109 hl (k := 3) rfl (nI_1 b) (by decide) rfl (fun ls hl => ?_)
  refine lv_goto (tgt := 35) hx hb dX3_letDown_112 (by decide) ?_
  refine lv_iload hx hb dX3_letDown_35 (lv_at hl 0 rfl) ?_
  refine lv_iload_n hx hb dX3_letDown_37 rfl (lv_at hl 8 rfl) ?_
  refine lv_aload_n hx hb dX3_letDown_38 rfl (lv_at hl 5 rfl) ?_
  refine va_get (D := D) (ci := 3) (v := .ref tr) (C := RX3) (T := TX3) (N := 14) hx hb hts (fun _ h9 => List.mem_cons_of_mem _ (List.mem_append_left _ (List.mem_append_left _ (List.mem_append_right _ h9)))) hown hK hP 0 rfl rfl 11 (by decide) (hts (.fieldLink RX3 52 "PalletStack" "trial" "LPalletStack$Item;") (List.mem_of_getElem? (i := 1) (by rfl))) (fun _ h9 => h9) rfl dX3_letDown_39 ?_
  refine va_get (D := D) (ci := 0) (v := .int 1) (C := RX0) (T := TX0) (N := 18) hx hb hts (fun _ h9 => List.mem_cons_of_mem _ (List.mem_append_left _ (List.mem_append_right _ h9))) hown hK hP 2 rfl rfl 5 (by decide) (hts (.fieldLink RX3 179 "PalletStack$Item" "depth" "I") (List.mem_of_getElem? (i := 4) (by rfl))) (fun _ h9 => h9) rfl dX3_letDown_42 ?_
  refine lv_iadd hx hb dX3_letDown_45 ?_
  refine lv_topi (fun v_45 ev_45 => ?_)
  obtain rfl : v_45 = (nI (b + 1)) := ev_45.trans (nI_1 b)
  refine lv_icmp_ge (tgt := 115) hx hb dX3_letDown_46 (by decide) (fun c_46 => ?_) (fun c_46 => absurd (Int32.le_refl _) c_46)
  refine lv_aload_n hx hb dX3_letDown_115 rfl (lv_at hl 5 rfl) ?_
  refine va_get (D := D) (ci := 3) (v := .ref tr) (C := RX3) (T := TX3) (N := 14) hx hb hts (fun _ h9 => List.mem_cons_of_mem _ (List.mem_append_left _ (List.mem_append_left _ (List.mem_append_right _ h9)))) hown hK hP 0 rfl rfl 11 (by decide) (hts (.fieldLink RX3 52 "PalletStack" "trial" "LPalletStack$Item;") (List.mem_of_getElem? (i := 1) (by rfl))) (fun _ h9 => h9) rfl dX3_letDown_116 ?_
  refine lv_iload hx hb dX3_letDown_119 (lv_at hl 4 rfl) ?_
  refine va_put (D := D) (ci := 0) (v := .int 0) (ty := .int) (C := RX0) (T := TX0) (N := 18) hx hb hts (fun _ h9 => List.mem_cons_of_mem _ (List.mem_append_left _ (List.mem_append_right _ h9))) tyX0 tyX0_ok nmX0 hown hK hP hD hS 2 rfl rfl 8 (by decide) (hts (.fieldLink RX3 131 "PalletStack$Item" "bottom" "I") (List.mem_of_getElem? (i := 6) (by rfl))) (fun _ h9 => h9) rfl (by decide +kernel) rfl rfl (Nat.le_of_ble_eq_true rfl) dX3_letDown_121 (fun H locs hP hD hS => ?_)
  have hP : va_P D vwCl ([(o, .inr (3, [.ref kA, .int 1, .int 1, .int 0, .int 1, .int 0, .ref iA, .int 0, .int 0, .int 0, .ref tA, .ref tr, .ref lA, .int (nI n)])), (tA, .inl (cT, 120, .inl (fun _ => 0))), (tr, .inr (0, [.int 0, .int 1, .int 0, .int t, .int 1, .int 1, .int (nI a), .int (nI b), .int 0, .int (w 9), .int (w 10), .int (w 11), .int (w 12), .int (w 13), .int (w 14), .int (w 15), .ref su, .ref sc])), (k0, .inr (1, [.int 0, .int 1, .int 1, .int 2, .int 1, .int 0, .int 1, .int 0]))]) H := hP
  have hD : va_D A ([(o, .inr (3, [.ref kA, .int 1, .int 1, .int 0, .int 1, .int 0, .ref iA, .int 0, .int 0, .int 0, .ref tA, .ref tr, .ref lA, .int (nI n)])), (tA, .inl (cT, 120, .inl (fun _ => 0))), (tr, .inr (0, [.int 0, .int 1, .int 0, .int t, .int 1, .int 1, .int (nI a), .int (nI b), .int 0, .int (w 9), .int (w 10), .int (w 11), .int (w 12), .int (w 13), .int (w 14), .int (w 15), .ref su, .ref sc])), (k0, .inr (1, [.int 0, .int 1, .int 1, .int 2, .int 1, .int 0, .int 1, .int 0]))]) := hD
  refine lv_aload_n hx hb dX3_letDown_124 rfl (lv_at hl 5 rfl) ?_
  refine va_get (D := D) (ci := 3) (v := .ref tr) (C := RX3) (T := TX3) (N := 14) hx hb hts (fun _ h9 => List.mem_cons_of_mem _ (List.mem_append_left _ (List.mem_append_left _ (List.mem_append_right _ h9)))) hown hK hP 0 rfl rfl 11 (by decide) (hts (.fieldLink RX3 52 "PalletStack" "trial" "LPalletStack$Item;") (List.mem_of_getElem? (i := 1) (by rfl))) (fun _ h9 => h9) rfl dX3_letDown_125 ?_
  refine lv_iload hx hb dX3_letDown_128 (lv_at hl 4 rfl) ?_
  refine lv_aload_n hx hb dX3_letDown_130 rfl (lv_at hl 6 rfl) ?_
  refine va_get (D := D) (ci := 1) (v := .int 2) (C := RX1) (T := TX1) (N := 8) hx hb hts (fun _ h9 => List.mem_cons_of_mem _ (List.mem_append_right _ h9)) hown hK hP 3 rfl rfl 3 (by decide) (hts (.fieldLink RX3 254 "PalletStack$Kind" "height" "I") (List.mem_of_getElem? (i := 7) (by rfl))) (fun _ h9 => h9) rfl dX3_letDown_131 ?_
  refine lv_iadd hx hb dX3_letDown_134 ?_
  refine lv_topi (fun v_47 ev_47 => ?_)
  obtain rfl : v_47 = 2 := ev_47.trans (by decide)
  refine va_put (D := D) (ci := 0) (v := .int 2) (ty := .int) (C := RX0) (T := TX0) (N := 18) hx hb hts (fun _ h9 => List.mem_cons_of_mem _ (List.mem_append_left _ (List.mem_append_right _ h9))) tyX0 tyX0_ok nmX0 hown hK hP hD hS 2 rfl rfl 9 (by decide) (hts (.fieldLink RX3 134 "PalletStack$Item" "top" "I") (List.mem_of_getElem? (i := 8) (by rfl))) (fun _ h9 => h9) rfl (by decide +kernel) rfl rfl (Nat.le_of_ble_eq_true rfl) dX3_letDown_135 (fun H locs hP hD hS => ?_)
  have hP : va_P D vwCl ([(o, .inr (3, [.ref kA, .int 1, .int 1, .int 0, .int 1, .int 0, .ref iA, .int 0, .int 0, .int 0, .ref tA, .ref tr, .ref lA, .int (nI n)])), (tA, .inl (cT, 120, .inl (fun _ => 0))), (tr, .inr (0, [.int 0, .int 1, .int 0, .int t, .int 1, .int 1, .int (nI a), .int (nI b), .int 0, .int 2, .int (w 10), .int (w 11), .int (w 12), .int (w 13), .int (w 14), .int (w 15), .ref su, .ref sc])), (k0, .inr (1, [.int 0, .int 1, .int 1, .int 2, .int 1, .int 0, .int 1, .int 0]))]) H := hP
  have hD : va_D A ([(o, .inr (3, [.ref kA, .int 1, .int 1, .int 0, .int 1, .int 0, .ref iA, .int 0, .int 0, .int 0, .ref tA, .ref tr, .ref lA, .int (nI n)])), (tA, .inl (cT, 120, .inl (fun _ => 0))), (tr, .inr (0, [.int 0, .int 1, .int 0, .int t, .int 1, .int 1, .int (nI a), .int (nI b), .int 0, .int 2, .int (w 10), .int (w 11), .int (w 12), .int (w 13), .int (w 14), .int (w 15), .ref su, .ref sc])), (k0, .inr (1, [.int 0, .int 1, .int 1, .int 2, .int 1, .int 0, .int 1, .int 0]))]) := hD
  refine lv_aload_n hx hb dX3_letDown_138 rfl (lv_at hl 5 rfl) ?_
  refine va_get (D := D) (ci := 3) (v := .ref tr) (C := RX3) (T := TX3) (N := 14) hx hb hts (fun _ h9 => List.mem_cons_of_mem _ (List.mem_append_left _ (List.mem_append_left _ (List.mem_append_right _ h9)))) hown hK hP 0 rfl rfl 11 (by decide) (hts (.fieldLink RX3 52 "PalletStack" "trial" "LPalletStack$Item;") (List.mem_of_getElem? (i := 1) (by rfl))) (fun _ h9 => h9) rfl dX3_letDown_139 ?_
  refine lv_iload hx hb dX3_letDown_142 (lv_at hl 2 rfl) ?_
  refine va_put (D := D) (ci := 0) (v := .int 1) (ty := .int) (C := RX0) (T := TX0) (N := 18) hx hb hts (fun _ h9 => List.mem_cons_of_mem _ (List.mem_append_left _ (List.mem_append_right _ h9))) tyX0 tyX0_ok nmX0 hown hK hP hD hS 2 rfl rfl 10 (by decide) (hts (.fieldLink RX3 214 "PalletStack$Item" "ground" "I") (List.mem_of_getElem? (i := 9) (by rfl))) (fun _ h9 => h9) rfl (by decide +kernel) rfl rfl (Nat.le_of_ble_eq_true rfl) dX3_letDown_144 (fun H locs hP hD hS => ?_)
  have hP : va_P D vwCl ([(o, .inr (3, [.ref kA, .int 1, .int 1, .int 0, .int 1, .int 0, .ref iA, .int 0, .int 0, .int 0, .ref tA, .ref tr, .ref lA, .int (nI n)])), (tA, .inl (cT, 120, .inl (fun _ => 0))), (tr, .inr (0, [.int 0, .int 1, .int 0, .int t, .int 1, .int 1, .int (nI a), .int (nI b), .int 0, .int 2, .int 1, .int (w 11), .int (w 12), .int (w 13), .int (w 14), .int (w 15), .ref su, .ref sc])), (k0, .inr (1, [.int 0, .int 1, .int 1, .int 2, .int 1, .int 0, .int 1, .int 0]))]) H := hP
  have hD : va_D A ([(o, .inr (3, [.ref kA, .int 1, .int 1, .int 0, .int 1, .int 0, .ref iA, .int 0, .int 0, .int 0, .ref tA, .ref tr, .ref lA, .int (nI n)])), (tA, .inl (cT, 120, .inl (fun _ => 0))), (tr, .inr (0, [.int 0, .int 1, .int 0, .int t, .int 1, .int 1, .int (nI a), .int (nI b), .int 0, .int 2, .int 1, .int (w 11), .int (w 12), .int (w 13), .int (w 14), .int (w 15), .ref su, .ref sc])), (k0, .inr (1, [.int 0, .int 1, .int 1, .int 2, .int 1, .int 0, .int 1, .int 0]))]) := hD
  exact W.vret hx hb hr (fun t ht hW => ⟨⟨(), rfl, True.intro, ⟨Nat.zero_le _, by rw [ht]; exact hP, va_K.moved hW.alike (hK.sub (tys' := []) [] rfl), hD⟩⟩, hS.F ht⟩) hS.2.2 dX3_letDown_147
set_option maxHeartbeats 4000000 in
set_option maxRecDepth 100000 in
theorem c_brokenRule (l : Launch) (D : zG) (sz : Nat) (o kA iA tA tr lA n : Nat) (k0 su sc : Nat) (w : Nat → Int32) (h9 : w 9 = 2) : Met l yX3_brokenRule wsX3_brokenRule ({ frames := 0, cells := 0, slots := 0, locals := 0 }) (zPc D [] ([(o, .inr (3, [.ref kA, .int 1, .int 1, .int 0, .int 1, .int 0, .ref iA, .int 0, .int 0, .int 0, .ref tA, .ref tr, .ref lA, .int (nI n)])), (tr, .inr (0, [.int (w 0), .int (w 1), .int (w 2), .int (w 3), .int (w 4), .int (w 5), .int (w 6), .int (w 7), .int (w 8), .int (w 9), .int (w 10), .int (w 11), .int (w 12), .int (w 13), .int (w 14), .int (w 15), .ref su, .ref sc]))]) sz [.ref o, .ref k0]) (vp_Si (fun r => r = 2)) 0 0 (fun _ => False) := by
  refine Met.ofW (cc := cX3_brokenRule) (maxL := 2) (ret := (some .int)) (by decide) rfl ?_
  intro p e s m args below meth c s₁ B hml hv
  obtain ⟨rfl, hsz, hP, hK, hD0⟩ := hv
  have hx := B.exec
  have hb := B.bytes
  have hr := B.returns
  have hts := atoms_spec (ws := wsX3_brokenRule) B.pre
  have hown : s.vm.findClass RX3 = some m.cls := findClass_of_methodNamed B.named
  have hlocks := B.notSynchronized
  subst hsz
  have hD := hD0
  generalize hAe : (fun _ : Nat => True) = A at hD
  have hl := lv_entry ([.ref o, .ref k0]) (n := 2) (Nat.le_of_ble_eq_true rfl)
  rw [lg_entry_eq]
  generalize (lg_sl ([.ref o, .ref k0]) ++ List.replicate (2 - (lg_sl ([.ref o, .ref k0])).length) Slot.unset).toArray = ls at hl ⊢
  have hl : lv_has ls 2 [(0, .ref o), (1, .ref k0)] := hl
  have hP : va_P D vwCl ([(o, .inr (3, [.ref kA, .int 1, .int 1, .int 0, .int 1, .int 0, .ref iA, .int 0, .int 0, .int 0, .ref tA, .ref tr, .ref lA, .int (nI n)])), (tr, .inr (0, [.int (w 0), .int (w 1), .int (w 2), .int (w 3), .int (w 4), .int (w 5), .int (w 6), .int (w 7), .int (w 8), .int (w 9), .int (w 10), .int (w 11), .int (w 12), .int (w 13), .int (w 14), .int (w 15), .ref su, .ref sc]))]) s.heap := hP
  generalize hRe : (headSpec _ _).room = R
  have hRf : R.frames = 0 := by rw [← hRe]; rfl
  have hRc : R.cells = 0 := by rw [← hRe]; rfl
  have hRs : R.slots = 0 := by rw [← hRe]; rfl
  have hRl : R.locals = 0 := by rw [← hRe]; rfl
  clear hRe
  refine lv_aload_n hx hb dX3_brokenRule_0 rfl (lv_at hl 0 rfl) ?_
  refine va_get (D := D) (ci := 3) (v := .ref tr) (C := RX3) (T := TX3) (N := 14) hx hb hts (fun _ h9 => List.mem_cons_of_mem _ (List.mem_append_left _ (List.mem_append_left _ (List.mem_append_right _ h9)))) hown hK hP 0 rfl rfl 11 (by decide) (hts (.fieldLink RX3 52 "PalletStack" "trial" "LPalletStack$Item;") (List.mem_of_getElem? (i := 1) (by rfl))) (fun _ h9 => h9) rfl dX3_brokenRule_1 ?_
  refine va_get (D := D) (ci := 0) (v := .int (w 9)) (C := RX0) (T := TX0) (N := 18) hx hb hts (fun _ h9 => List.mem_cons_of_mem _ (List.mem_append_left _ (List.mem_append_right _ h9))) hown hK hP 1 rfl rfl 9 (by decide) (hts (.fieldLink RX3 134 "PalletStack$Item" "top" "I") (List.mem_of_getElem? (i := 2) (by rfl))) (fun _ h9 => h9) rfl dX3_brokenRule_4 ?_
  refine lv_aload_n hx hb dX3_brokenRule_7 rfl (lv_at hl 0 rfl) ?_
  refine va_get (D := D) (ci := 3) (v := .int 1) (C := RX3) (T := TX3) (N := 14) hx hb hts (fun _ h9 => List.mem_cons_of_mem _ (List.mem_append_left _ (List.mem_append_left _ (List.mem_append_right _ h9)))) hown hK hP 0 rfl rfl 2 (by decide) (hts (.fieldLink RX3 19 "PalletStack" "greatestHeight" "I") (List.mem_of_getElem? (i := 3) (by rfl))) (fun _ h9 => h9) rfl dX3_brokenRule_8 ?_
  refine lv_icmp_le (tgt := 16) hx hb dX3_brokenRule_11 (by decide) (fun c_48 => absurd c_48 (by rw [h9]; decide)) (fun c_48 => ?_)
  refine lv_iconst (v := 2) hx hb dX3_brokenRule_14 (by decide) ?_
  exact W.iret (v := 2) hx hb hr (fun t ht hW => ⟨2, rfl, rfl, ht⟩) (fun _ h => by cases h) dX3_brokenRule_15
set_option maxHeartbeats 4000000 in
set_option maxRecDepth 100000 in
theorem c_bestPlace (l : Launch) (D : zG) (sz : Nat) (o kA iA tA tr lA n : Nat) (k0 su sc : Nat) (w : Nat → Int32) (cT : ClassId) : Met l yX3_bestPlace wsX3_bestPlace ({ frames := 2, cells := 0, slots := 0, locals := 52 }) (zPc D [(cT, .int)] ([(o, .inr (3, [.ref kA, .int 1, .int 1, .int 0, .int 1, .int 0, .ref iA, .int 0, .int 0, .int 0, .ref tA, .ref tr, .ref lA, .int (nI n)])), (tA, .inl (cT, 120, .inl (fun _ => 0))), (tr, .inr (0, [.int (w 0), .int (w 1), .int (w 2), .int (w 3), .int (w 4), .int (w 5), .int (w 6), .int (w 7), .int (w 8), .int (w 9), .int (w 10), .int (w 11), .int (w 12), .int (w 13), .int (w 14), .int (w 15), .ref su, .ref sc])), (k0, .inr (1, [.int 0, .int 1, .int 1, .int 2, .int 1, .int 0, .int 1, .int 0]))]) sz [.ref o, .ref k0]) (va_Qi (fun (r : Int32) (u : Nat → Int32) => r = -1) (zB D (va_A ([(o, .inr (3, [.ref kA, .int 1, .int 1, .int 0, .int 1, .int 0, .ref iA, .int 0, .int 0, .int 0, .ref tA, .ref tr, .ref lA, .int (nI n)])), (tA, .inl (cT, 120, .inl (fun _ => 0))), (tr, .inr (0, [.int (w 0), .int (w 1), .int (w 2), .int (w 3), .int (w 4), .int (w 5), .int (w 6), .int (w 7), .int (w 8), .int (w 9), .int (w 10), .int (w 11), .int (w 12), .int (w 13), .int (w 14), .int (w 15), .ref su, .ref sc])), (k0, .inr (1, [.int 0, .int 1, .int 1, .int 2, .int 1, .int 0, .int 1, .int 0]))]) sz) (fun _ => []) 0 (fun u => [(o, .inr (3, [.ref kA, .int 1, .int 1, .int 0, .int 1, .int 0, .ref iA, .int 0, .int 0, .int 0, .ref tA, .ref tr, .ref lA, .int (nI n)])), (tA, .inl (cT, 120, .inl (fun _ => 0))), (tr, .inr (0, [.int (u 0), .int (u 1), .int (u 2), .int (u 3), .int (u 4), .int (u 5), .int (u 6), .int (u 7), .int (u 8), .int (u 9), .int (u 10), .int (u 11), .int (u 12), .int (u 13), .int (u 14), .int (u 15), .ref su, .ref sc])), (k0, .inr (1, [.int 0, .int 1, .int 1, .int 2, .int 1, .int 0, .int 1, .int 0]))])) (va_A ([(o, .inr (3, [.ref kA, .int 1, .int 1, .int 0, .int 1, .int 0, .ref iA, .int 0, .int 0, .int 0, .ref tA, .ref tr, .ref lA, .int (nI n)])), (tA, .inl (cT, 120, .inl (fun _ => 0))), (tr, .inr (0, [.int (w 0), .int (w 1), .int (w 2), .int (w 3), .int (w 4), .int (w 5), .int (w 6), .int (w 7), .int (w 8), .int (w 9), .int (w 10), .int (w 11), .int (w 12), .int (w 13), .int (w 14), .int (w 15), .ref su, .ref sc])), (k0, .inr (1, [.int 0, .int 1, .int 1, .int 2, .int 1, .int 0, .int 1, .int 0]))]) sz)) 0 0 (va_A ([(o, .inr (3, [.ref kA, .int 1, .int 1, .int 0, .int 1, .int 0, .ref iA, .int 0, .int 0, .int 0, .ref tA, .ref tr, .ref lA, .int (nI n)])), (tA, .inl (cT, 120, .inl (fun _ => 0))), (tr, .inr (0, [.int (w 0), .int (w 1), .int (w 2), .int (w 3), .int (w 4), .int (w 5), .int (w 6), .int (w 7), .int (w 8), .int (w 9), .int (w 10), .int (w 11), .int (w 12), .int (w 13), .int (w 14), .int (w 15), .ref su, .ref sc])), (k0, .inr (1, [.int 0, .int 1, .int 1, .int 2, .int 1, .int 0, .int 1, .int 0]))]) sz) := by
  refine Met.ofW (cc := cX3_bestPlace) (maxL := 7) (ret := (some .int)) (by decide) rfl ?_
  intro p e s m args below meth c s₁ B hml hv
  obtain ⟨rfl, hsz, hP, hK, hD0⟩ := hv
  have hx := B.exec
  have hb := B.bytes
  have hr := B.returns
  have hts := atoms_spec (ws := wsX3_bestPlace) B.pre
  have hown : s.vm.findClass RX3 = some m.cls := findClass_of_methodNamed B.named
  have hlocks := B.notSynchronized
  subst hsz
  have hD := hD0.self (sz := s.heap.size)
  generalize hAe : va_A ([(o, .inr (3, [.ref kA, .int 1, .int 1, .int 0, .int 1, .int 0, .ref iA, .int 0, .int 0, .int 0, .ref tA, .ref tr, .ref lA, .int (nI n)])), (tA, .inl (cT, 120, .inl (fun _ => 0))), (tr, .inr (0, [.int (w 0), .int (w 1), .int (w 2), .int (w 3), .int (w 4), .int (w 5), .int (w 6), .int (w 7), .int (w 8), .int (w 9), .int (w 10), .int (w 11), .int (w 12), .int (w 13), .int (w 14), .int (w 15), .ref su, .ref sc])), (k0, .inr (1, [.int 0, .int 1, .int 1, .int 2, .int 1, .int 0, .int 1, .int 0]))]) s.heap.size = A at hD ⊢
  have hA : ∀ q : Nat, s.heap.size ≤ q → A q := fun q h => by rw [← hAe]; exact Or.inr h
  have hS : va_S A s.heap s.heap [] := va_S.rf
  have hl := lv_entry ([.ref o, .ref k0]) (n := 7) (Nat.le_of_ble_eq_true rfl)
  rw [lg_entry_eq]
  generalize (lg_sl ([.ref o, .ref k0]) ++ List.replicate (7 - (lg_sl ([.ref o, .ref k0])).length) Slot.unset).toArray = ls at hl ⊢
  have hl : lv_has ls 7 [(0, .ref o), (1, .ref k0)] := hl
  have hP : va_P D vwCl ([(o, .inr (3, [.ref kA, .int 1, .int 1, .int 0, .int 1, .int 0, .ref iA, .int 0, .int 0, .int 0, .ref tA, .ref tr, .ref lA, .int (nI n)])), (tA, .inl (cT, 120, .inl (fun _ => 0))), (tr, .inr (0, [.int (w 0), .int (w 1), .int (w 2), .int (w 3), .int (w 4), .int (w 5), .int (w 6), .int (w 7), .int (w 8), .int (w 9), .int (w 10), .int (w 11), .int (w 12), .int (w 13), .int (w 14), .int (w 15), .ref su, .ref sc])), (k0, .inr (1, [.int 0, .int 1, .int 1, .int 2, .int 1, .int 0, .int 1, .int 0]))]) s.heap := hP
  generalize hRe : (headSpec _ _).room = R
  have hRf : R.frames = 2 := by rw [← hRe]; rfl
  have hRc : R.cells = 0 := by rw [← hRe]; rfl
  have hRs : R.slots = 0 := by rw [← hRe]; rfl
  have hRl : R.locals = 52 := by rw [← hRe]; rfl
  clear hRe
  refine lv_iconst (v := (-1)) hx hb dX3_bestPlace_0 (by decide) ?_
  refine lv_istore_n (lv' := [(2, .int (-1)), (0, .ref o), (1, .ref k0)]) hx hb dX3_bestPlace_1 rfl hl (by decide) rfl (fun ls hl => ?_)
  refine lv_iconst (v := 0) hx hb dX3_bestPlace_2 (by decide) ?_
  refine lv_istore_n (lv' := [(3, .int 0), (2, .int (-1)), (0, .ref o), (1, .ref k0)]) hx hb dX3_bestPlace_3 rfl hl (by decide) rfl (fun ls hl => ?_)
  refine lv_iconst (v := 0) hx hb dX3_bestPlace_4 (by decide) ?_
  refine lv_istore (lv' := [(4, .int 0), (3, .int 0), (2, .int (-1)), (0, .ref o), (1, .ref k0)]) hx hb dX3_bestPlace_5 hl (by decide) rfl (fun ls hl => ?_)
  refine lv_iconst (v := 0) hx hb dX3_bestPlace_7 (by decide) ?_
  refine lv_istore (lv' := [(5, .int 0), (4, .int 0), (3, .int 0), (2, .int (-1)), (0, .ref o), (1, .ref k0)]) hx hb dX3_bestPlace_8 hl (by decide) rfl (fun ls hl => ?_)
  generalize hQe : MQ _ _ _ _ _ _ _ = Q
  have hl := lv_sub hl (l' := [(5, .int 0), (4, .int 0), (3, .int 0), (2, .int (-1)), (1, .ref k0), (0, .ref o)]) [0, 1, 2, 3, 5, 4] rfl
  have loop : ∀ (k c1 : Nat), c1 + k = 240 → ∀ (w : Nat → Int32) (H : Heap) (locs : List Loc) (ls : Array Slot), va_P D vwCl ([(o, .inr (3, [.ref kA, .int 1, .int 1, .int 0, .int 1, .int 0, .ref iA, .int 0, .int 0, .int 0, .ref tA, .ref tr, .ref lA, .int (nI n)])), (tA, .inl (cT, 120, .inl (fun _ => 0))), (tr, .inr (0, [.int (w 0), .int (w 1), .int (w 2), .int (w 3), .int (w 4), .int (w 5), .int (w 6), .int (w 7), .int (w 8), .int (w 9), .int (w 10), .int (w 11), .int (w 12), .int (w 13), .int (w 14), .int (w 15), .ref su, .ref sc])), (k0, .inr (1, [.int 0, .int 1, .int 1, .int 2, .int 1, .int 0, .int 1, .int 0]))]) H → va_D A ([(o, .inr (3, [.ref kA, .int 1, .int 1, .int 0, .int 1, .int 0, .ref iA, .int 0, .int 0, .int 0, .ref tA, .ref tr, .ref lA, .int (nI n)])), (tA, .inl (cT, 120, .inl (fun _ => 0))), (tr, .inr (0, [.int (w 0), .int (w 1), .int (w 2), .int (w 3), .int (w 4), .int (w 5), .int (w 6), .int (w 7), .int (w 8), .int (w 9), .int (w 10), .int (w 11), .int (w 12), .int (w 13), .int (w 14), .int (w 15), .ref su, .ref sc])), (k0, .inr (1, [.int 0, .int 1, .int 1, .int 2, .int 1, .int 0, .int 1, .int 0]))]) → va_S A s.heap H locs → lv_has ls 7 [(5, .int (nI c1)), (4, .int 0), (3, .int 0), (2, .int (-1)), (1, .ref k0), (0, .ref o)] → W p l e R s m ([.ref o, .ref k0] : List Value).toArray below meth c H locs 0 0 Q (F0 m 10 ls []) := by
    intro k
    induction k with
    | zero =>
      intro c1 hc w H locs ls hP hD hS hl
      obtain rfl : c1 = 240 := by omega
      refine lv_iload hx hb dX3_bestPlace_10 (lv_at hl 0 rfl) ?_
      refine lv_sipush (v := 240) hx hb dX3_bestPlace_12 (by decide) ?_
      refine lv_icmp_ge (tgt := 154) hx hb dX3_bestPlace_15 (by decide) (fun c_49 => ?_) (fun c_49 => absurd (by decide) c_49)
      refine lv_iload_n hx hb dX3_bestPlace_154 rfl (lv_at hl 3 rfl) ?_
      rw [← hQe]
      exact W.iret (v := (-1)) hx hb hr (fun t ht hW => ⟨⟨(-1), w, rfl, rfl, ⟨Nat.zero_le _, by rw [ht]; exact hP, va_K.moved hW.alike (hK.sub (tys' := []) [] rfl), hD⟩⟩, hS.F ht⟩) hS.2.2 dX3_bestPlace_155
    | succ k ih =>
      intro c1 hc w H locs ls hP hD hS hl
      have hc2 : c1 < 240 := by omega
      have ht : nI (c1 % 2) = 0 ∨ nI (c1 % 2) = 1 := by rcases Nat.mod_two_eq_zero_or_one c1 with h | h <;> rw [h] <;> decide
      have hx1 : c1 / 2 % 12 < 12 := Nat.mod_lt _ (by decide)
      have hy1 : c1 / 2 / 12 < 10 := by omega
      refine lv_iload hx hb dX3_bestPlace_10 (lv_at hl 0 rfl) ?_
      refine lv_sipush (v := 240) hx hb dX3_bestPlace_12 (by decide) ?_
      refine lv_icmp_ge (tgt := 154) hx hb dX3_bestPlace_15 (by decide) (fun c_50 => absurd c_50 (nI_ge (b := 240) (by omega) (by decide))) (fun c_50 => ?_)
      refine lv_aload_n hx hb dX3_bestPlace_18 rfl (lv_at hl 4 rfl) ?_
      refine lv_iload hx hb dX3_bestPlace_19 (lv_at hl 0 rfl) ?_
      refine zrdS (As := [.int (nI c1)]) (rest := [.ref k0]) (wc := []) ⟨hx, hb, hml, hown, hts⟩ (c_xOf l D _ c1 hc2) (va_cwS 1 hts gX3_bestPlace_X3_xOf rfl rfl rfl (by decide +kernel) ⟨by rw [hRf]; exact Nat.le_of_ble_eq_true rfl, by rw [hRl]; exact Nat.le_of_ble_eq_true rfl⟩) hK hP hD [] rfl (by decide) [] rfl rfl hl.1 rfl (Nat.le_of_ble_eq_true rfl) dX3_bestPlace_21 ⟨by omega, by omega⟩ (fun r_51 hr_51 => ?_)
      refine lv_topi (fun v_52 ev_52 => ?_)
      obtain rfl : v_52 = (nI (c1 / 2 % 12)) := ev_52.trans hr_51
      refine lv_iload hx hb dX3_bestPlace_24 (lv_at hl 0 rfl) ?_
      refine zrdS (As := [.int (nI c1)]) (rest := [.int (nI (c1 / 2 % 12)), .ref k0]) (wc := []) ⟨hx, hb, hml, hown, hts⟩ (c_yOf l D _ c1 hc2) (va_cwS 1 hts gX3_bestPlace_X3_yOf rfl rfl rfl (by decide +kernel) ⟨by rw [hRf]; exact Nat.le_of_ble_eq_true rfl, by rw [hRl]; exact Nat.le_of_ble_eq_true rfl⟩) hK hP hD [] rfl (by decide) [] rfl rfl hl.1 rfl (Nat.le_of_ble_eq_true rfl) dX3_bestPlace_26 ⟨by omega, by omega⟩ (fun r_53 hr_53 => ?_)
      refine lv_topi (fun v_54 ev_54 => ?_)
      obtain rfl : v_54 = (nI (c1 / 2 / 12)) := ev_54.trans hr_53
      refine lv_iload hx hb dX3_bestPlace_29 (lv_at hl 0 rfl) ?_
      refine zrdS (As := [.int (nI c1)]) (rest := [.int (nI (c1 / 2 / 12)), .int (nI (c1 / 2 % 12)), .ref k0]) (wc := []) ⟨hx, hb, hml, hown, hts⟩ (c_isTurnedIn l D _ c1 hc2) (va_cwS 1 hts gX3_bestPlace_X3_isTurnedIn rfl rfl rfl (by decide +kernel) ⟨by rw [hRf]; exact Nat.le_of_ble_eq_true rfl, by rw [hRl]; exact Nat.le_of_ble_eq_true rfl⟩) hK hP hD [] rfl (by decide) [] rfl rfl hl.1 rfl (Nat.le_of_ble_eq_true rfl) dX3_bestPlace_31 ⟨by omega, by omega⟩ (fun r_55 hr_55 => ?_)
      refine lv_topi (fun v_56 ev_56 => ?_)
      obtain rfl : v_56 = (nI (c1 % 2)) := ev_56.trans hr_55
      refine zrdS (As := [.ref k0, .int (nI (c1 / 2 % 12)), .int (nI (c1 / 2 / 12)), .int (nI (c1 % 2))]) (rest := []) (wc := [(k0, .inr (1, [.int 0, .int 1, .int 1, .int 2, .int 1, .int 0, .int 1, .int 0]))]) ⟨hx, hb, hml, hown, hts⟩ (c_isInField l D _ k0 _ _ hx1 hy1 _ ht) (va_cwS 4 hts gX3_bestPlace_X3_isInField rfl rfl rfl (by decide +kernel) ⟨by rw [hRf]; exact Nat.le_of_ble_eq_true rfl, by rw [hRl]; exact Nat.le_of_ble_eq_true rfl⟩) hK hP hD [3] rfl (by decide) [] rfl rfl hl.1 rfl (Nat.le_of_ble_eq_true rfl) dX3_bestPlace_34 ⟨by omega, by omega⟩ (fun r_57 hr_57 => ?_)
      refine lv_topi (fun v_58 ev_58 => ?_)
      obtain rfl : v_58 = 1 := ev_58.trans hr_57
      refine lv_if_ne (tgt := 43) hx hb dX3_bestPlace_37 (by decide) (fun c_59 => ?_) (fun c_59 => absurd c_59 (by decide))
      refine lv_aload_n hx hb dX3_bestPlace_43 rfl (lv_at hl 5 rfl) ?_
      refine lv_aload_n hx hb dX3_bestPlace_44 rfl (lv_at hl 4 rfl) ?_
      refine lv_iload hx hb dX3_bestPlace_45 (lv_at hl 0 rfl) ?_
      refine zrdS (As := [.int (nI c1)]) (rest := [.ref k0, .ref o]) (wc := []) ⟨hx, hb, hml, hown, hts⟩ (c_xOf l D _ c1 hc2) (va_cwS 1 hts gX3_bestPlace_X3_xOf rfl rfl rfl (by decide +kernel) ⟨by rw [hRf]; exact Nat.le_of_ble_eq_true rfl, by rw [hRl]; exact Nat.le_of_ble_eq_true rfl⟩) hK hP hD [] rfl (by decide) [] rfl rfl hl.1 rfl (Nat.le_of_ble_eq_true rfl) dX3_bestPlace_47 ⟨by omega, by omega⟩ (fun r_60 hr_60 => ?_)
      refine lv_topi (fun v_61 ev_61 => ?_)
      obtain rfl : v_61 = (nI (c1 / 2 % 12)) := ev_61.trans hr_60
      refine lv_iload hx hb dX3_bestPlace_50 (lv_at hl 0 rfl) ?_
      refine zrdS (As := [.int (nI c1)]) (rest := [.int (nI (c1 / 2 % 12)), .ref k0, .ref o]) (wc := []) ⟨hx, hb, hml, hown, hts⟩ (c_yOf l D _ c1 hc2) (va_cwS 1 hts gX3_bestPlace_X3_yOf rfl rfl rfl (by decide +kernel) ⟨by rw [hRf]; exact Nat.le_of_ble_eq_true rfl, by rw [hRl]; exact Nat.le_of_ble_eq_true rfl⟩) hK hP hD [] rfl (by decide) [] rfl rfl hl.1 rfl (Nat.le_of_ble_eq_true rfl) dX3_bestPlace_52 ⟨by omega, by omega⟩ (fun r_62 hr_62 => ?_)
      refine lv_topi (fun v_63 ev_63 => ?_)
      obtain rfl : v_63 = (nI (c1 / 2 / 12)) := ev_63.trans hr_62
      refine lv_iload hx hb dX3_bestPlace_55 (lv_at hl 0 rfl) ?_
      refine zrdS (As := [.int (nI c1)]) (rest := [.int (nI (c1 / 2 / 12)), .int (nI (c1 / 2 % 12)), .ref k0, .ref o]) (wc := []) ⟨hx, hb, hml, hown, hts⟩ (c_isTurnedIn l D _ c1 hc2) (va_cwS 1 hts gX3_bestPlace_X3_isTurnedIn rfl rfl rfl (by decide +kernel) ⟨by rw [hRf]; exact Nat.le_of_ble_eq_true rfl, by rw [hRl]; exact Nat.le_of_ble_eq_true rfl⟩) hK hP hD [] rfl (by decide) [] rfl rfl hl.1 rfl (Nat.le_of_ble_eq_true rfl) dX3_bestPlace_57 ⟨by omega, by omega⟩ (fun r_64 hr_64 => ?_)
      refine lv_topi (fun v_65 ev_65 => ?_)
      obtain rfl : v_65 = (nI (c1 % 2)) := ev_65.trans hr_64
      refine zcallvV (As := [.ref k0, .int (nI (c1 / 2 % 12)), .int (nI (c1 / 2 / 12)), .int (nI (c1 % 2))]) (rest := []) (wc := [(o, .inr (3, [.ref kA, .int 1, .int 1, .int 0, .int 1, .int 0, .ref iA, .int 0, .int 0, .int 0, .ref tA, .ref tr, .ref lA, .int (nI n)])), (tA, .inl (cT, 120, .inl (fun _ => 0))), (tr, .inr (0, [.int (w 0), .int (w 1), .int (w 2), .int (w 3), .int (w 4), .int (w 5), .int (w 6), .int (w 7), .int (w 8), .int (w 9), .int (w 10), .int (w 11), .int (w 12), .int (w 13), .int (w 14), .int (w 15), .ref su, .ref sc])), (k0, .inr (1, [.int 0, .int 1, .int 1, .int 2, .int 1, .int 0, .int 1, .int 0]))]) (wr := []) ⟨hx, hb, hml, hown, hts⟩ (c_letDown l D _ o kA iA tA tr lA n k0 su sc w cT _ _ hx1 hy1 _ ht) (cwV 4 hts gX3_bestPlace_X3_letDown rfl rfl rfl (by decide +kernel) ⟨by rw [hRf]; exact Nat.le_of_ble_eq_true rfl, by rw [hRl]; exact Nat.le_of_ble_eq_true rfl⟩) hK hP hD hS hA [0, 1, 2, 3] [] rfl (by decide) rfl (by decide) (by decide) [0] rfl (ci := 3) (q0 := 0) rfl rfl rfl hl.1 rfl (Nat.le_of_ble_eq_true rfl) dX3_bestPlace_60 ⟨by omega, by omega⟩ (fun u_67 H locs hwu_67 hnu_67 hzu_67 hK hP hD hS => ?_)
      have hK : va_K D vwCl [(cT, .int)] s := hK
      have hP : va_P D vwCl ([(o, .inr (3, [.ref kA, .int 1, .int 1, .int 0, .int 1, .int 0, .ref iA, .int 0, .int 0, .int 0, .ref tA, .ref tr, .ref lA, .int (nI n)])), (tA, .inl (cT, 120, .inl (fun _ => 0))), (tr, .inr (0, [.int 0, .int 1, .int 0, .int (nI (c1 % 2)), .int 1, .int 1, .int (nI (c1 / 2 % 12)), .int (nI (c1 / 2 / 12)), .int 0, .int 2, .int 1, .int (w 11), .int (w 12), .int (w 13), .int (w 14), .int (w 15), .ref su, .ref sc])), (k0, .inr (1, [.int 0, .int 1, .int 1, .int 2, .int 1, .int 0, .int 1, .int 0]))]) H := hP
      have hD : va_D A ([(o, .inr (3, [.ref kA, .int 1, .int 1, .int 0, .int 1, .int 0, .ref iA, .int 0, .int 0, .int 0, .ref tA, .ref tr, .ref lA, .int (nI n)])), (tA, .inl (cT, 120, .inl (fun _ => 0))), (tr, .inr (0, [.int 0, .int 1, .int 0, .int (nI (c1 % 2)), .int 1, .int 1, .int (nI (c1 / 2 % 12)), .int (nI (c1 / 2 / 12)), .int 0, .int 2, .int 1, .int (w 11), .int (w 12), .int (w 13), .int (w 14), .int (w 15), .ref su, .ref sc])), (k0, .inr (1, [.int 0, .int 1, .int 1, .int 2, .int 1, .int 0, .int 1, .int 0]))]) := hD
      obtain ⟨w, hwe⟩ : ∃ w9 : Nat → Int32, w9 = (fun i => [0, 1, 0, nI (c1 % 2), 1, 1, nI (c1 / 2 % 12), nI (c1 / 2 / 12), 0, 2, 1, w 11, w 12, w 13, w 14, w 15].getD i 0) := ⟨_, rfl⟩
      have hP : va_P D vwCl ([(o, .inr (3, [.ref kA, .int 1, .int 1, .int 0, .int 1, .int 0, .ref iA, .int 0, .int 0, .int 0, .ref tA, .ref tr, .ref lA, .int (nI n)])), (tA, .inl (cT, 120, .inl (fun _ => 0))), (tr, .inr (0, [.int (w 0), .int (w 1), .int (w 2), .int (w 3), .int (w 4), .int (w 5), .int (w 6), .int (w 7), .int (w 8), .int (w 9), .int (w 10), .int (w 11), .int (w 12), .int (w 13), .int (w 14), .int (w 15), .ref su, .ref sc])), (k0, .inr (1, [.int 0, .int 1, .int 1, .int 2, .int 1, .int 0, .int 1, .int 0]))]) H := by rw [hwe]; exact hP
      have hD : va_D A ([(o, .inr (3, [.ref kA, .int 1, .int 1, .int 0, .int 1, .int 0, .ref iA, .int 0, .int 0, .int 0, .ref tA, .ref tr, .ref lA, .int (nI n)])), (tA, .inl (cT, 120, .inl (fun _ => 0))), (tr, .inr (0, [.int (w 0), .int (w 1), .int (w 2), .int (w 3), .int (w 4), .int (w 5), .int (w 6), .int (w 7), .int (w 8), .int (w 9), .int (w 10), .int (w 11), .int (w 12), .int (w 13), .int (w 14), .int (w 15), .ref su, .ref sc])), (k0, .inr (1, [.int 0, .int 1, .int 1, .int 2, .int 1, .int 0, .int 1, .int 0]))]) := by rw [hwe]; exact hD
      have h9 : w 9 = 2 := by rw [hwe]; rfl
      refine lv_iload_n hx hb dX3_bestPlace_63 rfl (lv_at hl 3 rfl) ?_
      refine lv_iconst (v := (-1)) hx hb dX3_bestPlace_64 (by decide) ?_
      refine lv_icmp_eq (tgt := 102) hx hb dX3_bestPlace_65 (by decide) (fun c_68 => ?_) (fun c_68 => absurd (rfl) c_68)
      refine lv_iconst (v := 1) hx hb dX3_bestPlace_102 (by decide) ?_
      refine lv_goto (tgt := 107) hx hb dX3_bestPlace_103 (by decide) ?_
      refine lv_istore (lv' := [(6, .int 1), (5, .int (nI c1)), (4, .int 0), (3, .int 0), (2, .int (-1)), (1, .ref k0), (0, .ref o)]) hx hb dX3_bestPlace_107 hl (by decide) rfl (fun ls hl => ?_)
      refine lv_iload hx hb dX3_bestPlace_109 (lv_at hl 0 rfl) ?_
      refine lv_if_eq (tgt := 148) hx hb dX3_bestPlace_111 (by decide) (fun c_69 => absurd c_69 (by decide)) (fun c_69 => ?_)
      refine lv_aload_n hx hb dX3_bestPlace_114 rfl (lv_at hl 6 rfl) ?_
      refine lv_aload_n hx hb dX3_bestPlace_115 rfl (lv_at hl 5 rfl) ?_
      refine zrdV (As := [.ref k0]) (rest := []) (wc := [(o, .inr (3, [.ref kA, .int 1, .int 1, .int 0, .int 1, .int 0, .ref iA, .int 0, .int 0, .int 0, .ref tA, .ref tr, .ref lA, .int (nI n)])), (tr, .inr (0, [.int (w 0), .int (w 1), .int (w 2), .int (w 3), .int (w 4), .int (w 5), .int (w 6), .int (w 7), .int (w 8), .int (w 9), .int (w 10), .int (w 11), .int (w 12), .int (w 13), .int (w 14), .int (w 15), .ref su, .ref sc]))]) ⟨hx, hb, hml, hown, hts⟩ (c_brokenRule l D _ o kA iA tA tr lA n k0 su sc w h9) (cwV 1 hts gX3_bestPlace_X3_brokenRule rfl rfl rfl (by decide +kernel) ⟨by rw [hRf]; exact Nat.le_of_ble_eq_true rfl, by rw [hRl]; exact Nat.le_of_ble_eq_true rfl⟩) hK hP hD [0, 2] rfl (by decide) [] rfl (ci := 3) (q0 := 0) rfl rfl rfl hl.1 rfl (Nat.le_of_ble_eq_true rfl) dX3_bestPlace_116 ⟨by omega, by omega⟩ (fun r_70 hr_70 => ?_)
      refine lv_topi (fun v_71 ev_71 => ?_)
      obtain rfl : v_71 = 2 := ev_71.trans hr_70
      refine lv_if_ne (tgt := 148) hx hb dX3_bestPlace_119 (by decide) (fun c_72 => ?_) (fun c_72 => absurd c_72 (by decide))
      refine lv_iinc (v := (nI (c1 + 1))) (lv' := [(5, .int (nI (c1 + 1))), (6, .int 1), (4, .int 0), (3, .int 0), (2, .int (-1)), (1, .ref k0), (0, .ref o)]) hx hb dX3_bestPlace_148 hl (k := 1) rfl (nI_1 c1) (by decide) rfl (fun ls hl => ?_)
      refine lv_goto (tgt := 10) hx hb dX3_bestPlace_151 (by decide) ?_
      have hl := lv_sub hl (l' := [(5, .int (nI (c1 + 1))), (4, .int 0), (3, .int 0), (2, .int (-1)), (1, .ref k0), (0, .ref o)]) [0, 2, 3, 4, 5, 6] rfl
      exact ih (c1 + 1) (by omega) w H locs ls hP hD hS hl
  exact loop 240 0 rfl w s.heap [] ls hP hD hS hl
set_option maxHeartbeats 4000000 in
set_option maxRecDepth 100000 in
theorem c_putAtBest (l : Launch) (D : zG) (sz : Nat) (o kA iA tA tr lA n : Nat) (k0 su sc : Nat) (w : Nat → Int32) (cT : ClassId) : Met l yX3_putAtBest wsX3_putAtBest ({ frames := 3, cells := 0, slots := 0, locals := 78 }) (zPc D [(cT, .int)] ([(o, .inr (3, [.ref kA, .int 1, .int 1, .int 0, .int 1, .int 0, .ref iA, .int 0, .int 0, .int 0, .ref tA, .ref tr, .ref lA, .int (nI n)])), (tA, .inl (cT, 120, .inl (fun _ => 0))), (tr, .inr (0, [.int (w 0), .int (w 1), .int (w 2), .int (w 3), .int (w 4), .int (w 5), .int (w 6), .int (w 7), .int (w 8), .int (w 9), .int (w 10), .int (w 11), .int (w 12), .int (w 13), .int (w 14), .int (w 15), .ref su, .ref sc])), (k0, .inr (1, [.int 0, .int 1, .int 1, .int 2, .int 1, .int 0, .int 1, .int 0]))]) sz [.ref o, .ref k0]) (va_Qi (fun (r : Int32) (u : Nat → Int32) => r = 0) (zB D (va_A ([(o, .inr (3, [.ref kA, .int 1, .int 1, .int 0, .int 1, .int 0, .ref iA, .int 0, .int 0, .int 0, .ref tA, .ref tr, .ref lA, .int (nI n)])), (tA, .inl (cT, 120, .inl (fun _ => 0))), (tr, .inr (0, [.int (w 0), .int (w 1), .int (w 2), .int (w 3), .int (w 4), .int (w 5), .int (w 6), .int (w 7), .int (w 8), .int (w 9), .int (w 10), .int (w 11), .int (w 12), .int (w 13), .int (w 14), .int (w 15), .ref su, .ref sc])), (k0, .inr (1, [.int 0, .int 1, .int 1, .int 2, .int 1, .int 0, .int 1, .int 0]))]) sz) (fun _ => []) 0 (fun u => [(o, .inr (3, [.ref kA, .int 1, .int 1, .int 0, .int 1, .int 0, .ref iA, .int 0, .int 0, .int 0, .ref tA, .ref tr, .ref lA, .int (nI n)])), (tA, .inl (cT, 120, .inl (fun _ => 0))), (tr, .inr (0, [.int (u 0), .int (u 1), .int (u 2), .int (u 3), .int (u 4), .int (u 5), .int (u 6), .int (u 7), .int (u 8), .int (u 9), .int (u 10), .int (u 11), .int (u 12), .int (u 13), .int (u 14), .int (u 15), .ref su, .ref sc])), (k0, .inr (1, [.int 0, .int 1, .int 1, .int 2, .int 1, .int 0, .int 1, .int 0]))])) (va_A ([(o, .inr (3, [.ref kA, .int 1, .int 1, .int 0, .int 1, .int 0, .ref iA, .int 0, .int 0, .int 0, .ref tA, .ref tr, .ref lA, .int (nI n)])), (tA, .inl (cT, 120, .inl (fun _ => 0))), (tr, .inr (0, [.int (w 0), .int (w 1), .int (w 2), .int (w 3), .int (w 4), .int (w 5), .int (w 6), .int (w 7), .int (w 8), .int (w 9), .int (w 10), .int (w 11), .int (w 12), .int (w 13), .int (w 14), .int (w 15), .ref su, .ref sc])), (k0, .inr (1, [.int 0, .int 1, .int 1, .int 2, .int 1, .int 0, .int 1, .int 0]))]) sz)) 0 0 (va_A ([(o, .inr (3, [.ref kA, .int 1, .int 1, .int 0, .int 1, .int 0, .ref iA, .int 0, .int 0, .int 0, .ref tA, .ref tr, .ref lA, .int (nI n)])), (tA, .inl (cT, 120, .inl (fun _ => 0))), (tr, .inr (0, [.int (w 0), .int (w 1), .int (w 2), .int (w 3), .int (w 4), .int (w 5), .int (w 6), .int (w 7), .int (w 8), .int (w 9), .int (w 10), .int (w 11), .int (w 12), .int (w 13), .int (w 14), .int (w 15), .ref su, .ref sc])), (k0, .inr (1, [.int 0, .int 1, .int 1, .int 2, .int 1, .int 0, .int 1, .int 0]))]) sz) := by
  refine Met.ofW (cc := cX3_putAtBest) (maxL := 3) (ret := (some .boolean)) (by decide) rfl ?_
  intro p e s m args below meth c s₁ B hml hv
  obtain ⟨rfl, hsz, hP, hK, hD0⟩ := hv
  have hx := B.exec
  have hb := B.bytes
  have hr := B.returns
  have hts := atoms_spec (ws := wsX3_putAtBest) B.pre
  have hown : s.vm.findClass RX3 = some m.cls := findClass_of_methodNamed B.named
  have hlocks := B.notSynchronized
  subst hsz
  have hD := hD0.self (sz := s.heap.size)
  generalize hAe : va_A ([(o, .inr (3, [.ref kA, .int 1, .int 1, .int 0, .int 1, .int 0, .ref iA, .int 0, .int 0, .int 0, .ref tA, .ref tr, .ref lA, .int (nI n)])), (tA, .inl (cT, 120, .inl (fun _ => 0))), (tr, .inr (0, [.int (w 0), .int (w 1), .int (w 2), .int (w 3), .int (w 4), .int (w 5), .int (w 6), .int (w 7), .int (w 8), .int (w 9), .int (w 10), .int (w 11), .int (w 12), .int (w 13), .int (w 14), .int (w 15), .ref su, .ref sc])), (k0, .inr (1, [.int 0, .int 1, .int 1, .int 2, .int 1, .int 0, .int 1, .int 0]))]) s.heap.size = A at hD ⊢
  have hA : ∀ q : Nat, s.heap.size ≤ q → A q := fun q h => by rw [← hAe]; exact Or.inr h
  have hS : va_S A s.heap s.heap [] := va_S.rf
  have hl := lv_entry ([.ref o, .ref k0]) (n := 3) (Nat.le_of_ble_eq_true rfl)
  rw [lg_entry_eq]
  generalize (lg_sl ([.ref o, .ref k0]) ++ List.replicate (3 - (lg_sl ([.ref o, .ref k0])).length) Slot.unset).toArray = ls at hl ⊢
  have hl : lv_has ls 3 [(0, .ref o), (1, .ref k0)] := hl
  have hP : va_P D vwCl ([(o, .inr (3, [.ref kA, .int 1, .int 1, .int 0, .int 1, .int 0, .ref iA, .int 0, .int 0, .int 0, .ref tA, .ref tr, .ref lA, .int (nI n)])), (tA, .inl (cT, 120, .inl (fun _ => 0))), (tr, .inr (0, [.int (w 0), .int (w 1), .int (w 2), .int (w 3), .int (w 4), .int (w 5), .int (w 6), .int (w 7), .int (w 8), .int (w 9), .int (w 10), .int (w 11), .int (w 12), .int (w 13), .int (w 14), .int (w 15), .ref su, .ref sc])), (k0, .inr (1, [.int 0, .int 1, .int 1, .int 2, .int 1, .int 0, .int 1, .int 0]))]) s.heap := hP
  generalize hRe : (headSpec _ _).room = R
  have hRf : R.frames = 3 := by rw [← hRe]; rfl
  have hRc : R.cells = 0 := by rw [← hRe]; rfl
  have hRs : R.slots = 0 := by rw [← hRe]; rfl
  have hRl : R.locals = 78 := by rw [← hRe]; rfl
  clear hRe
  refine lv_aload_n hx hb dX3_putAtBest_0 rfl (lv_at hl 0 rfl) ?_
  refine va_get (D := D) (ci := 3) (v := .int 0) (C := RX3) (T := TX3) (N := 14) hx hb hts (fun _ h9 => List.mem_cons_of_mem _ (List.mem_append_left _ (List.mem_append_left _ (List.mem_append_right _ h9)))) hown hK hP 0 rfl rfl 7 (by decide) (hts (.fieldLink RX3 38 "PalletStack" "cameCount" "I") (List.mem_of_getElem? (i := 1) (by rfl))) (fun _ h9 => h9) rfl dX3_putAtBest_1 ?_
  refine lv_bipush (v := 60) hx hb dX3_putAtBest_4 (by decide) ?_
  refine lv_icmp_lt (tgt := 11) hx hb dX3_putAtBest_6 (by decide) (fun c_73 => ?_) (fun c_73 => absurd (by decide) c_73)
  refine lv_aload_n hx hb dX3_putAtBest_11 rfl (lv_at hl 0 rfl) ?_
  refine lv_aload_n hx hb dX3_putAtBest_12 rfl (lv_at hl 1 rfl) ?_
  refine zcalliV (As := [.ref k0]) (rest := []) (wc := [(o, .inr (3, [.ref kA, .int 1, .int 1, .int 0, .int 1, .int 0, .ref iA, .int 0, .int 0, .int 0, .ref tA, .ref tr, .ref lA, .int (nI n)])), (tA, .inl (cT, 120, .inl (fun _ => 0))), (tr, .inr (0, [.int (w 0), .int (w 1), .int (w 2), .int (w 3), .int (w 4), .int (w 5), .int (w 6), .int (w 7), .int (w 8), .int (w 9), .int (w 10), .int (w 11), .int (w 12), .int (w 13), .int (w 14), .int (w 15), .ref su, .ref sc])), (k0, .inr (1, [.int 0, .int 1, .int 1, .int 2, .int 1, .int 0, .int 1, .int 0]))]) (wr := []) ⟨hx, hb, hml, hown, hts⟩ (c_bestPlace l D _ o kA iA tA tr lA n k0 su sc w cT) (cwV 1 hts gX3_putAtBest_X3_bestPlace rfl rfl rfl (by decide +kernel) ⟨by rw [hRf]; exact Nat.le_of_ble_eq_true rfl, by rw [hRl]; exact Nat.le_of_ble_eq_true rfl⟩) hK hP hD hS hA [0, 1, 2, 3] [] rfl (by decide) rfl (by decide) (by decide) [0] rfl (ci := 3) (q0 := 0) rfl rfl rfl hl.1 rfl (Nat.le_of_ble_eq_true rfl) dX3_putAtBest_13 ⟨by omega, by omega⟩ (fun r_74 u_75 H locs hwu_75 hnu_75 hzu_75 hK hP hD hS => ?_)
  have hK : va_K D vwCl [(cT, .int)] s := hK
  have hP : va_P D vwCl ([(o, .inr (3, [.ref kA, .int 1, .int 1, .int 0, .int 1, .int 0, .ref iA, .int 0, .int 0, .int 0, .ref tA, .ref tr, .ref lA, .int (nI n)])), (tA, .inl (cT, 120, .inl (fun _ => 0))), (tr, .inr (0, [.int (u_75 0), .int (u_75 1), .int (u_75 2), .int (u_75 3), .int (u_75 4), .int (u_75 5), .int (u_75 6), .int (u_75 7), .int (u_75 8), .int (u_75 9), .int (u_75 10), .int (u_75 11), .int (u_75 12), .int (u_75 13), .int (u_75 14), .int (u_75 15), .ref su, .ref sc])), (k0, .inr (1, [.int 0, .int 1, .int 1, .int 2, .int 1, .int 0, .int 1, .int 0]))]) H := hP
  have hD : va_D A ([(o, .inr (3, [.ref kA, .int 1, .int 1, .int 0, .int 1, .int 0, .ref iA, .int 0, .int 0, .int 0, .ref tA, .ref tr, .ref lA, .int (nI n)])), (tA, .inl (cT, 120, .inl (fun _ => 0))), (tr, .inr (0, [.int (u_75 0), .int (u_75 1), .int (u_75 2), .int (u_75 3), .int (u_75 4), .int (u_75 5), .int (u_75 6), .int (u_75 7), .int (u_75 8), .int (u_75 9), .int (u_75 10), .int (u_75 11), .int (u_75 12), .int (u_75 13), .int (u_75 14), .int (u_75 15), .ref su, .ref sc])), (k0, .inr (1, [.int 0, .int 1, .int 1, .int 2, .int 1, .int 0, .int 1, .int 0]))]) := hD
  refine lv_topi (fun v_76 ev_76 => ?_)
  obtain rfl : v_76 = (-1) := ev_76.trans hwu_75
  refine lv_istore_n (lv' := [(2, .int (-1)), (0, .ref o), (1, .ref k0)]) hx hb dX3_putAtBest_16 rfl hl (by decide) rfl (fun ls hl => ?_)
  refine lv_iload_n hx hb dX3_putAtBest_17 rfl (lv_at hl 0 rfl) ?_
  refine lv_iconst (v := (-1)) hx hb dX3_putAtBest_18 (by decide) ?_
  refine lv_icmp_ne (tgt := 24) hx hb dX3_putAtBest_19 (by decide) (fun c_77 => absurd (rfl) c_77) (fun c_77 => ?_)
  refine lv_iconst (v := 0) hx hb dX3_putAtBest_22 (by decide) ?_
  exact W.zret (ty := .boolean) (v := 0) hx hb hr rfl (fun t ht hW => ⟨⟨0, u_75, rfl, rfl, ⟨Nat.zero_le _, by rw [ht]; exact hP, va_K.moved hW.alike (hK.sub (tys' := []) [] rfl), hD⟩⟩, hS.F ht⟩) hS.2.2 dX3_putAtBest_23
set_option maxHeartbeats 4000000 in
set_option maxRecDepth 100000 in
theorem c_comesBefore (l : Launch) (D : zG) (sz : Nat) (k0 : Nat) : Met l yX1_comesBefore wsX1_comesBefore ({ frames := 0, cells := 0, slots := 0, locals := 0 }) (zPc D [] ([(k0, .inr (1, [.int 0, .int 1, .int 1, .int 2, .int 1, .int 0, .int 1, .int 0]))]) sz [.ref k0, .ref k0]) (vp_Si (fun r => r = 0)) 0 0 (fun _ => False) := by
  refine Met.ofW (cc := cX1_comesBefore) (maxL := 2) (ret := (some .boolean)) (by decide) rfl ?_
  intro p e s m args below meth c s₁ B hml hv
  obtain ⟨rfl, hsz, hP, hK, hD0⟩ := hv
  have hx := B.exec
  have hb := B.bytes
  have hr := B.returns
  have hts := atoms_spec (ws := wsX1_comesBefore) B.pre
  have hown : s.vm.findClass RX1 = some m.cls := findClass_of_methodNamed B.named
  have hlocks := B.notSynchronized
  subst hsz
  have hD := hD0
  generalize hAe : (fun _ : Nat => True) = A at hD
  have hl := lv_entry ([.ref k0, .ref k0]) (n := 2) (Nat.le_of_ble_eq_true rfl)
  rw [lg_entry_eq]
  generalize (lg_sl ([.ref k0, .ref k0]) ++ List.replicate (2 - (lg_sl ([.ref k0, .ref k0])).length) Slot.unset).toArray = ls at hl ⊢
  have hl : lv_has ls 2 [(0, .ref k0), (1, .ref k0)] := hl
  have hP : va_P D vwCl ([(k0, .inr (1, [.int 0, .int 1, .int 1, .int 2, .int 1, .int 0, .int 1, .int 0]))]) s.heap := hP
  generalize hRe : (headSpec _ _).room = R
  have hRf : R.frames = 0 := by rw [← hRe]; rfl
  have hRc : R.cells = 0 := by rw [← hRe]; rfl
  have hRs : R.slots = 0 := by rw [← hRe]; rfl
  have hRl : R.locals = 0 := by rw [← hRe]; rfl
  clear hRe
  refine lv_aload_n hx hb dX1_comesBefore_0 rfl (lv_at hl 0 rfl) ?_
  refine va_get (D := D) (ci := 1) (v := .int 0) (C := RX1) (T := TX1) (N := 8) hx hb hts (fun _ h9 => List.mem_cons_of_mem _ (List.mem_append_right _ h9)) hown hK hP 0 rfl rfl 7 (by decide) (hts (.fieldLink RX1 32 "PalletStack$Kind" "needsDeck" "Z") (List.mem_of_getElem? (i := 1) (by rfl))) (fun _ h9 => h9) rfl dX1_comesBefore_1 ?_
  refine lv_aload_n hx hb dX1_comesBefore_4 rfl (lv_at hl 1 rfl) ?_
  refine va_get (D := D) (ci := 1) (v := .int 0) (C := RX1) (T := TX1) (N := 8) hx hb hts (fun _ h9 => List.mem_cons_of_mem _ (List.mem_append_right _ h9)) hown hK hP 0 rfl rfl 7 (by decide) (hts (.fieldLink RX1 32 "PalletStack$Kind" "needsDeck" "Z") (List.mem_of_getElem? (i := 1) (by rfl))) (fun _ h9 => h9) rfl dX1_comesBefore_5 ?_
  refine lv_icmp_eq (tgt := 16) hx hb dX1_comesBefore_8 (by decide) (fun c_78 => ?_) (fun c_78 => absurd (rfl) c_78)
  refine lv_aload_n hx hb dX1_comesBefore_16 rfl (lv_at hl 0 rfl) ?_
  refine va_get (D := D) (ci := 1) (v := .int 0) (C := RX1) (T := TX1) (N := 8) hx hb hts (fun _ h9 => List.mem_cons_of_mem _ (List.mem_append_right _ h9)) hown hK hP 0 rfl rfl 5 (by decide) (hts (.fieldLink RX1 25 "PalletStack$Kind" "strength" "I") (List.mem_of_getElem? (i := 2) (by rfl))) (fun _ h9 => h9) rfl dX1_comesBefore_17 ?_
  refine lv_aload_n hx hb dX1_comesBefore_20 rfl (lv_at hl 1 rfl) ?_
  refine va_get (D := D) (ci := 1) (v := .int 0) (C := RX1) (T := TX1) (N := 8) hx hb hts (fun _ h9 => List.mem_cons_of_mem _ (List.mem_append_right _ h9)) hown hK hP 0 rfl rfl 5 (by decide) (hts (.fieldLink RX1 25 "PalletStack$Kind" "strength" "I") (List.mem_of_getElem? (i := 2) (by rfl))) (fun _ h9 => h9) rfl dX1_comesBefore_21 ?_
  refine lv_icmp_eq (tgt := 44) hx hb dX1_comesBefore_24 (by decide) (fun c_79 => ?_) (fun c_79 => absurd (rfl) c_79)
  refine lv_aload_n hx hb dX1_comesBefore_44 rfl (lv_at hl 0 rfl) ?_
  refine va_get (D := D) (ci := 1) (v := .int 1) (C := RX1) (T := TX1) (N := 8) hx hb hts (fun _ h9 => List.mem_cons_of_mem _ (List.mem_append_right _ h9)) hown hK hP 0 rfl rfl 4 (by decide) (hts (.fieldLink RX1 22 "PalletStack$Kind" "weight" "I") (List.mem_of_getElem? (i := 3) (by rfl))) (fun _ h9 => h9) rfl dX1_comesBefore_45 ?_
  refine lv_aload_n hx hb dX1_comesBefore_48 rfl (lv_at hl 1 rfl) ?_
  refine va_get (D := D) (ci := 1) (v := .int 1) (C := RX1) (T := TX1) (N := 8) hx hb hts (fun _ h9 => List.mem_cons_of_mem _ (List.mem_append_right _ h9)) hown hK hP 0 rfl rfl 4 (by decide) (hts (.fieldLink RX1 22 "PalletStack$Kind" "weight" "I") (List.mem_of_getElem? (i := 3) (by rfl))) (fun _ h9 => h9) rfl dX1_comesBefore_49 ?_
  refine lv_icmp_le (tgt := 59) hx hb dX1_comesBefore_52 (by decide) (fun c_80 => ?_) (fun c_80 => absurd (by decide) c_80)
  refine lv_iconst (v := 0) hx hb dX1_comesBefore_59 (by decide) ?_
  exact W.zret (ty := .boolean) (v := 0) hx hb hr rfl (fun t ht hW => ⟨0, rfl, rfl, ht⟩) (fun _ h => by cases h) dX1_comesBefore_60
set_option maxHeartbeats 4000000 in
set_option maxRecDepth 100000 in
theorem c_lineOf (l : Launch) (D : zG) (sz : Nat) (o kA iA tA tr lA n : Nat) (cL : ClassId) (f : Nat → Option Nat) (i q : Nat) (hi : i < n) (hn : n ≤ 20) (hf : f i = some q) : Met l yX3_lineOf wsX3_lineOf ({ frames := 1, cells := 0, slots := 0, locals := 22 }) (zPc D [(cL, .object RX2)] ([(o, .inr (3, [.ref kA, .int 1, .int 1, .int 0, .int 1, .int 0, .ref iA, .int 0, .int 0, .int 0, .ref tA, .ref tr, .ref lA, .int (nI n)])), (lA, .inl (cL, 20, .inr (.inr (.inr (.inr (f))))))]) sz [.ref o, .int (nI i)]) (va_Sq (fun r => r = some q)) 0 0 (fun _ => False) := by
  refine Met.ofW (cc := cX3_lineOf) (maxL := 2) (ret := (some (.object "PalletStack$Line"))) (by decide) rfl ?_
  intro p e s m args below meth c s₁ B hml hv
  obtain ⟨rfl, hsz, hP, hK, hD0⟩ := hv
  have hx := B.exec
  have hb := B.bytes
  have hr := B.returns
  have hts := atoms_spec (ws := wsX3_lineOf) B.pre
  have hown : s.vm.findClass RX3 = some m.cls := findClass_of_methodNamed B.named
  have hlocks := B.notSynchronized
  subst hsz
  have hD := hD0
  generalize hAe : (fun _ : Nat => True) = A at hD
  have hl := lv_entry ([.ref o, .int (nI i)]) (n := 2) (Nat.le_of_ble_eq_true rfl)
  rw [lg_entry_eq]
  generalize (lg_sl ([.ref o, .int (nI i)]) ++ List.replicate (2 - (lg_sl ([.ref o, .int (nI i)])).length) Slot.unset).toArray = ls at hl ⊢
  have hl : lv_has ls 2 [(0, .ref o), (1, .int (nI i))] := hl
  have hP : va_P D vwCl ([(o, .inr (3, [.ref kA, .int 1, .int 1, .int 0, .int 1, .int 0, .ref iA, .int 0, .int 0, .int 0, .ref tA, .ref tr, .ref lA, .int (nI n)])), (lA, .inl (cL, 20, .inr (.inr (.inr (.inr (f))))))]) s.heap := hP
  generalize hRe : (headSpec _ _).room = R
  have hRf : R.frames = 1 := by rw [← hRe]; rfl
  have hRc : R.cells = 0 := by rw [← hRe]; rfl
  have hRs : R.slots = 0 := by rw [← hRe]; rfl
  have hRl : R.locals = 22 := by rw [← hRe]; rfl
  clear hRe
  refine lv_iload_n hx hb dX3_lineOf_0 rfl (lv_at hl 1 rfl) ?_
  refine lv_iconst (v := 0) hx hb dX3_lineOf_1 (by decide) ?_
  refine lv_bipush (v := 19) hx hb dX3_lineOf_2 (by decide) ?_
  refine zrdS (As := [.int (nI i), .int 0, .int 19]) (rest := []) (wc := []) ⟨hx, hb, hml, hown, hts⟩ (c_isWithin l D _ (nI i) 0 19) (va_cwS 3 hts gX3_lineOf_X3_isWithin rfl rfl rfl (by decide +kernel) ⟨by rw [hRf]; exact Nat.le_of_ble_eq_true rfl, by rw [hRl]; exact Nat.le_of_ble_eq_true rfl⟩) hK hP hD [] rfl (by decide) [] rfl rfl hl.1 rfl (Nat.le_of_ble_eq_true rfl) dX3_lineOf_4 ⟨by omega, by omega⟩ (fun r_81 hr_81 => ?_)
  refine lv_topi (fun v_82 ev_82 => ?_)
  obtain rfl : v_82 = 1 := ev_82.trans (hr_81.trans (if_pos ⟨nI_pos' (by omega), (nI_leI (b := 19) (by omega) (by decide)).mpr (by omega)⟩))
  refine lv_if_eq (tgt := 27) hx hb dX3_lineOf_7 (by decide) (fun c_83 => absurd c_83 (by decide)) (fun c_83 => ?_)
  refine lv_iload_n hx hb dX3_lineOf_10 rfl (lv_at hl 1 rfl) ?_
  refine lv_aload_n hx hb dX3_lineOf_11 rfl (lv_at hl 0 rfl) ?_
  refine va_get (D := D) (ci := 3) (v := .int (nI n)) (C := RX3) (T := TX3) (N := 14) hx hb hts (fun _ h9 => List.mem_cons_of_mem _ (List.mem_append_right _ h9)) hown hK hP 0 rfl rfl 13 (by decide) (hts (.fieldLink RX3 62 "PalletStack" "lineCount" "I") (List.mem_of_getElem? (i := 1) (by rfl))) (fun _ h9 => h9) rfl dX3_lineOf_12 ?_
  refine lv_icmp_ge (tgt := 27) hx hb dX3_lineOf_15 (by decide) (fun c_84 => absurd c_84 (nI_ge hi (by omega))) (fun c_84 => ?_)
  refine lv_aload_n hx hb dX3_lineOf_18 rfl (lv_at hl 0 rfl) ?_
  refine va_get (D := D) (ci := 3) (v := .ref lA) (C := RX3) (T := TX3) (N := 14) hx hb hts (fun _ h9 => List.mem_cons_of_mem _ (List.mem_append_right _ h9)) hown hK hP 0 rfl rfl 12 (by decide) (hts (.fieldLink RX3 58 "PalletStack" "lines" "[LPalletStack$Line;") (List.mem_of_getElem? (i := 2) (by rfl))) (fun _ h9 => h9) rfl dX3_lineOf_19 ?_
  refine lv_iload_n hx hb dX3_lineOf_22 rfl (lv_at hl 1 rfl) ?_
  refine va_aldq hx hb hK hP 1 0 rfl rfl (vp_in_nI (N := 20) (by omega) (by decide)) dX3_lineOf_23 ?_
  refine W.eq (g2 := F0 m 24 ls [.ref q]) (by rw [nI_clamp (by omega), hf]; rfl) ?_
  refine lv_goto (tgt := 28) hx hb dX3_lineOf_24 (by decide) ?_
  exact W.aret (v := .ref q) hx hb hr (.inl ⟨_, rfl⟩) (.inr ⟨_, rfl⟩) (fun t ht hW => ⟨some q, rfl, rfl, ht⟩) (fun _ h => by cases h) dX3_lineOf_28
end
section
set_option maxHeartbeats 4000000 in
set_option maxRecDepth 100000 in
theorem c_nextLine (l : Launch) (D : zG) (sz : Nat) (o kA iA tA tr lA n : Nat) (k0 : Nat) (cL : ClassId) (f : Nat → Option Nat) (ad : Nat → Nat) (as : Nat → Int32) (j : Nat) (hj : j ≤ n) (hn : n ≤ 20) (hf : ∀ i, i < n → f i = some (ad i)) (has : ∀ i, i < n → as i = if i < j then 1 else 0) : Met l yX3_nextLine wsX3_nextLine ({ frames := 2, cells := 0, slots := 0, locals := 43 }) (zPc D [(cL, .object RX2)] (([(o, .inr (3, [.ref kA, .int 1, .int 1, .int 0, .int 1, .int 0, .ref iA, .int 0, .int 0, .int 0, .ref tA, .ref tr, .ref lA, .int (nI n)])), (lA, .inl (cL, 20, .inr (.inr (.inr (.inr (f)))))), (k0, .inr (1, [.int 0, .int 1, .int 1, .int 2, .int 1, .int 0, .int 1, .int 0]))] : va_W) ++ zL k0 ad as n) sz [.ref o]) (va_Sq (fun r => r = if j < n then some (ad j) else none)) 0 0 (fun _ => False) := by
  refine Met.ofW (cc := cX3_nextLine) (maxL := 4) (ret := (some (.object "PalletStack$Line"))) (by decide) rfl ?_
  intro p e s m args below meth c s₁ B hml hv
  obtain ⟨rfl, hsz, hP, hK, hD0⟩ := hv
  have hx := B.exec
  have hb := B.bytes
  have hr := B.returns
  have hts := atoms_spec (ws := wsX3_nextLine) B.pre
  have hown : s.vm.findClass RX3 = some m.cls := findClass_of_methodNamed B.named
  have hlocks := B.notSynchronized
  subst hsz
  have hD := hD0
  generalize hAe : (fun _ : Nat => True) = A at hD
  have hl := lv_entry ([.ref o]) (n := 4) (Nat.le_of_ble_eq_true rfl)
  rw [lg_entry_eq]
  generalize (lg_sl ([.ref o]) ++ List.replicate (4 - (lg_sl ([.ref o])).length) Slot.unset).toArray = ls at hl ⊢
  have hl : lv_has ls 4 [(0, .ref o)] := hl
  have hP : va_P D vwCl (([(o, .inr (3, [.ref kA, .int 1, .int 1, .int 0, .int 1, .int 0, .ref iA, .int 0, .int 0, .int 0, .ref tA, .ref tr, .ref lA, .int (nI n)])), (lA, .inl (cL, 20, .inr (.inr (.inr (.inr (f)))))), (k0, .inr (1, [.int 0, .int 1, .int 1, .int 2, .int 1, .int 0, .int 1, .int 0]))] : va_W) ++ zL k0 ad as n) s.heap := hP
  generalize hRe : (headSpec _ _).room = R
  have hRf : R.frames = 2 := by rw [← hRe]; rfl
  have hRc : R.cells = 0 := by rw [← hRe]; rfl
  have hRs : R.slots = 0 := by rw [← hRe]; rfl
  have hRl : R.locals = 43 := by rw [← hRe]; rfl
  clear hRe
  refine lv_null hx hb dX3_nextLine_0 ?_
  refine lv_astore_nN (lv' := [(1, .null), (0, .ref o)]) hx hb dX3_nextLine_1 rfl hl (by decide) rfl (fun ls hl => ?_)
  refine lv_iconst (v := 0) hx hb dX3_nextLine_2 (by decide) ?_
  refine lv_istore_n (lv' := [(2, .int 0), (1, .null), (0, .ref o)]) hx hb dX3_nextLine_3 rfl hl (by decide) rfl (fun ls hl => ?_)
  generalize hQe : MQ _ _ _ _ _ _ _ = Q
  have hl := lv_sub hl (l' := [(2, .int 0), (1, .null), (0, .ref o)]) [0, 1, 2] rfl
  have loopB : ∀ (k i : Nat), i + k = n → j < i → ∀ (ls : Array Slot), lv_has ls 4 [(2, .int (nI i)), (1, .ref (ad j)), (0, .ref o)] → W p l e R s m ([.ref o] : List Value).toArray below meth c s.heap [] 0 0 Q (F0 m 4 ls []) := by
    intro k
    induction k with
    | zero =>
      intro i hi hji ls hl
      obtain rfl : n = i := by omega
      refine lv_iload_n hx hb dX3_nextLine_4 rfl (lv_at hl 0 rfl) ?_
      refine lv_aload_n hx hb dX3_nextLine_5 rfl (lv_at hl 2 rfl) ?_
      refine va_get (D := D) (ci := 3) (v := .int (nI n)) (C := RX3) (T := TX3) (N := 14) hx hb hts (fun _ h9 => List.mem_cons_of_mem _ (List.mem_append_left _ (List.mem_append_left _ (List.mem_append_right _ h9)))) hown hK hP 0 rfl rfl 13 (by decide) (hts (.fieldLink RX3 62 "PalletStack" "lineCount" "I") (List.mem_of_getElem? (i := 1) (by rfl))) (fun _ h9 => h9) rfl dX3_nextLine_6 ?_
      refine lv_icmp_ge (tgt := 62) hx hb dX3_nextLine_9 (by decide) (fun c_85 => ?_) (fun c_85 => absurd (Int32.le_refl _) c_85)
      refine lv_aload_n hx hb dX3_nextLine_62 rfl (lv_at hl 1 rfl) ?_
      rw [← hQe]
      exact W.aret (v := .ref (ad j)) hx hb hr (.inl ⟨_, rfl⟩) (.inr ⟨_, rfl⟩) (fun t ht hW => ⟨some (ad j), rfl, (if_pos hji).symm, ht⟩) (fun _ h => by cases h) dX3_nextLine_63
    | succ k ih =>
      intro i hi hji ls hl
      refine lv_iload_n hx hb dX3_nextLine_4 rfl (lv_at hl 0 rfl) ?_
      refine lv_aload_n hx hb dX3_nextLine_5 rfl (lv_at hl 2 rfl) ?_
      refine va_get (D := D) (ci := 3) (v := .int (nI n)) (C := RX3) (T := TX3) (N := 14) hx hb hts (fun _ h9 => List.mem_cons_of_mem _ (List.mem_append_left _ (List.mem_append_left _ (List.mem_append_right _ h9)))) hown hK hP 0 rfl rfl 13 (by decide) (hts (.fieldLink RX3 62 "PalletStack" "lineCount" "I") (List.mem_of_getElem? (i := 1) (by rfl))) (fun _ h9 => h9) rfl dX3_nextLine_6 ?_
      refine lv_icmp_ge (tgt := 62) hx hb dX3_nextLine_9 (by decide) (fun c_86 => absurd c_86 (nI_ge (by omega) (by omega))) (fun c_86 => ?_)
      refine lv_aload_n hx hb dX3_nextLine_12 rfl (lv_at hl 2 rfl) ?_
      refine lv_iload_n hx hb dX3_nextLine_13 rfl (lv_at hl 0 rfl) ?_
      refine zrdVq (As := [.int (nI i)]) (rest := []) (wc := [(o, .inr (3, [.ref kA, .int 1, .int 1, .int 0, .int 1, .int 0, .ref iA, .int 0, .int 0, .int 0, .ref tA, .ref tr, .ref lA, .int (nI n)])), (lA, .inl (cL, 20, .inr (.inr (.inr (.inr (f))))))]) ⟨hx, hb, hml, hown, hts⟩ (c_lineOf l D _ o kA iA tA tr lA n cL f i (ad i) (by omega) hn (hf i (by omega))) (cwV 1 hts gX3_nextLine_X3_lineOf rfl rfl rfl (by decide +kernel) ⟨by rw [hRf]; exact Nat.le_of_ble_eq_true rfl, by rw [hRl]; exact Nat.le_of_ble_eq_true rfl⟩) hK hP hD [0, 1] rfl (by decide) [0] rfl (ci := 3) (q0 := 0) rfl rfl rfl hl.1 rfl (Nat.le_of_ble_eq_true rfl) dX3_nextLine_14 ⟨by omega, by omega⟩ (fun r_87 hr_87 => ?_)
      refine W.eq (g2 := F0 m 17 ls [.ref (ad i)]) (by rw [hr_87]; rfl) ?_
      refine lv_astore_n (lv' := [(3, .ref (ad i)), (2, .int (nI i)), (1, .ref (ad j)), (0, .ref o)]) hx hb dX3_nextLine_17 rfl hl (by decide) rfl (fun ls hl => ?_)
      refine lv_aload_n hx hb dX3_nextLine_18 rfl (lv_at hl 0 rfl) ?_
      refine lv_ifnull hx hb dX3_nextLine_19 ?_
      refine lv_aload_n hx hb dX3_nextLine_22 rfl (lv_at hl 0 rfl) ?_
      refine va_get (D := D) (ci := 2) (v := .int 1) (C := RX2) (T := TX2) (N := 3) hx hb hts (fun _ h9 => List.mem_cons_of_mem _ (List.mem_append_left _ (List.mem_append_right _ h9))) hown hK hP (3 + i) (zL_get (by omega) rfl) rfl 1 (by decide) (hts (.fieldLink RX3 167 "PalletStack$Line" "count" "I") (List.mem_of_getElem? (i := 2) (by rfl))) (fun _ h9 => h9) rfl dX3_nextLine_23 ?_
      refine lv_if_le (tgt := 56) hx hb dX3_nextLine_26 (by decide) (fun c_89 => absurd c_89 (by decide)) (fun c_89 => ?_)
      refine lv_aload_n hx hb dX3_nextLine_29 rfl (lv_at hl 0 rfl) ?_
      refine va_get (D := D) (ci := 2) (v := .int (as i)) (C := RX2) (T := TX2) (N := 3) hx hb hts (fun _ h9 => List.mem_cons_of_mem _ (List.mem_append_left _ (List.mem_append_right _ h9))) hown hK hP (3 + i) (zL_get (by omega) rfl) rfl 2 (by decide) (hts (.fieldLink RX3 156 "PalletStack$Line" "isAside" "Z") (List.mem_of_getElem? (i := 3) (by rfl))) (fun _ h9 => h9) rfl dX3_nextLine_30 ?_
      refine lv_if_ne (tgt := 56) hx hb dX3_nextLine_33 (by decide) (fun c_90 => absurd ((has i (by omega)).trans (if_neg (by omega))) c_90) (fun c_90 => ?_)
      refine lv_aload_n hx hb dX3_nextLine_36 rfl (lv_at hl 2 rfl) ?_
      refine lv_ifnull hx hb dX3_nextLine_37 ?_
      refine lv_aload_n hx hb dX3_nextLine_40 rfl (lv_at hl 0 rfl) ?_
      refine va_get (D := D) (ci := 2) (v := .ref k0) (C := RX2) (T := TX2) (N := 3) hx hb hts (fun _ h9 => List.mem_cons_of_mem _ (List.mem_append_left _ (List.mem_append_right _ h9))) hown hK hP (3 + i) (zL_get (by omega) rfl) rfl 0 (by decide) (hts (.fieldLink RX3 163 "PalletStack$Line" "kind" "LPalletStack$Kind;") (List.mem_of_getElem? (i := 4) (by rfl))) (fun _ h9 => h9) rfl dX3_nextLine_41 ?_
      refine lv_aload_n hx hb dX3_nextLine_44 rfl (lv_at hl 2 rfl) ?_
      refine va_get (D := D) (ci := 2) (v := .ref k0) (C := RX2) (T := TX2) (N := 3) hx hb hts (fun _ h9 => List.mem_cons_of_mem _ (List.mem_append_left _ (List.mem_append_right _ h9))) hown hK hP (3 + j) (zL_get (by omega) rfl) rfl 0 (by decide) (hts (.fieldLink RX3 163 "PalletStack$Line" "kind" "LPalletStack$Kind;") (List.mem_of_getElem? (i := 4) (by rfl))) (fun _ h9 => h9) rfl dX3_nextLine_45 ?_
      refine zrdV (As := [.ref k0]) (rest := []) (wc := [(k0, .inr (1, [.int 0, .int 1, .int 1, .int 2, .int 1, .int 0, .int 1, .int 0]))]) ⟨hx, hb, hml, hown, hts⟩ (c_comesBefore l D _ k0) (cwV 1 hts gX3_nextLine_X1_comesBefore rfl rfl rfl (by decide +kernel) ⟨by rw [hRf]; exact Nat.le_of_ble_eq_true rfl, by rw [hRl]; exact Nat.le_of_ble_eq_true rfl⟩) hK hP hD [2] rfl (by decide) [] rfl (ci := 1) (q0 := 2) rfl rfl rfl hl.1 rfl (Nat.le_of_ble_eq_true rfl) dX3_nextLine_48 ⟨by omega, by omega⟩ (fun r_92 hr_92 => ?_)
      refine lv_topi (fun v_93 ev_93 => ?_)
      obtain rfl : v_93 = 0 := ev_93.trans hr_92
      refine lv_if_eq (tgt := 56) hx hb dX3_nextLine_51 (by decide) (fun c_94 => ?_) (fun c_94 => absurd (rfl) c_94)
      refine lv_iinc (v := (nI (i + 1))) (lv' := [(2, .int (nI (i + 1))), (3, .ref (ad i)), (1, .ref (ad j)), (0, .ref o)]) hx hb dX3_nextLine_56 hl (k := 1) rfl (nI_1 i) (by decide) rfl (fun ls hl => ?_)
      refine lv_goto (tgt := 4) hx hb dX3_nextLine_59 (by decide) ?_
      have hl := lv_sub hl (l' := [(2, .int (nI (i + 1))), (1, .ref (ad j)), (0, .ref o)]) [0, 2, 3] rfl
      exact ih (i + 1) (by omega) (by omega) ls hl
  have loopA : ∀ (k i : Nat), i + k = n → i ≤ j → ∀ (ls : Array Slot), lv_has ls 4 [(2, .int (nI i)), (1, .null), (0, .ref o)] → W p l e R s m ([.ref o] : List Value).toArray below meth c s.heap [] 0 0 Q (F0 m 4 ls []) := by
    intro k
    induction k with
    | zero =>
      intro i hi hji ls hl
      obtain rfl : n = i := by omega
      refine lv_iload_n hx hb dX3_nextLine_4 rfl (lv_at hl 0 rfl) ?_
      refine lv_aload_n hx hb dX3_nextLine_5 rfl (lv_at hl 2 rfl) ?_
      refine va_get (D := D) (ci := 3) (v := .int (nI n)) (C := RX3) (T := TX3) (N := 14) hx hb hts (fun _ h9 => List.mem_cons_of_mem _ (List.mem_append_left _ (List.mem_append_left _ (List.mem_append_right _ h9)))) hown hK hP 0 rfl rfl 13 (by decide) (hts (.fieldLink RX3 62 "PalletStack" "lineCount" "I") (List.mem_of_getElem? (i := 1) (by rfl))) (fun _ h9 => h9) rfl dX3_nextLine_6 ?_
      refine lv_icmp_ge (tgt := 62) hx hb dX3_nextLine_9 (by decide) (fun c_95 => ?_) (fun c_95 => absurd (Int32.le_refl _) c_95)
      refine lv_aload_nN hx hb dX3_nextLine_62 rfl (lv_at hl 1 rfl) ?_
      rw [← hQe]
      exact W.aret (v := .null) hx hb hr (.inl ⟨_, rfl⟩) (.inl rfl) (fun t ht hW => ⟨none, rfl, (if_neg (by omega)).symm, ht⟩) (fun _ h => by cases h) dX3_nextLine_63
    | succ k ih =>
      intro i hi hji ls hl
      refine lv_iload_n hx hb dX3_nextLine_4 rfl (lv_at hl 0 rfl) ?_
      refine lv_aload_n hx hb dX3_nextLine_5 rfl (lv_at hl 2 rfl) ?_
      refine va_get (D := D) (ci := 3) (v := .int (nI n)) (C := RX3) (T := TX3) (N := 14) hx hb hts (fun _ h9 => List.mem_cons_of_mem _ (List.mem_append_left _ (List.mem_append_left _ (List.mem_append_right _ h9)))) hown hK hP 0 rfl rfl 13 (by decide) (hts (.fieldLink RX3 62 "PalletStack" "lineCount" "I") (List.mem_of_getElem? (i := 1) (by rfl))) (fun _ h9 => h9) rfl dX3_nextLine_6 ?_
      refine lv_icmp_ge (tgt := 62) hx hb dX3_nextLine_9 (by decide) (fun c_96 => absurd c_96 (nI_ge (by omega) (by omega))) (fun c_96 => ?_)
      refine lv_aload_n hx hb dX3_nextLine_12 rfl (lv_at hl 2 rfl) ?_
      refine lv_iload_n hx hb dX3_nextLine_13 rfl (lv_at hl 0 rfl) ?_
      refine zrdVq (As := [.int (nI i)]) (rest := []) (wc := [(o, .inr (3, [.ref kA, .int 1, .int 1, .int 0, .int 1, .int 0, .ref iA, .int 0, .int 0, .int 0, .ref tA, .ref tr, .ref lA, .int (nI n)])), (lA, .inl (cL, 20, .inr (.inr (.inr (.inr (f))))))]) ⟨hx, hb, hml, hown, hts⟩ (c_lineOf l D _ o kA iA tA tr lA n cL f i (ad i) (by omega) hn (hf i (by omega))) (cwV 1 hts gX3_nextLine_X3_lineOf rfl rfl rfl (by decide +kernel) ⟨by rw [hRf]; exact Nat.le_of_ble_eq_true rfl, by rw [hRl]; exact Nat.le_of_ble_eq_true rfl⟩) hK hP hD [0, 1] rfl (by decide) [0] rfl (ci := 3) (q0 := 0) rfl rfl rfl hl.1 rfl (Nat.le_of_ble_eq_true rfl) dX3_nextLine_14 ⟨by omega, by omega⟩ (fun r_97 hr_97 => ?_)
      refine W.eq (g2 := F0 m 17 ls [.ref (ad i)]) (by rw [hr_97]; rfl) ?_
      refine lv_astore_n (lv' := [(3, .ref (ad i)), (2, .int (nI i)), (1, .null), (0, .ref o)]) hx hb dX3_nextLine_17 rfl hl (by decide) rfl (fun ls hl => ?_)
      refine lv_aload_n hx hb dX3_nextLine_18 rfl (lv_at hl 0 rfl) ?_
      refine lv_ifnull hx hb dX3_nextLine_19 ?_
      refine lv_aload_n hx hb dX3_nextLine_22 rfl (lv_at hl 0 rfl) ?_
      refine va_get (D := D) (ci := 2) (v := .int 1) (C := RX2) (T := TX2) (N := 3) hx hb hts (fun _ h9 => List.mem_cons_of_mem _ (List.mem_append_left _ (List.mem_append_right _ h9))) hown hK hP (3 + i) (zL_get (by omega) rfl) rfl 1 (by decide) (hts (.fieldLink RX3 167 "PalletStack$Line" "count" "I") (List.mem_of_getElem? (i := 2) (by rfl))) (fun _ h9 => h9) rfl dX3_nextLine_23 ?_
      refine lv_if_le (tgt := 56) hx hb dX3_nextLine_26 (by decide) (fun c_99 => absurd c_99 (by decide)) (fun c_99 => ?_)
      refine lv_aload_n hx hb dX3_nextLine_29 rfl (lv_at hl 0 rfl) ?_
      refine va_get (D := D) (ci := 2) (v := .int (as i)) (C := RX2) (T := TX2) (N := 3) hx hb hts (fun _ h9 => List.mem_cons_of_mem _ (List.mem_append_left _ (List.mem_append_right _ h9))) hown hK hP (3 + i) (zL_get (by omega) rfl) rfl 2 (by decide) (hts (.fieldLink RX3 156 "PalletStack$Line" "isAside" "Z") (List.mem_of_getElem? (i := 3) (by rfl))) (fun _ h9 => h9) rfl dX3_nextLine_30 ?_
      rcases Nat.lt_or_ge i j with hlt | hge
      · have h_b := True.intro
        refine lv_if_ne (tgt := 56) hx hb dX3_nextLine_33 (by decide) (fun c_100 => ?_) (fun c_100 => absurd c_100 (by rw [has i (by omega), if_pos hlt]; decide))
        refine lv_iinc (v := (nI (i + 1))) (lv' := [(2, .int (nI (i + 1))), (3, .ref (ad i)), (1, .null), (0, .ref o)]) hx hb dX3_nextLine_56 hl (k := 1) rfl (nI_1 i) (by decide) rfl (fun ls hl => ?_)
        refine lv_goto (tgt := 4) hx hb dX3_nextLine_59 (by decide) ?_
        have hl := lv_sub hl (l' := [(2, .int (nI (i + 1))), (1, .null), (0, .ref o)]) [0, 2, 3] rfl
        exact ih (i + 1) (by omega) (by omega) ls hl
      · have h_b := True.intro
        obtain rfl : i = j := by omega
        refine lv_if_ne (tgt := 56) hx hb dX3_nextLine_33 (by decide) (fun c_101 => absurd ((has i (by omega)).trans (if_neg (by omega))) c_101) (fun c_101 => ?_)
        refine lv_aload_nN hx hb dX3_nextLine_36 rfl (lv_at hl 2 rfl) ?_
        refine lv_ifnullN (tgt := 54) hx hb dX3_nextLine_37 (by decide) ?_
        refine lv_aload_n hx hb dX3_nextLine_54 rfl (lv_at hl 0 rfl) ?_
        refine lv_astore_n (lv' := [(1, .ref (ad i)), (3, .ref (ad i)), (2, .int (nI i)), (0, .ref o)]) hx hb dX3_nextLine_55 rfl hl (by decide) rfl (fun ls hl => ?_)
        refine lv_iinc (v := (nI (i + 1))) (lv' := [(2, .int (nI (i + 1))), (1, .ref (ad i)), (3, .ref (ad i)), (0, .ref o)]) hx hb dX3_nextLine_56 hl (k := 2) rfl (nI_1 i) (by decide) rfl (fun ls hl => ?_)
        refine lv_goto (tgt := 4) hx hb dX3_nextLine_59 (by decide) ?_
        have hl := lv_sub hl (l' := [(2, .int (nI (i + 1))), (1, .ref (ad i)), (0, .ref o)]) [0, 1, 3] rfl
        exact loopB k (i + 1) (by omega) (by omega) ls hl
  exact loopA n 0 (by omega) (by omega) ls hl
set_option maxHeartbeats 4000000 in
set_option maxRecDepth 100000 in
theorem c_stack (l : Launch) (D : zG) (sz : Nat) (o kA iA tA tr lA n : Nat) (k0 su sc : Nat) (w : Nat → Int32) (cT : ClassId) (cL : ClassId) (f : Nat → Option Nat) (ad : Nat → Nat) (as : Nat → Int32) (hn : n ≤ 20) (hf : ∀ i, i < n → f i = some (ad i)) : Met l yX3_stack wsX3_stack ({ frames := 4, cells := 0, slots := 0, locals := 100 }) (zPc D [(cT, .int), (cL, .object RX2)] (([(o, .inr (3, [.ref kA, .int 1, .int 1, .int 0, .int 1, .int 0, .ref iA, .int 0, .int 0, .int 0, .ref tA, .ref tr, .ref lA, .int (nI n)])), (tA, .inl (cT, 120, .inl (fun _ => 0))), (tr, .inr (0, [.int (w 0), .int (w 1), .int (w 2), .int (w 3), .int (w 4), .int (w 5), .int (w 6), .int (w 7), .int (w 8), .int (w 9), .int (w 10), .int (w 11), .int (w 12), .int (w 13), .int (w 14), .int (w 15), .ref su, .ref sc])), (lA, .inl (cL, 20, .inr (.inr (.inr (.inr (f)))))), (k0, .inr (1, [.int 0, .int 1, .int 1, .int 2, .int 1, .int 0, .int 1, .int 0]))] : va_W) ++ zL k0 ad as n) sz [.ref o]) (va_Qi (fun (r : Int32) (u : (Nat → Int32) × (Nat → Int32)) => r = 0) (zB D (va_A (([(o, .inr (3, [.ref kA, .int 1, .int 1, .int 0, .int 1, .int 0, .ref iA, .int 0, .int 0, .int 0, .ref tA, .ref tr, .ref lA, .int (nI n)])), (tA, .inl (cT, 120, .inl (fun _ => 0))), (tr, .inr (0, [.int (w 0), .int (w 1), .int (w 2), .int (w 3), .int (w 4), .int (w 5), .int (w 6), .int (w 7), .int (w 8), .int (w 9), .int (w 10), .int (w 11), .int (w 12), .int (w 13), .int (w 14), .int (w 15), .ref su, .ref sc])), (lA, .inl (cL, 20, .inr (.inr (.inr (.inr (f)))))), (k0, .inr (1, [.int 0, .int 1, .int 1, .int 2, .int 1, .int 0, .int 1, .int 0]))] : va_W) ++ zL k0 ad as n) sz) (fun _ => []) 0 (fun u => [(o, .inr (3, [.ref kA, .int 1, .int 1, .int 0, .int 1, .int 0, .ref iA, .int 0, .int 0, .int 0, .ref tA, .ref tr, .ref lA, .int (nI n)])), (tA, .inl (cT, 120, .inl (fun _ => 0))), (tr, .inr (0, [.int (u.1 0), .int (u.1 1), .int (u.1 2), .int (u.1 3), .int (u.1 4), .int (u.1 5), .int (u.1 6), .int (u.1 7), .int (u.1 8), .int (u.1 9), .int (u.1 10), .int (u.1 11), .int (u.1 12), .int (u.1 13), .int (u.1 14), .int (u.1 15), .ref su, .ref sc])), (lA, .inl (cL, 20, .inr (.inr (.inr (.inr (f)))))), (k0, .inr (1, [.int 0, .int 1, .int 1, .int 2, .int 1, .int 0, .int 1, .int 0]))] ++ zL k0 ad u.2 n)) (va_A (([(o, .inr (3, [.ref kA, .int 1, .int 1, .int 0, .int 1, .int 0, .ref iA, .int 0, .int 0, .int 0, .ref tA, .ref tr, .ref lA, .int (nI n)])), (tA, .inl (cT, 120, .inl (fun _ => 0))), (tr, .inr (0, [.int (w 0), .int (w 1), .int (w 2), .int (w 3), .int (w 4), .int (w 5), .int (w 6), .int (w 7), .int (w 8), .int (w 9), .int (w 10), .int (w 11), .int (w 12), .int (w 13), .int (w 14), .int (w 15), .ref su, .ref sc])), (lA, .inl (cL, 20, .inr (.inr (.inr (.inr (f)))))), (k0, .inr (1, [.int 0, .int 1, .int 1, .int 2, .int 1, .int 0, .int 1, .int 0]))] : va_W) ++ zL k0 ad as n) sz)) 0 0 (va_A (([(o, .inr (3, [.ref kA, .int 1, .int 1, .int 0, .int 1, .int 0, .ref iA, .int 0, .int 0, .int 0, .ref tA, .ref tr, .ref lA, .int (nI n)])), (tA, .inl (cT, 120, .inl (fun _ => 0))), (tr, .inr (0, [.int (w 0), .int (w 1), .int (w 2), .int (w 3), .int (w 4), .int (w 5), .int (w 6), .int (w 7), .int (w 8), .int (w 9), .int (w 10), .int (w 11), .int (w 12), .int (w 13), .int (w 14), .int (w 15), .ref su, .ref sc])), (lA, .inl (cL, 20, .inr (.inr (.inr (.inr (f)))))), (k0, .inr (1, [.int 0, .int 1, .int 1, .int 2, .int 1, .int 0, .int 1, .int 0]))] : va_W) ++ zL k0 ad as n) sz) := by
  refine Met.ofW (cc := cX3_stack) (maxL := 4) (ret := (some .int)) (by decide) rfl ?_
  intro p e s m args below meth c s₁ B hml hv
  obtain ⟨rfl, hsz, hP, hK, hD0⟩ := hv
  have hx := B.exec
  have hb := B.bytes
  have hr := B.returns
  have hts := atoms_spec (ws := wsX3_stack) B.pre
  have hown : s.vm.findClass RX3 = some m.cls := findClass_of_methodNamed B.named
  have hlocks := B.notSynchronized
  subst hsz
  have hD := hD0.self (sz := s.heap.size)
  generalize hAe : va_A (([(o, .inr (3, [.ref kA, .int 1, .int 1, .int 0, .int 1, .int 0, .ref iA, .int 0, .int 0, .int 0, .ref tA, .ref tr, .ref lA, .int (nI n)])), (tA, .inl (cT, 120, .inl (fun _ => 0))), (tr, .inr (0, [.int (w 0), .int (w 1), .int (w 2), .int (w 3), .int (w 4), .int (w 5), .int (w 6), .int (w 7), .int (w 8), .int (w 9), .int (w 10), .int (w 11), .int (w 12), .int (w 13), .int (w 14), .int (w 15), .ref su, .ref sc])), (lA, .inl (cL, 20, .inr (.inr (.inr (.inr (f)))))), (k0, .inr (1, [.int 0, .int 1, .int 1, .int 2, .int 1, .int 0, .int 1, .int 0]))] : va_W) ++ zL k0 ad as n) s.heap.size = A at hD ⊢
  have hA : ∀ q : Nat, s.heap.size ≤ q → A q := fun q h => by rw [← hAe]; exact Or.inr h
  have hS : va_S A s.heap s.heap [] := va_S.rf
  have hl := lv_entry ([.ref o]) (n := 4) (Nat.le_of_ble_eq_true rfl)
  rw [lg_entry_eq]
  generalize (lg_sl ([.ref o]) ++ List.replicate (4 - (lg_sl ([.ref o])).length) Slot.unset).toArray = ls at hl ⊢
  have hl : lv_has ls 4 [(0, .ref o)] := hl
  have hP : va_P D vwCl (([(o, .inr (3, [.ref kA, .int 1, .int 1, .int 0, .int 1, .int 0, .ref iA, .int 0, .int 0, .int 0, .ref tA, .ref tr, .ref lA, .int (nI n)])), (tA, .inl (cT, 120, .inl (fun _ => 0))), (tr, .inr (0, [.int (w 0), .int (w 1), .int (w 2), .int (w 3), .int (w 4), .int (w 5), .int (w 6), .int (w 7), .int (w 8), .int (w 9), .int (w 10), .int (w 11), .int (w 12), .int (w 13), .int (w 14), .int (w 15), .ref su, .ref sc])), (lA, .inl (cL, 20, .inr (.inr (.inr (.inr (f)))))), (k0, .inr (1, [.int 0, .int 1, .int 1, .int 2, .int 1, .int 0, .int 1, .int 0]))] : va_W) ++ zL k0 ad as n) s.heap := hP
  generalize hRe : (headSpec _ _).room = R
  have hRf : R.frames = 4 := by rw [← hRe]; rfl
  have hRc : R.cells = 0 := by rw [← hRe]; rfl
  have hRs : R.slots = 0 := by rw [← hRe]; rfl
  have hRl : R.locals = 100 := by rw [← hRe]; rfl
  clear hRe
  refine lv_iconst (v := 0) hx hb dX3_stack_0 (by decide) ?_
  refine lv_istore_n (lv' := [(1, .int 0), (0, .ref o)]) hx hb dX3_stack_1 rfl hl (by decide) rfl (fun ls hl => ?_)
  generalize hQe : MQ _ _ _ _ _ _ _ = Q
  have hl := lv_sub hl (l' := [(1, .int 0), (0, .ref o)]) [0, 1] rfl
  have loop2 : ∀ (k j : Nat), j + k = n → ∀ (w as : Nat → Int32) (H : Heap) (locs : List Loc) (ls : Array Slot), (∀ i, i < n → as i = if i < j then 1 else 0) → va_P D vwCl ([(o, .inr (3, [.ref kA, .int 1, .int 1, .int 0, .int 1, .int 0, .ref iA, .int 0, .int 0, .int 0, .ref tA, .ref tr, .ref lA, .int (nI n)])), (tA, .inl (cT, 120, .inl (fun _ => 0))), (tr, .inr (0, [.int (w 0), .int (w 1), .int (w 2), .int (w 3), .int (w 4), .int (w 5), .int (w 6), .int (w 7), .int (w 8), .int (w 9), .int (w 10), .int (w 11), .int (w 12), .int (w 13), .int (w 14), .int (w 15), .ref su, .ref sc])), (lA, .inl (cL, 20, .inr (.inr (.inr (.inr (f)))))), (k0, .inr (1, [.int 0, .int 1, .int 1, .int 2, .int 1, .int 0, .int 1, .int 0]))] ++ zL k0 ad as n) H → va_D A ([(o, .inr (3, [.ref kA, .int 1, .int 1, .int 0, .int 1, .int 0, .ref iA, .int 0, .int 0, .int 0, .ref tA, .ref tr, .ref lA, .int (nI n)])), (tA, .inl (cT, 120, .inl (fun _ => 0))), (tr, .inr (0, [.int (w 0), .int (w 1), .int (w 2), .int (w 3), .int (w 4), .int (w 5), .int (w 6), .int (w 7), .int (w 8), .int (w 9), .int (w 10), .int (w 11), .int (w 12), .int (w 13), .int (w 14), .int (w 15), .ref su, .ref sc])), (lA, .inl (cL, 20, .inr (.inr (.inr (.inr (f)))))), (k0, .inr (1, [.int 0, .int 1, .int 1, .int 2, .int 1, .int 0, .int 1, .int 0]))] ++ zL k0 ad as n) → va_S A s.heap H locs → lv_has ls 4 [(2, .int (nI j)), (1, .int 0), (0, .ref o)] → W p l e R s m ([.ref o] : List Value).toArray below meth c H locs 0 0 Q (F0 m 35 ls []) := by
    intro k
    induction k with
    | zero =>
      intro j hj w as H locs ls has hP hD hS hl
      obtain rfl : n = j := by omega
      refine lv_iload_n hx hb dX3_stack_35 rfl (lv_at hl 0 rfl) ?_
      refine lv_bipush (v := 80) hx hb dX3_stack_36 (by decide) ?_
      refine lv_icmp_ge (tgt := 90) hx hb dX3_stack_38 (by decide) (fun c_103 => absurd c_103 (nI_ge (b := 80) (by omega) (by decide))) (fun c_103 => ?_)
      refine lv_aload_n hx hb dX3_stack_41 rfl (lv_at hl 2 rfl) ?_
      have hPn := hP.part (cx := [(o, .inr (3, [.ref kA, .int 1, .int 1, .int 0, .int 1, .int 0, .ref iA, .int 0, .int 0, .int 0, .ref tA, .ref tr, .ref lA, .int (nI n)])), (lA, .inl (cL, 20, .inr (.inr (.inr (.inr (f)))))), (k0, .inr (1, [.int 0, .int 1, .int 1, .int 2, .int 1, .int 0, .int 1, .int 0]))]) [0, 3, 4] rfl
      have hDn := hD.part (cx := [(o, .inr (3, [.ref kA, .int 1, .int 1, .int 0, .int 1, .int 0, .ref iA, .int 0, .int 0, .int 0, .ref tA, .ref tr, .ref lA, .int (nI n)])), (lA, .inl (cL, 20, .inr (.inr (.inr (.inr (f)))))), (k0, .inr (1, [.int 0, .int 1, .int 1, .int 2, .int 1, .int 0, .int 1, .int 0]))]) [0, 3, 4] (by decide) rfl
      refine zrdVq2 (As := []) (rest := []) ⟨hx, hb, hml, hown, hts⟩ (c_nextLine l D _ o kA iA tA tr lA n k0 cL f ad as n (by omega) hn hf has) (cwV 0 hts gX3_stack_X3_nextLine rfl rfl rfl (by decide +kernel) ⟨by rw [hRf]; exact Nat.le_of_ble_eq_true rfl, by rw [hRl]; exact Nat.le_of_ble_eq_true rfl⟩) hK hPn hDn [1] rfl (ci := 3) (q0 := 0) rfl rfl rfl hl.1 rfl (Nat.le_of_ble_eq_true rfl) dX3_stack_42 ⟨by omega, by omega⟩ (fun r_104 hr_104 => ?_)
      refine W.eq (g2 := F0 m 45 ls [.null]) (by rw [hr_104, if_neg (by omega)]; rfl) ?_
      refine lv_astore_nN (lv' := [(3, .null), (2, .int (nI n)), (1, .int 0), (0, .ref o)]) hx hb dX3_stack_45 rfl hl (by decide) rfl (fun ls hl => ?_)
      refine lv_aload_nN hx hb dX3_stack_46 rfl (lv_at hl 0 rfl) ?_
      refine lv_ifnonnullN hx hb dX3_stack_47 ?_
      refine lv_iload_n hx hb dX3_stack_50 rfl (lv_at hl 2 rfl) ?_
      rw [← hQe]
      exact W.iret (v := 0) hx hb hr (fun t ht hW => ⟨⟨0, (w, as), rfl, rfl, ⟨Nat.zero_le _, by rw [ht]; exact hP, va_K.moved hW.alike (hK.sub (tys' := []) [] rfl), hD⟩⟩, hS.F ht⟩) hS.2.2 dX3_stack_51
    | succ k ih =>
      intro j hj w as H locs ls has hP hD hS hl
      refine lv_iload_n hx hb dX3_stack_35 rfl (lv_at hl 0 rfl) ?_
      refine lv_bipush (v := 80) hx hb dX3_stack_36 (by decide) ?_
      refine lv_icmp_ge (tgt := 90) hx hb dX3_stack_38 (by decide) (fun c_106 => absurd c_106 (nI_ge (b := 80) (by omega) (by decide))) (fun c_106 => ?_)
      refine lv_aload_n hx hb dX3_stack_41 rfl (lv_at hl 2 rfl) ?_
      have hPn := hP.part (cx := [(o, .inr (3, [.ref kA, .int 1, .int 1, .int 0, .int 1, .int 0, .ref iA, .int 0, .int 0, .int 0, .ref tA, .ref tr, .ref lA, .int (nI n)])), (lA, .inl (cL, 20, .inr (.inr (.inr (.inr (f)))))), (k0, .inr (1, [.int 0, .int 1, .int 1, .int 2, .int 1, .int 0, .int 1, .int 0]))]) [0, 3, 4] rfl
      have hDn := hD.part (cx := [(o, .inr (3, [.ref kA, .int 1, .int 1, .int 0, .int 1, .int 0, .ref iA, .int 0, .int 0, .int 0, .ref tA, .ref tr, .ref lA, .int (nI n)])), (lA, .inl (cL, 20, .inr (.inr (.inr (.inr (f)))))), (k0, .inr (1, [.int 0, .int 1, .int 1, .int 2, .int 1, .int 0, .int 1, .int 0]))]) [0, 3, 4] (by decide) rfl
      refine zrdVq2 (As := []) (rest := []) ⟨hx, hb, hml, hown, hts⟩ (c_nextLine l D _ o kA iA tA tr lA n k0 cL f ad as j (by omega) hn hf has) (cwV 0 hts gX3_stack_X3_nextLine rfl rfl rfl (by decide +kernel) ⟨by rw [hRf]; exact Nat.le_of_ble_eq_true rfl, by rw [hRl]; exact Nat.le_of_ble_eq_true rfl⟩) hK hPn hDn [1] rfl (ci := 3) (q0 := 0) rfl rfl rfl hl.1 rfl (Nat.le_of_ble_eq_true rfl) dX3_stack_42 ⟨by omega, by omega⟩ (fun r_107 hr_107 => ?_)
      refine W.eq (g2 := F0 m 45 ls [.ref (ad j)]) (by rw [hr_107, if_pos (by omega)]; rfl) ?_
      refine lv_astore_n (lv' := [(3, .ref (ad j)), (2, .int (nI j)), (1, .int 0), (0, .ref o)]) hx hb dX3_stack_45 rfl hl (by decide) rfl (fun ls hl => ?_)
      refine lv_aload_n hx hb dX3_stack_46 rfl (lv_at hl 0 rfl) ?_
      refine lv_ifnonnull (tgt := 52) hx hb dX3_stack_47 (by decide) ?_
      refine lv_aload_n hx hb dX3_stack_52 rfl (lv_at hl 3 rfl) ?_
      refine lv_aload_n hx hb dX3_stack_53 rfl (lv_at hl 0 rfl) ?_
      refine va_get (D := D) (ci := 2) (v := .ref k0) (C := RX2) (T := TX2) (N := 3) hx hb hts (fun _ h9 => List.mem_cons_of_mem _ (List.mem_append_left _ (List.mem_append_left _ (List.mem_append_right _ h9)))) hown hK hP (5 + j) (zL_get (by omega) rfl) rfl 0 (by decide) (hts (.fieldLink RX3 163 "PalletStack$Line" "kind" "LPalletStack$Kind;") (List.mem_of_getElem? (i := 3) (by rfl))) (fun _ h9 => h9) rfl dX3_stack_54 ?_
      refine zcalliVQ (As := [.ref k0]) (rest := []) (cx := [(o, .inr (3, [.ref kA, .int 1, .int 1, .int 0, .int 1, .int 0, .ref iA, .int 0, .int 0, .int 0, .ref tA, .ref tr, .ref lA, .int (nI n)])), (tA, .inl (cT, 120, .inl (fun _ => 0))), (tr, .inr (0, [.int (w 0), .int (w 1), .int (w 2), .int (w 3), .int (w 4), .int (w 5), .int (w 6), .int (w 7), .int (w 8), .int (w 9), .int (w 10), .int (w 11), .int (w 12), .int (w 13), .int (w 14), .int (w 15), .ref su, .ref sc])), (k0, .inr (1, [.int 0, .int 1, .int 1, .int 2, .int 1, .int 0, .int 1, .int 0]))]) (wr := [(lA, .inl (cL, 20, .inr (.inr (.inr (.inr (f))))))]) ⟨hx, hb, hml, hown, hts⟩ (c_putAtBest l D _ o kA iA tA tr lA n k0 su sc w cT) (cwV 1 hts gX3_stack_X3_putAtBest rfl rfl rfl (by decide +kernel) ⟨by rw [hRf]; exact Nat.le_of_ble_eq_true rfl, by rw [hRl]; exact Nat.le_of_ble_eq_true rfl⟩) hK hP hD hS hA [0, 1, 2, 4] [3] rfl (by decide) rfl (by decide) (by decide) [0] rfl (ci := 3) (q0 := 0) rfl rfl rfl hl.1 rfl (Nat.le_of_ble_eq_true rfl) dX3_stack_57 ⟨by omega, by omega⟩ (fun r_109 u_110 H locs hwu_110 hnu_110 hzu_110 hK hP hD hS => ?_)
      have hK : va_K D vwCl [(cT, .int), (cL, .object RX2)] s := hK
      have hP : va_P D vwCl (([(lA, .inl (cL, 20, .inr (.inr (.inr (.inr (f)))))), (o, .inr (3, [.ref kA, .int 1, .int 1, .int 0, .int 1, .int 0, .ref iA, .int 0, .int 0, .int 0, .ref tA, .ref tr, .ref lA, .int (nI n)])), (tA, .inl (cT, 120, .inl (fun _ => 0))), (tr, .inr (0, [.int (u_110 0), .int (u_110 1), .int (u_110 2), .int (u_110 3), .int (u_110 4), .int (u_110 5), .int (u_110 6), .int (u_110 7), .int (u_110 8), .int (u_110 9), .int (u_110 10), .int (u_110 11), .int (u_110 12), .int (u_110 13), .int (u_110 14), .int (u_110 15), .ref su, .ref sc])), (k0, .inr (1, [.int 0, .int 1, .int 1, .int 2, .int 1, .int 0, .int 1, .int 0]))] : va_W) ++ zL k0 ad as n) H := hP
      have hD : va_D A (([(lA, .inl (cL, 20, .inr (.inr (.inr (.inr (f)))))), (o, .inr (3, [.ref kA, .int 1, .int 1, .int 0, .int 1, .int 0, .ref iA, .int 0, .int 0, .int 0, .ref tA, .ref tr, .ref lA, .int (nI n)])), (tA, .inl (cT, 120, .inl (fun _ => 0))), (tr, .inr (0, [.int (u_110 0), .int (u_110 1), .int (u_110 2), .int (u_110 3), .int (u_110 4), .int (u_110 5), .int (u_110 6), .int (u_110 7), .int (u_110 8), .int (u_110 9), .int (u_110 10), .int (u_110 11), .int (u_110 12), .int (u_110 13), .int (u_110 14), .int (u_110 15), .ref su, .ref sc])), (k0, .inr (1, [.int 0, .int 1, .int 1, .int 2, .int 1, .int 0, .int 1, .int 0]))] : va_W) ++ zL k0 ad as n) := hD
      have hP := hP.part (cx := [(o, .inr (3, [.ref kA, .int 1, .int 1, .int 0, .int 1, .int 0, .ref iA, .int 0, .int 0, .int 0, .ref tA, .ref tr, .ref lA, .int (nI n)])), (tA, .inl (cT, 120, .inl (fun _ => 0))), (tr, .inr (0, [.int (u_110 0), .int (u_110 1), .int (u_110 2), .int (u_110 3), .int (u_110 4), .int (u_110 5), .int (u_110 6), .int (u_110 7), .int (u_110 8), .int (u_110 9), .int (u_110 10), .int (u_110 11), .int (u_110 12), .int (u_110 13), .int (u_110 14), .int (u_110 15), .ref su, .ref sc])), (lA, .inl (cL, 20, .inr (.inr (.inr (.inr (f)))))), (k0, .inr (1, [.int 0, .int 1, .int 1, .int 2, .int 1, .int 0, .int 1, .int 0]))]) [1, 2, 3, 0, 4] rfl
      have hD := hD.part (cx := [(o, .inr (3, [.ref kA, .int 1, .int 1, .int 0, .int 1, .int 0, .ref iA, .int 0, .int 0, .int 0, .ref tA, .ref tr, .ref lA, .int (nI n)])), (tA, .inl (cT, 120, .inl (fun _ => 0))), (tr, .inr (0, [.int (u_110 0), .int (u_110 1), .int (u_110 2), .int (u_110 3), .int (u_110 4), .int (u_110 5), .int (u_110 6), .int (u_110 7), .int (u_110 8), .int (u_110 9), .int (u_110 10), .int (u_110 11), .int (u_110 12), .int (u_110 13), .int (u_110 14), .int (u_110 15), .ref su, .ref sc])), (lA, .inl (cL, 20, .inr (.inr (.inr (.inr (f)))))), (k0, .inr (1, [.int 0, .int 1, .int 1, .int 2, .int 1, .int 0, .int 1, .int 0]))]) [1, 2, 3, 0, 4] (by decide) rfl
      have hP : va_P D vwCl (([(o, .inr (3, [.ref kA, .int 1, .int 1, .int 0, .int 1, .int 0, .ref iA, .int 0, .int 0, .int 0, .ref tA, .ref tr, .ref lA, .int (nI n)])), (tA, .inl (cT, 120, .inl (fun _ => 0))), (tr, .inr (0, [.int (u_110 0), .int (u_110 1), .int (u_110 2), .int (u_110 3), .int (u_110 4), .int (u_110 5), .int (u_110 6), .int (u_110 7), .int (u_110 8), .int (u_110 9), .int (u_110 10), .int (u_110 11), .int (u_110 12), .int (u_110 13), .int (u_110 14), .int (u_110 15), .ref su, .ref sc])), (lA, .inl (cL, 20, .inr (.inr (.inr (.inr (f)))))), (k0, .inr (1, [.int 0, .int 1, .int 1, .int 2, .int 1, .int 0, .int 1, .int 0]))] : va_W) ++ zL k0 ad as n) H := hP
      have hD : va_D A (([(o, .inr (3, [.ref kA, .int 1, .int 1, .int 0, .int 1, .int 0, .ref iA, .int 0, .int 0, .int 0, .ref tA, .ref tr, .ref lA, .int (nI n)])), (tA, .inl (cT, 120, .inl (fun _ => 0))), (tr, .inr (0, [.int (u_110 0), .int (u_110 1), .int (u_110 2), .int (u_110 3), .int (u_110 4), .int (u_110 5), .int (u_110 6), .int (u_110 7), .int (u_110 8), .int (u_110 9), .int (u_110 10), .int (u_110 11), .int (u_110 12), .int (u_110 13), .int (u_110 14), .int (u_110 15), .ref su, .ref sc])), (lA, .inl (cL, 20, .inr (.inr (.inr (.inr (f)))))), (k0, .inr (1, [.int 0, .int 1, .int 1, .int 2, .int 1, .int 0, .int 1, .int 0]))] : va_W) ++ zL k0 ad as n) := hD
      refine lv_topi (fun v_111 ev_111 => ?_)
      obtain rfl : v_111 = 0 := ev_111.trans hwu_110
      refine lv_if_eq (tgt := 79) hx hb dX3_stack_60 (by decide) (fun c_112 => ?_) (fun c_112 => absurd (rfl) c_112)
      refine lv_aload_n hx hb dX3_stack_79 rfl (lv_at hl 0 rfl) ?_
      refine lv_iconst (v := 1) hx hb dX3_stack_80 (by decide) ?_
      refine va_put (D := D) (ci := 2) (v := .int 1) (ty := .boolean) (C := RX2) (T := TX2) (N := 3) hx hb hts (fun _ h9 => List.mem_cons_of_mem _ (List.mem_append_left _ (List.mem_append_left _ (List.mem_append_right _ h9)))) tyX2 tyX2_ok nmX2 hown hK hP hD hS (5 + j) (zL_get (by omega) rfl) rfl 2 (by decide) (hts (.fieldLink RX3 156 "PalletStack$Line" "isAside" "Z") (List.mem_of_getElem? (i := 2) (by rfl))) (fun _ h9 => h9) rfl (by decide +kernel) rfl rfl (Nat.le_of_ble_eq_true rfl) dX3_stack_81 (fun H locs hP hD hS => ?_)
      have hP : va_P D vwCl ((([(o, .inr (3, [.ref kA, .int 1, .int 1, .int 0, .int 1, .int 0, .ref iA, .int 0, .int 0, .int 0, .ref tA, .ref tr, .ref lA, .int (nI n)])), (tA, .inl (cT, 120, .inl (fun _ => 0))), (tr, .inr (0, [.int (u_110 0), .int (u_110 1), .int (u_110 2), .int (u_110 3), .int (u_110 4), .int (u_110 5), .int (u_110 6), .int (u_110 7), .int (u_110 8), .int (u_110 9), .int (u_110 10), .int (u_110 11), .int (u_110 12), .int (u_110 13), .int (u_110 14), .int (u_110 15), .ref su, .ref sc])), (lA, .inl (cL, 20, .inr (.inr (.inr (.inr (f)))))), (k0, .inr (1, [.int 0, .int 1, .int 1, .int 2, .int 1, .int 0, .int 1, .int 0]))] : va_W) ++ zL k0 ad as n).set (5 + j) (ad j, .inr (2, [.ref k0, .int 1, .int 1]))) H := hP
      have hD : va_D A ((([(o, .inr (3, [.ref kA, .int 1, .int 1, .int 0, .int 1, .int 0, .ref iA, .int 0, .int 0, .int 0, .ref tA, .ref tr, .ref lA, .int (nI n)])), (tA, .inl (cT, 120, .inl (fun _ => 0))), (tr, .inr (0, [.int (u_110 0), .int (u_110 1), .int (u_110 2), .int (u_110 3), .int (u_110 4), .int (u_110 5), .int (u_110 6), .int (u_110 7), .int (u_110 8), .int (u_110 9), .int (u_110 10), .int (u_110 11), .int (u_110 12), .int (u_110 13), .int (u_110 14), .int (u_110 15), .ref su, .ref sc])), (lA, .inl (cL, 20, .inr (.inr (.inr (.inr (f)))))), (k0, .inr (1, [.int 0, .int 1, .int 1, .int 2, .int 1, .int 0, .int 1, .int 0]))] : va_W) ++ zL k0 ad as n).set (5 + j) (ad j, .inr (2, [.ref k0, .int 1, .int 1]))) := hD
      rw [zL_set (X := [(o, .inr (3, [.ref kA, .int 1, .int 1, .int 0, .int 1, .int 0, .ref iA, .int 0, .int 0, .int 0, .ref tA, .ref tr, .ref lA, .int (nI n)])), (tA, .inl (cT, 120, .inl (fun _ => 0))), (tr, .inr (0, [.int (u_110 0), .int (u_110 1), .int (u_110 2), .int (u_110 3), .int (u_110 4), .int (u_110 5), .int (u_110 6), .int (u_110 7), .int (u_110 8), .int (u_110 9), .int (u_110 10), .int (u_110 11), .int (u_110 12), .int (u_110 13), .int (u_110 14), .int (u_110 15), .ref su, .ref sc])), (lA, .inl (cL, 20, .inr (.inr (.inr (.inr (f)))))), (k0, .inr (1, [.int 0, .int 1, .int 1, .int 2, .int 1, .int 0, .int 1, .int 0]))]) (k := 5) rfl] at hP hD
      have hP : va_P D vwCl (([(o, .inr (3, [.ref kA, .int 1, .int 1, .int 0, .int 1, .int 0, .ref iA, .int 0, .int 0, .int 0, .ref tA, .ref tr, .ref lA, .int (nI n)])), (tA, .inl (cT, 120, .inl (fun _ => 0))), (tr, .inr (0, [.int (u_110 0), .int (u_110 1), .int (u_110 2), .int (u_110 3), .int (u_110 4), .int (u_110 5), .int (u_110 6), .int (u_110 7), .int (u_110 8), .int (u_110 9), .int (u_110 10), .int (u_110 11), .int (u_110 12), .int (u_110 13), .int (u_110 14), .int (u_110 15), .ref su, .ref sc])), (lA, .inl (cL, 20, .inr (.inr (.inr (.inr (f)))))), (k0, .inr (1, [.int 0, .int 1, .int 1, .int 2, .int 1, .int 0, .int 1, .int 0]))] : va_W) ++ zL k0 ad (upd as j 1) n) H := hP
      have hD : va_D A (([(o, .inr (3, [.ref kA, .int 1, .int 1, .int 0, .int 1, .int 0, .ref iA, .int 0, .int 0, .int 0, .ref tA, .ref tr, .ref lA, .int (nI n)])), (tA, .inl (cT, 120, .inl (fun _ => 0))), (tr, .inr (0, [.int (u_110 0), .int (u_110 1), .int (u_110 2), .int (u_110 3), .int (u_110 4), .int (u_110 5), .int (u_110 6), .int (u_110 7), .int (u_110 8), .int (u_110 9), .int (u_110 10), .int (u_110 11), .int (u_110 12), .int (u_110 13), .int (u_110 14), .int (u_110 15), .ref su, .ref sc])), (lA, .inl (cL, 20, .inr (.inr (.inr (.inr (f)))))), (k0, .inr (1, [.int 0, .int 1, .int 1, .int 2, .int 1, .int 0, .int 1, .int 0]))] : va_W) ++ zL k0 ad (upd as j 1) n) := hD
      refine lv_iinc (v := (nI (j + 1))) (lv' := [(2, .int (nI (j + 1))), (3, .ref (ad j)), (1, .int 0), (0, .ref o)]) hx hb dX3_stack_84 hl (k := 1) rfl (nI_1 j) (by decide) rfl (fun ls hl => ?_)
      refine lv_goto (tgt := 35) hx hb dX3_stack_87 (by decide) ?_
      have hl := lv_sub hl (l' := [(2, .int (nI (j + 1))), (1, .int 0), (0, .ref o)]) [0, 2, 3] rfl
      exact ih (j + 1) (by omega) u_110 (upd as j 1) H locs ls (fun i hi => by
        simp only [upd]
        by_cases hij : i = j
        · rw [if_pos hij, if_pos (by omega)]
        · rw [if_neg hij, has i hi]; by_cases hlt : i < j
          · rw [if_pos hlt, if_pos (by omega)]
          · rw [if_neg hlt, if_neg (by omega)]) hP hD hS hl
  have loop1 : ∀ (k i : Nat), i + k = n → ∀ (as : Nat → Int32) (H : Heap) (locs : List Loc) (ls : Array Slot), (∀ z, z < i → as z = 0) → va_P D vwCl ([(o, .inr (3, [.ref kA, .int 1, .int 1, .int 0, .int 1, .int 0, .ref iA, .int 0, .int 0, .int 0, .ref tA, .ref tr, .ref lA, .int (nI n)])), (tA, .inl (cT, 120, .inl (fun _ => 0))), (tr, .inr (0, [.int (w 0), .int (w 1), .int (w 2), .int (w 3), .int (w 4), .int (w 5), .int (w 6), .int (w 7), .int (w 8), .int (w 9), .int (w 10), .int (w 11), .int (w 12), .int (w 13), .int (w 14), .int (w 15), .ref su, .ref sc])), (lA, .inl (cL, 20, .inr (.inr (.inr (.inr (f)))))), (k0, .inr (1, [.int 0, .int 1, .int 1, .int 2, .int 1, .int 0, .int 1, .int 0]))] ++ zL k0 ad as n) H → va_D A ([(o, .inr (3, [.ref kA, .int 1, .int 1, .int 0, .int 1, .int 0, .ref iA, .int 0, .int 0, .int 0, .ref tA, .ref tr, .ref lA, .int (nI n)])), (tA, .inl (cT, 120, .inl (fun _ => 0))), (tr, .inr (0, [.int (w 0), .int (w 1), .int (w 2), .int (w 3), .int (w 4), .int (w 5), .int (w 6), .int (w 7), .int (w 8), .int (w 9), .int (w 10), .int (w 11), .int (w 12), .int (w 13), .int (w 14), .int (w 15), .ref su, .ref sc])), (lA, .inl (cL, 20, .inr (.inr (.inr (.inr (f)))))), (k0, .inr (1, [.int 0, .int 1, .int 1, .int 2, .int 1, .int 0, .int 1, .int 0]))] ++ zL k0 ad as n) → va_S A s.heap H locs → lv_has ls 4 [(1, .int (nI i)), (0, .ref o)] → W p l e R s m ([.ref o] : List Value).toArray below meth c H locs 0 0 Q (F0 m 2 ls []) := by
    intro k
    induction k with
    | zero =>
      intro i hi as H locs ls has hP hD hS hl
      obtain rfl : n = i := by omega
      refine lv_iload_n hx hb dX3_stack_2 rfl (lv_at hl 0 rfl) ?_
      refine lv_aload_n hx hb dX3_stack_3 rfl (lv_at hl 1 rfl) ?_
      refine va_get (D := D) (ci := 3) (v := .int (nI n)) (C := RX3) (T := TX3) (N := 14) hx hb hts (fun _ h9 => List.mem_cons_of_mem _ (List.mem_append_left _ (List.mem_append_left _ (List.mem_append_left _ (List.mem_append_right _ h9))))) hown hK hP 0 rfl rfl 13 (by decide) (hts (.fieldLink RX3 62 "PalletStack" "lineCount" "I") (List.mem_of_getElem? (i := 1) (by rfl))) (fun _ h9 => h9) rfl dX3_stack_4 ?_
      refine lv_icmp_ge (tgt := 31) hx hb dX3_stack_7 (by decide) (fun c_113 => ?_) (fun c_113 => absurd (Int32.le_refl _) c_113)
      refine lv_iconst (v := 0) hx hb dX3_stack_31 (by decide) ?_
      refine lv_istore_n (lv' := [(1, .int 0), (0, .ref o)]) hx hb dX3_stack_32 rfl hl (by decide) rfl (fun ls hl => ?_)
      refine lv_iconst (v := 0) hx hb dX3_stack_33 (by decide) ?_
      refine lv_istore_n (lv' := [(2, .int 0), (1, .int 0), (0, .ref o)]) hx hb dX3_stack_34 rfl hl (by decide) rfl (fun ls hl => ?_)
      have hl := lv_sub hl (l' := [(2, .int 0), (1, .int 0), (0, .ref o)]) [0, 1, 2] rfl
      exact loop2 n 0 (by omega) w as H locs ls (fun z hz => by rw [has z hz]; rfl) hP hD hS hl
    | succ k ih =>
      intro i hi as H locs ls has hP hD hS hl
      refine lv_iload_n hx hb dX3_stack_2 rfl (lv_at hl 0 rfl) ?_
      refine lv_aload_n hx hb dX3_stack_3 rfl (lv_at hl 1 rfl) ?_
      refine va_get (D := D) (ci := 3) (v := .int (nI n)) (C := RX3) (T := TX3) (N := 14) hx hb hts (fun _ h9 => List.mem_cons_of_mem _ (List.mem_append_left _ (List.mem_append_left _ (List.mem_append_left _ (List.mem_append_right _ h9))))) hown hK hP 0 rfl rfl 13 (by decide) (hts (.fieldLink RX3 62 "PalletStack" "lineCount" "I") (List.mem_of_getElem? (i := 1) (by rfl))) (fun _ h9 => h9) rfl dX3_stack_4 ?_
      refine lv_icmp_ge (tgt := 31) hx hb dX3_stack_7 (by decide) (fun c_114 => absurd c_114 (nI_ge (by omega) (by omega))) (fun c_114 => ?_)
      refine lv_aload_n hx hb dX3_stack_10 rfl (lv_at hl 1 rfl) ?_
      refine lv_iload_n hx hb dX3_stack_11 rfl (lv_at hl 0 rfl) ?_
      refine zrdVq (As := [.int (nI i)]) (rest := []) (wc := [(o, .inr (3, [.ref kA, .int 1, .int 1, .int 0, .int 1, .int 0, .ref iA, .int 0, .int 0, .int 0, .ref tA, .ref tr, .ref lA, .int (nI n)])), (lA, .inl (cL, 20, .inr (.inr (.inr (.inr (f))))))]) ⟨hx, hb, hml, hown, hts⟩ (c_lineOf l D _ o kA iA tA tr lA n cL f i (ad i) (by omega) hn (hf i (by omega))) (cwV 1 hts gX3_stack_X3_lineOf rfl rfl rfl (by decide +kernel) ⟨by rw [hRf]; exact Nat.le_of_ble_eq_true rfl, by rw [hRl]; exact Nat.le_of_ble_eq_true rfl⟩) hK hP hD [0, 3] rfl (by decide) [1] rfl (ci := 3) (q0 := 0) rfl rfl rfl hl.1 rfl (Nat.le_of_ble_eq_true rfl) dX3_stack_12 ⟨by omega, by omega⟩ (fun r_115 hr_115 => ?_)
      refine W.eq (g2 := F0 m 15 ls [.ref (ad i)]) (by rw [hr_115]; rfl) ?_
      refine lv_astore_n (lv' := [(2, .ref (ad i)), (1, .int (nI i)), (0, .ref o)]) hx hb dX3_stack_15 rfl hl (by decide) rfl (fun ls hl => ?_)
      refine lv_aload_n hx hb dX3_stack_16 rfl (lv_at hl 0 rfl) ?_
      refine lv_ifnull hx hb dX3_stack_17 ?_
      refine lv_aload_n hx hb dX3_stack_20 rfl (lv_at hl 0 rfl) ?_
      refine lv_iconst (v := 0) hx hb dX3_stack_21 (by decide) ?_
      refine va_put (D := D) (ci := 2) (v := .int 0) (ty := .boolean) (C := RX2) (T := TX2) (N := 3) hx hb hts (fun _ h9 => List.mem_cons_of_mem _ (List.mem_append_left _ (List.mem_append_left _ (List.mem_append_right _ h9)))) tyX2 tyX2_ok nmX2 hown hK hP hD hS (5 + i) (zL_get (by omega) rfl) rfl 2 (by decide) (hts (.fieldLink RX3 156 "PalletStack$Line" "isAside" "Z") (List.mem_of_getElem? (i := 2) (by rfl))) (fun _ h9 => h9) rfl (by decide +kernel) rfl rfl (Nat.le_of_ble_eq_true rfl) dX3_stack_22 (fun H locs hP hD hS => ?_)
      have hP : va_P D vwCl ((([(o, .inr (3, [.ref kA, .int 1, .int 1, .int 0, .int 1, .int 0, .ref iA, .int 0, .int 0, .int 0, .ref tA, .ref tr, .ref lA, .int (nI n)])), (tA, .inl (cT, 120, .inl (fun _ => 0))), (tr, .inr (0, [.int (w 0), .int (w 1), .int (w 2), .int (w 3), .int (w 4), .int (w 5), .int (w 6), .int (w 7), .int (w 8), .int (w 9), .int (w 10), .int (w 11), .int (w 12), .int (w 13), .int (w 14), .int (w 15), .ref su, .ref sc])), (lA, .inl (cL, 20, .inr (.inr (.inr (.inr (f)))))), (k0, .inr (1, [.int 0, .int 1, .int 1, .int 2, .int 1, .int 0, .int 1, .int 0]))] : va_W) ++ zL k0 ad as n).set (5 + i) (ad i, .inr (2, [.ref k0, .int 1, .int 0]))) H := hP
      have hD : va_D A ((([(o, .inr (3, [.ref kA, .int 1, .int 1, .int 0, .int 1, .int 0, .ref iA, .int 0, .int 0, .int 0, .ref tA, .ref tr, .ref lA, .int (nI n)])), (tA, .inl (cT, 120, .inl (fun _ => 0))), (tr, .inr (0, [.int (w 0), .int (w 1), .int (w 2), .int (w 3), .int (w 4), .int (w 5), .int (w 6), .int (w 7), .int (w 8), .int (w 9), .int (w 10), .int (w 11), .int (w 12), .int (w 13), .int (w 14), .int (w 15), .ref su, .ref sc])), (lA, .inl (cL, 20, .inr (.inr (.inr (.inr (f)))))), (k0, .inr (1, [.int 0, .int 1, .int 1, .int 2, .int 1, .int 0, .int 1, .int 0]))] : va_W) ++ zL k0 ad as n).set (5 + i) (ad i, .inr (2, [.ref k0, .int 1, .int 0]))) := hD
      rw [zL_set (X := [(o, .inr (3, [.ref kA, .int 1, .int 1, .int 0, .int 1, .int 0, .ref iA, .int 0, .int 0, .int 0, .ref tA, .ref tr, .ref lA, .int (nI n)])), (tA, .inl (cT, 120, .inl (fun _ => 0))), (tr, .inr (0, [.int (w 0), .int (w 1), .int (w 2), .int (w 3), .int (w 4), .int (w 5), .int (w 6), .int (w 7), .int (w 8), .int (w 9), .int (w 10), .int (w 11), .int (w 12), .int (w 13), .int (w 14), .int (w 15), .ref su, .ref sc])), (lA, .inl (cL, 20, .inr (.inr (.inr (.inr (f)))))), (k0, .inr (1, [.int 0, .int 1, .int 1, .int 2, .int 1, .int 0, .int 1, .int 0]))]) (k := 5) rfl] at hP hD
      have hP : va_P D vwCl (([(o, .inr (3, [.ref kA, .int 1, .int 1, .int 0, .int 1, .int 0, .ref iA, .int 0, .int 0, .int 0, .ref tA, .ref tr, .ref lA, .int (nI n)])), (tA, .inl (cT, 120, .inl (fun _ => 0))), (tr, .inr (0, [.int (w 0), .int (w 1), .int (w 2), .int (w 3), .int (w 4), .int (w 5), .int (w 6), .int (w 7), .int (w 8), .int (w 9), .int (w 10), .int (w 11), .int (w 12), .int (w 13), .int (w 14), .int (w 15), .ref su, .ref sc])), (lA, .inl (cL, 20, .inr (.inr (.inr (.inr (f)))))), (k0, .inr (1, [.int 0, .int 1, .int 1, .int 2, .int 1, .int 0, .int 1, .int 0]))] : va_W) ++ zL k0 ad (upd as i 0) n) H := hP
      have hD : va_D A (([(o, .inr (3, [.ref kA, .int 1, .int 1, .int 0, .int 1, .int 0, .ref iA, .int 0, .int 0, .int 0, .ref tA, .ref tr, .ref lA, .int (nI n)])), (tA, .inl (cT, 120, .inl (fun _ => 0))), (tr, .inr (0, [.int (w 0), .int (w 1), .int (w 2), .int (w 3), .int (w 4), .int (w 5), .int (w 6), .int (w 7), .int (w 8), .int (w 9), .int (w 10), .int (w 11), .int (w 12), .int (w 13), .int (w 14), .int (w 15), .ref su, .ref sc])), (lA, .inl (cL, 20, .inr (.inr (.inr (.inr (f)))))), (k0, .inr (1, [.int 0, .int 1, .int 1, .int 2, .int 1, .int 0, .int 1, .int 0]))] : va_W) ++ zL k0 ad (upd as i 0) n) := hD
      refine lv_iinc (v := (nI (i + 1))) (lv' := [(1, .int (nI (i + 1))), (2, .ref (ad i)), (0, .ref o)]) hx hb dX3_stack_25 hl (k := 1) rfl (nI_1 i) (by decide) rfl (fun ls hl => ?_)
      refine lv_goto (tgt := 2) hx hb dX3_stack_28 (by decide) ?_
      have hl := lv_sub hl (l' := [(1, .int (nI (i + 1))), (0, .ref o)]) [0, 2] rfl
      exact ih (i + 1) (by omega) (upd as i 0) H locs ls (fun z hz => by simp only [upd]; by_cases hzi : z = i; · rw [if_pos hzi]
                                                                         · rw [if_neg hzi]; exact has z (by omega)) hP hD hS hl
  exact loop1 n 0 (by omega) as s.heap [] ls (fun z hz => absurd hz (by omega)) hP hD hS hl
end
section
set_option maxHeartbeats 4000000 in
set_option maxRecDepth 100000 in
theorem c_Item_init (l : Launch) (D : zG) (sz : Nat) (h : Nat) : Met l yX0_init wsX0_init ({ frames := 1, cells := 2, slots := 72, locals := 16 }) (zPcK D [] ([(h, .inr (0, [.int 0, .int 0, .int 0, .int 0, .int 0, .int 0, .int 0, .int 0, .int 0, .int 0, .int 0, .int 0, .int 0, .int 0, .int 0, .int 0, .null, .null]))]) sz (va_AO RX0) [.ref h]) (va_Qv (fun (u : Nat × Nat) => True) (zB D (va_A ([(h, .inr (0, [.int 0, .int 0, .int 0, .int 0, .int 0, .int 0, .int 0, .int 0, .int 0, .int 0, .int 0, .int 0, .int 0, .int 0, .int 0, .int 0, .null, .null]))]) sz) (fun _ => []) 0 (fun u => [(h, .inr (0, [.int 0, .int 0, .int 0, .int 0, .int 0, .int 0, .int 0, .int 0, .int 0, .int 0, .int 0, .int 0, .int 0, .int 0, .int 0, .int 0, .ref u.1, .ref u.2]))])) (va_A ([(h, .inr (0, [.int 0, .int 0, .int 0, .int 0, .int 0, .int 0, .int 0, .int 0, .int 0, .int 0, .int 0, .int 0, .int 0, .int 0, .int 0, .int 0, .null, .null]))]) sz)) 2 72 (va_A ([(h, .inr (0, [.int 0, .int 0, .int 0, .int 0, .int 0, .int 0, .int 0, .int 0, .int 0, .int 0, .int 0, .int 0, .int 0, .int 0, .int 0, .int 0, .null, .null]))]) sz) := by
  refine Met.ofW (cc := cX0_init) (maxL := 1) (ret := none) (by decide) rfl ?_
  intro p e s m args below meth c s₁ B hml hv
  obtain ⟨rfl, ⟨hsz, hP, hK, hD0⟩, hKx⟩ := hv
  have hx := B.exec
  have hb := B.bytes
  have hr := B.returns
  have hts := atoms_spec (ws := wsX0_init) B.pre
  have hown : s.vm.findClass RX0 = some m.cls := findClass_of_methodNamed B.named
  have hlocks := B.notSynchronized
  have hin : meth.name = "<init>" := (name_of_methodNamed B.named B.method).1
  subst hsz
  have hD := hD0.self (sz := s.heap.size)
  generalize hAe : va_A ([(h, .inr (0, [.int 0, .int 0, .int 0, .int 0, .int 0, .int 0, .int 0, .int 0, .int 0, .int 0, .int 0, .int 0, .int 0, .int 0, .int 0, .int 0, .null, .null]))]) s.heap.size = A at hD ⊢
  have hA : ∀ q : Nat, s.heap.size ≤ q → A q := fun q h => by rw [← hAe]; exact Or.inr h
  have hS : va_S A s.heap s.heap [] := va_S.rf
  have hl := lv_entry ([.ref h]) (n := 1) (Nat.le_of_ble_eq_true rfl)
  rw [lg_entry_eq]
  generalize (lg_sl ([.ref h]) ++ List.replicate (1 - (lg_sl ([.ref h])).length) Slot.unset).toArray = ls at hl ⊢
  have hl : lv_has ls 1 [(0, .ref h)] := hl
  have hP : va_P D vwCl ([(h, .inr (0, [.int 0, .int 0, .int 0, .int 0, .int 0, .int 0, .int 0, .int 0, .int 0, .int 0, .int 0, .int 0, .int 0, .int 0, .int 0, .int 0, .null, .null]))]) s.heap := hP
  generalize hRe : (headSpec _ _).room = R
  have hRf : R.frames = 1 := by rw [← hRe]; rfl
  have hRc : R.cells = 2 := by rw [← hRe]; rfl
  have hRs : R.slots = 72 := by rw [← hRe]; rfl
  have hRl : R.locals = 16 := by rw [← hRe]; rfl
  clear hRe
  refine lv_aload_n hx hb dX0_init_0 rfl (lv_at hl 0 rfl) ?_
  refine W.objInit hx hb hown (hts (.methodLink RX0 3 objectInit) (List.mem_of_getElem? (i := 1) (by rfl))) (hts (.instanceMethod objectInit) (List.mem_of_getElem? (i := 2) (by rfl))) (hts (.code objectInit ⟨#[0xb1]⟩ 1 none) (List.mem_of_getElem? (i := 3) (by rfl))) rfl (by rw [hml]; exact hl.1) rfl dX0_init_1 (by rw [hRf]; exact Nat.le_of_ble_eq_true rfl) (by rw [hRl]; exact Nat.le_of_ble_eq_true rfl) ?_
  refine W.eq (g2 := F0 m 4 ls []) rfl ?_
  refine lv_aload_n hx hb dX0_init_4 rfl (lv_at hl 0 rfl) ?_
  refine lv_iconst (v := 0) hx hb dX0_init_5 (by decide) ?_
  refine va_put (D := D) (ci := 0) (v := .int 0) (ty := .int) (C := RX0) (T := TX0) (N := 18) hx hb hts (fun _ h9 => List.mem_cons_of_mem _ (List.mem_append_right _ h9)) tyX0 tyX0_ok nmX0 hown hK hP hD hS 0 rfl rfl 0 (by decide) (hts (.fieldLink RX0 9 "PalletStack$Item" "kind" "I") (List.mem_of_getElem? (i := 4) (by rfl))) (fun _ h9 => h9) rfl (by decide +kernel) rfl rfl (Nat.le_of_ble_eq_true rfl) dX0_init_6 (fun H locs hP hD hS => ?_)
  have hP : va_P D vwCl ([(h, .inr (0, [.int 0, .int 0, .int 0, .int 0, .int 0, .int 0, .int 0, .int 0, .int 0, .int 0, .int 0, .int 0, .int 0, .int 0, .int 0, .int 0, .null, .null]))]) H := hP
  have hD : va_D A ([(h, .inr (0, [.int 0, .int 0, .int 0, .int 0, .int 0, .int 0, .int 0, .int 0, .int 0, .int 0, .int 0, .int 0, .int 0, .int 0, .int 0, .int 0, .null, .null]))]) := hD
  refine lv_aload_n hx hb dX0_init_9 rfl (lv_at hl 0 rfl) ?_
  refine lv_iconst (v := 0) hx hb dX0_init_10 (by decide) ?_
  refine va_put (D := D) (ci := 0) (v := .int 0) (ty := .int) (C := RX0) (T := TX0) (N := 18) hx hb hts (fun _ h9 => List.mem_cons_of_mem _ (List.mem_append_right _ h9)) tyX0 tyX0_ok nmX0 hown hK hP hD hS 0 rfl rfl 1 (by decide) (hts (.fieldLink RX0 15 "PalletStack$Item" "weight" "I") (List.mem_of_getElem? (i := 5) (by rfl))) (fun _ h9 => h9) rfl (by decide +kernel) rfl rfl (Nat.le_of_ble_eq_true rfl) dX0_init_11 (fun H locs hP hD hS => ?_)
  have hP : va_P D vwCl ([(h, .inr (0, [.int 0, .int 0, .int 0, .int 0, .int 0, .int 0, .int 0, .int 0, .int 0, .int 0, .int 0, .int 0, .int 0, .int 0, .int 0, .int 0, .null, .null]))]) H := hP
  have hD : va_D A ([(h, .inr (0, [.int 0, .int 0, .int 0, .int 0, .int 0, .int 0, .int 0, .int 0, .int 0, .int 0, .int 0, .int 0, .int 0, .int 0, .int 0, .int 0, .null, .null]))]) := hD
  refine lv_aload_n hx hb dX0_init_14 rfl (lv_at hl 0 rfl) ?_
  refine lv_iconst (v := 0) hx hb dX0_init_15 (by decide) ?_
  refine va_put (D := D) (ci := 0) (v := .int 0) (ty := .int) (C := RX0) (T := TX0) (N := 18) hx hb hts (fun _ h9 => List.mem_cons_of_mem _ (List.mem_append_right _ h9)) tyX0 tyX0_ok nmX0 hown hK hP hD hS 0 rfl rfl 2 (by decide) (hts (.fieldLink RX0 18 "PalletStack$Item" "strength" "I") (List.mem_of_getElem? (i := 6) (by rfl))) (fun _ h9 => h9) rfl (by decide +kernel) rfl rfl (Nat.le_of_ble_eq_true rfl) dX0_init_16 (fun H locs hP hD hS => ?_)
  have hP : va_P D vwCl ([(h, .inr (0, [.int 0, .int 0, .int 0, .int 0, .int 0, .int 0, .int 0, .int 0, .int 0, .int 0, .int 0, .int 0, .int 0, .int 0, .int 0, .int 0, .null, .null]))]) H := hP
  have hD : va_D A ([(h, .inr (0, [.int 0, .int 0, .int 0, .int 0, .int 0, .int 0, .int 0, .int 0, .int 0, .int 0, .int 0, .int 0, .int 0, .int 0, .int 0, .int 0, .null, .null]))]) := hD
  refine lv_aload_n hx hb dX0_init_19 rfl (lv_at hl 0 rfl) ?_
  refine lv_iconst (v := 0) hx hb dX0_init_20 (by decide) ?_
  refine va_put (D := D) (ci := 0) (v := .int 0) (ty := .boolean) (C := RX0) (T := TX0) (N := 18) hx hb hts (fun _ h9 => List.mem_cons_of_mem _ (List.mem_append_right _ h9)) tyX0 tyX0_ok nmX0 hown hK hP hD hS 0 rfl rfl 3 (by decide) (hts (.fieldLink RX0 21 "PalletStack$Item" "isTurned" "Z") (List.mem_of_getElem? (i := 7) (by rfl))) (fun _ h9 => h9) rfl (by decide +kernel) rfl rfl (Nat.le_of_ble_eq_true rfl) dX0_init_21 (fun H locs hP hD hS => ?_)
  have hP : va_P D vwCl ([(h, .inr (0, [.int 0, .int 0, .int 0, .int 0, .int 0, .int 0, .int 0, .int 0, .int 0, .int 0, .int 0, .int 0, .int 0, .int 0, .int 0, .int 0, .null, .null]))]) H := hP
  have hD : va_D A ([(h, .inr (0, [.int 0, .int 0, .int 0, .int 0, .int 0, .int 0, .int 0, .int 0, .int 0, .int 0, .int 0, .int 0, .int 0, .int 0, .int 0, .int 0, .null, .null]))]) := hD
  refine lv_aload_n hx hb dX0_init_24 rfl (lv_at hl 0 rfl) ?_
  refine lv_iconst (v := 0) hx hb dX0_init_25 (by decide) ?_
  refine va_put (D := D) (ci := 0) (v := .int 0) (ty := .int) (C := RX0) (T := TX0) (N := 18) hx hb hts (fun _ h9 => List.mem_cons_of_mem _ (List.mem_append_right _ h9)) tyX0 tyX0_ok nmX0 hown hK hP hD hS 0 rfl rfl 4 (by decide) (hts (.fieldLink RX0 25 "PalletStack$Item" "width" "I") (List.mem_of_getElem? (i := 8) (by rfl))) (fun _ h9 => h9) rfl (by decide +kernel) rfl rfl (Nat.le_of_ble_eq_true rfl) dX0_init_26 (fun H locs hP hD hS => ?_)
  have hP : va_P D vwCl ([(h, .inr (0, [.int 0, .int 0, .int 0, .int 0, .int 0, .int 0, .int 0, .int 0, .int 0, .int 0, .int 0, .int 0, .int 0, .int 0, .int 0, .int 0, .null, .null]))]) H := hP
  have hD : va_D A ([(h, .inr (0, [.int 0, .int 0, .int 0, .int 0, .int 0, .int 0, .int 0, .int 0, .int 0, .int 0, .int 0, .int 0, .int 0, .int 0, .int 0, .int 0, .null, .null]))]) := hD
  refine lv_aload_n hx hb dX0_init_29 rfl (lv_at hl 0 rfl) ?_
  refine lv_iconst (v := 0) hx hb dX0_init_30 (by decide) ?_
  refine va_put (D := D) (ci := 0) (v := .int 0) (ty := .int) (C := RX0) (T := TX0) (N := 18) hx hb hts (fun _ h9 => List.mem_cons_of_mem _ (List.mem_append_right _ h9)) tyX0 tyX0_ok nmX0 hown hK hP hD hS 0 rfl rfl 5 (by decide) (hts (.fieldLink RX0 28 "PalletStack$Item" "depth" "I") (List.mem_of_getElem? (i := 9) (by rfl))) (fun _ h9 => h9) rfl (by decide +kernel) rfl rfl (Nat.le_of_ble_eq_true rfl) dX0_init_31 (fun H locs hP hD hS => ?_)
  have hP : va_P D vwCl ([(h, .inr (0, [.int 0, .int 0, .int 0, .int 0, .int 0, .int 0, .int 0, .int 0, .int 0, .int 0, .int 0, .int 0, .int 0, .int 0, .int 0, .int 0, .null, .null]))]) H := hP
  have hD : va_D A ([(h, .inr (0, [.int 0, .int 0, .int 0, .int 0, .int 0, .int 0, .int 0, .int 0, .int 0, .int 0, .int 0, .int 0, .int 0, .int 0, .int 0, .int 0, .null, .null]))]) := hD
  refine lv_aload_n hx hb dX0_init_34 rfl (lv_at hl 0 rfl) ?_
  refine lv_iconst (v := 0) hx hb dX0_init_35 (by decide) ?_
  refine va_put (D := D) (ci := 0) (v := .int 0) (ty := .int) (C := RX0) (T := TX0) (N := 18) hx hb hts (fun _ h9 => List.mem_cons_of_mem _ (List.mem_append_right _ h9)) tyX0 tyX0_ok nmX0 hown hK hP hD hS 0 rfl rfl 6 (by decide) (hts (.fieldLink RX0 31 "PalletStack$Item" "x" "I") (List.mem_of_getElem? (i := 10) (by rfl))) (fun _ h9 => h9) rfl (by decide +kernel) rfl rfl (Nat.le_of_ble_eq_true rfl) dX0_init_36 (fun H locs hP hD hS => ?_)
  have hP : va_P D vwCl ([(h, .inr (0, [.int 0, .int 0, .int 0, .int 0, .int 0, .int 0, .int 0, .int 0, .int 0, .int 0, .int 0, .int 0, .int 0, .int 0, .int 0, .int 0, .null, .null]))]) H := hP
  have hD : va_D A ([(h, .inr (0, [.int 0, .int 0, .int 0, .int 0, .int 0, .int 0, .int 0, .int 0, .int 0, .int 0, .int 0, .int 0, .int 0, .int 0, .int 0, .int 0, .null, .null]))]) := hD
  refine lv_aload_n hx hb dX0_init_39 rfl (lv_at hl 0 rfl) ?_
  refine lv_iconst (v := 0) hx hb dX0_init_40 (by decide) ?_
  refine va_put (D := D) (ci := 0) (v := .int 0) (ty := .int) (C := RX0) (T := TX0) (N := 18) hx hb hts (fun _ h9 => List.mem_cons_of_mem _ (List.mem_append_right _ h9)) tyX0 tyX0_ok nmX0 hown hK hP hD hS 0 rfl rfl 7 (by decide) (hts (.fieldLink RX0 34 "PalletStack$Item" "y" "I") (List.mem_of_getElem? (i := 11) (by rfl))) (fun _ h9 => h9) rfl (by decide +kernel) rfl rfl (Nat.le_of_ble_eq_true rfl) dX0_init_41 (fun H locs hP hD hS => ?_)
  have hP : va_P D vwCl ([(h, .inr (0, [.int 0, .int 0, .int 0, .int 0, .int 0, .int 0, .int 0, .int 0, .int 0, .int 0, .int 0, .int 0, .int 0, .int 0, .int 0, .int 0, .null, .null]))]) H := hP
  have hD : va_D A ([(h, .inr (0, [.int 0, .int 0, .int 0, .int 0, .int 0, .int 0, .int 0, .int 0, .int 0, .int 0, .int 0, .int 0, .int 0, .int 0, .int 0, .int 0, .null, .null]))]) := hD
  refine lv_aload_n hx hb dX0_init_44 rfl (lv_at hl 0 rfl) ?_
  refine lv_iconst (v := 0) hx hb dX0_init_45 (by decide) ?_
  refine va_put (D := D) (ci := 0) (v := .int 0) (ty := .int) (C := RX0) (T := TX0) (N := 18) hx hb hts (fun _ h9 => List.mem_cons_of_mem _ (List.mem_append_right _ h9)) tyX0 tyX0_ok nmX0 hown hK hP hD hS 0 rfl rfl 8 (by decide) (hts (.fieldLink RX0 37 "PalletStack$Item" "bottom" "I") (List.mem_of_getElem? (i := 12) (by rfl))) (fun _ h9 => h9) rfl (by decide +kernel) rfl rfl (Nat.le_of_ble_eq_true rfl) dX0_init_46 (fun H locs hP hD hS => ?_)
  have hP : va_P D vwCl ([(h, .inr (0, [.int 0, .int 0, .int 0, .int 0, .int 0, .int 0, .int 0, .int 0, .int 0, .int 0, .int 0, .int 0, .int 0, .int 0, .int 0, .int 0, .null, .null]))]) H := hP
  have hD : va_D A ([(h, .inr (0, [.int 0, .int 0, .int 0, .int 0, .int 0, .int 0, .int 0, .int 0, .int 0, .int 0, .int 0, .int 0, .int 0, .int 0, .int 0, .int 0, .null, .null]))]) := hD
  refine lv_aload_n hx hb dX0_init_49 rfl (lv_at hl 0 rfl) ?_
  refine lv_iconst (v := 0) hx hb dX0_init_50 (by decide) ?_
  refine va_put (D := D) (ci := 0) (v := .int 0) (ty := .int) (C := RX0) (T := TX0) (N := 18) hx hb hts (fun _ h9 => List.mem_cons_of_mem _ (List.mem_append_right _ h9)) tyX0 tyX0_ok nmX0 hown hK hP hD hS 0 rfl rfl 9 (by decide) (hts (.fieldLink RX0 40 "PalletStack$Item" "top" "I") (List.mem_of_getElem? (i := 13) (by rfl))) (fun _ h9 => h9) rfl (by decide +kernel) rfl rfl (Nat.le_of_ble_eq_true rfl) dX0_init_51 (fun H locs hP hD hS => ?_)
  have hP : va_P D vwCl ([(h, .inr (0, [.int 0, .int 0, .int 0, .int 0, .int 0, .int 0, .int 0, .int 0, .int 0, .int 0, .int 0, .int 0, .int 0, .int 0, .int 0, .int 0, .null, .null]))]) H := hP
  have hD : va_D A ([(h, .inr (0, [.int 0, .int 0, .int 0, .int 0, .int 0, .int 0, .int 0, .int 0, .int 0, .int 0, .int 0, .int 0, .int 0, .int 0, .int 0, .int 0, .null, .null]))]) := hD
  refine lv_aload_n hx hb dX0_init_54 rfl (lv_at hl 0 rfl) ?_
  refine lv_iconst (v := 0) hx hb dX0_init_55 (by decide) ?_
  refine va_put (D := D) (ci := 0) (v := .int 0) (ty := .int) (C := RX0) (T := TX0) (N := 18) hx hb hts (fun _ h9 => List.mem_cons_of_mem _ (List.mem_append_right _ h9)) tyX0 tyX0_ok nmX0 hown hK hP hD hS 0 rfl rfl 10 (by decide) (hts (.fieldLink RX0 43 "PalletStack$Item" "ground" "I") (List.mem_of_getElem? (i := 14) (by rfl))) (fun _ h9 => h9) rfl (by decide +kernel) rfl rfl (Nat.le_of_ble_eq_true rfl) dX0_init_56 (fun H locs hP hD hS => ?_)
  have hP : va_P D vwCl ([(h, .inr (0, [.int 0, .int 0, .int 0, .int 0, .int 0, .int 0, .int 0, .int 0, .int 0, .int 0, .int 0, .int 0, .int 0, .int 0, .int 0, .int 0, .null, .null]))]) H := hP
  have hD : va_D A ([(h, .inr (0, [.int 0, .int 0, .int 0, .int 0, .int 0, .int 0, .int 0, .int 0, .int 0, .int 0, .int 0, .int 0, .int 0, .int 0, .int 0, .int 0, .null, .null]))]) := hD
  refine lv_aload_n hx hb dX0_init_59 rfl (lv_at hl 0 rfl) ?_
  refine lv_iconst (v := 0) hx hb dX0_init_60 (by decide) ?_
  refine va_put (D := D) (ci := 0) (v := .int 0) (ty := .int) (C := RX0) (T := TX0) (N := 18) hx hb hts (fun _ h9 => List.mem_cons_of_mem _ (List.mem_append_right _ h9)) tyX0 tyX0_ok nmX0 hown hK hP hD hS 0 rfl rfl 11 (by decide) (hts (.fieldLink RX0 46 "PalletStack$Item" "load" "I") (List.mem_of_getElem? (i := 15) (by rfl))) (fun _ h9 => h9) rfl (by decide +kernel) rfl rfl (Nat.le_of_ble_eq_true rfl) dX0_init_61 (fun H locs hP hD hS => ?_)
  have hP : va_P D vwCl ([(h, .inr (0, [.int 0, .int 0, .int 0, .int 0, .int 0, .int 0, .int 0, .int 0, .int 0, .int 0, .int 0, .int 0, .int 0, .int 0, .int 0, .int 0, .null, .null]))]) H := hP
  have hD : va_D A ([(h, .inr (0, [.int 0, .int 0, .int 0, .int 0, .int 0, .int 0, .int 0, .int 0, .int 0, .int 0, .int 0, .int 0, .int 0, .int 0, .int 0, .int 0, .null, .null]))]) := hD
  refine lv_aload_n hx hb dX0_init_64 rfl (lv_at hl 0 rfl) ?_
  refine lv_iconst (v := 0) hx hb dX0_init_65 (by decide) ?_
  refine va_put (D := D) (ci := 0) (v := .int 0) (ty := .int) (C := RX0) (T := TX0) (N := 18) hx hb hts (fun _ h9 => List.mem_cons_of_mem _ (List.mem_append_right _ h9)) tyX0 tyX0_ok nmX0 hown hK hP hD hS 0 rfl rfl 12 (by decide) (hts (.fieldLink RX0 49 "PalletStack$Item" "nextLoad" "I") (List.mem_of_getElem? (i := 16) (by rfl))) (fun _ h9 => h9) rfl (by decide +kernel) rfl rfl (Nat.le_of_ble_eq_true rfl) dX0_init_66 (fun H locs hP hD hS => ?_)
  have hP : va_P D vwCl ([(h, .inr (0, [.int 0, .int 0, .int 0, .int 0, .int 0, .int 0, .int 0, .int 0, .int 0, .int 0, .int 0, .int 0, .int 0, .int 0, .int 0, .int 0, .null, .null]))]) H := hP
  have hD : va_D A ([(h, .inr (0, [.int 0, .int 0, .int 0, .int 0, .int 0, .int 0, .int 0, .int 0, .int 0, .int 0, .int 0, .int 0, .int 0, .int 0, .int 0, .int 0, .null, .null]))]) := hD
  refine lv_aload_n hx hb dX0_init_69 rfl (lv_at hl 0 rfl) ?_
  refine lv_iconst (v := 0) hx hb dX0_init_70 (by decide) ?_
  refine va_put (D := D) (ci := 0) (v := .int 0) (ty := .boolean) (C := RX0) (T := TX0) (N := 18) hx hb hts (fun _ h9 => List.mem_cons_of_mem _ (List.mem_append_right _ h9)) tyX0 tyX0_ok nmX0 hown hK hP hD hS 0 rfl rfl 13 (by decide) (hts (.fieldLink RX0 52 "PalletStack$Item" "isOnPallet" "Z") (List.mem_of_getElem? (i := 17) (by rfl))) (fun _ h9 => h9) rfl (by decide +kernel) rfl rfl (Nat.le_of_ble_eq_true rfl) dX0_init_71 (fun H locs hP hD hS => ?_)
  have hP : va_P D vwCl ([(h, .inr (0, [.int 0, .int 0, .int 0, .int 0, .int 0, .int 0, .int 0, .int 0, .int 0, .int 0, .int 0, .int 0, .int 0, .int 0, .int 0, .int 0, .null, .null]))]) H := hP
  have hD : va_D A ([(h, .inr (0, [.int 0, .int 0, .int 0, .int 0, .int 0, .int 0, .int 0, .int 0, .int 0, .int 0, .int 0, .int 0, .int 0, .int 0, .int 0, .int 0, .null, .null]))]) := hD
  refine lv_aload_n hx hb dX0_init_74 rfl (lv_at hl 0 rfl) ?_
  refine lv_iconst (v := 0) hx hb dX0_init_75 (by decide) ?_
  refine va_put (D := D) (ci := 0) (v := .int 0) (ty := .boolean) (C := RX0) (T := TX0) (N := 18) hx hb hts (fun _ h9 => List.mem_cons_of_mem _ (List.mem_append_right _ h9)) tyX0 tyX0_ok nmX0 hown hK hP hD hS 0 rfl rfl 14 (by decide) (hts (.fieldLink RX0 55 "PalletStack$Item" "isReached" "Z") (List.mem_of_getElem? (i := 18) (by rfl))) (fun _ h9 => h9) rfl (by decide +kernel) rfl rfl (Nat.le_of_ble_eq_true rfl) dX0_init_76 (fun H locs hP hD hS => ?_)
  have hP : va_P D vwCl ([(h, .inr (0, [.int 0, .int 0, .int 0, .int 0, .int 0, .int 0, .int 0, .int 0, .int 0, .int 0, .int 0, .int 0, .int 0, .int 0, .int 0, .int 0, .null, .null]))]) H := hP
  have hD : va_D A ([(h, .inr (0, [.int 0, .int 0, .int 0, .int 0, .int 0, .int 0, .int 0, .int 0, .int 0, .int 0, .int 0, .int 0, .int 0, .int 0, .int 0, .int 0, .null, .null]))]) := hD
  refine lv_aload_n hx hb dX0_init_79 rfl (lv_at hl 0 rfl) ?_
  refine lv_iconst (v := 0) hx hb dX0_init_80 (by decide) ?_
  refine va_put (D := D) (ci := 0) (v := .int 0) (ty := .int) (C := RX0) (T := TX0) (N := 18) hx hb hts (fun _ h9 => List.mem_cons_of_mem _ (List.mem_append_right _ h9)) tyX0 tyX0_ok nmX0 hown hK hP hD hS 0 rfl rfl 15 (by decide) (hts (.fieldLink RX0 58 "PalletStack$Item" "supportCount" "I") (List.mem_of_getElem? (i := 19) (by rfl))) (fun _ h9 => h9) rfl (by decide +kernel) rfl rfl (Nat.le_of_ble_eq_true rfl) dX0_init_81 (fun H locs hP hD hS => ?_)
  have hP : va_P D vwCl ([(h, .inr (0, [.int 0, .int 0, .int 0, .int 0, .int 0, .int 0, .int 0, .int 0, .int 0, .int 0, .int 0, .int 0, .int 0, .int 0, .int 0, .int 0, .null, .null]))]) H := hP
  have hD : va_D A ([(h, .inr (0, [.int 0, .int 0, .int 0, .int 0, .int 0, .int 0, .int 0, .int 0, .int 0, .int 0, .int 0, .int 0, .int 0, .int 0, .int 0, .int 0, .null, .null]))]) := hD
  refine lv_aload_n hx hb dX0_init_84 rfl (lv_at hl 0 rfl) ?_
  refine lv_bipush (v := 36) hx hb dX0_init_85 (by decide) ?_
  refine va_newq (C := RX0) (N' := 36) hx hb hown (hts (.classLink RX0 10 RX0) (List.mem_of_getElem? (i := 20) (by rfl))) (hKx) hK hP hD hS hA (by decide) rfl (Nat.le_of_ble_eq_true rfl) (by omega) (by omega) dX0_init_87 (fun q_117 cy_118 H hK hP hD hS => ?_)
  have hP : va_P D vwCl ([(h, .inr (0, [.int 0, .int 0, .int 0, .int 0, .int 0, .int 0, .int 0, .int 0, .int 0, .int 0, .int 0, .int 0, .int 0, .int 0, .int 0, .int 0, .null, .null])), (q_117, .inl (cy_118, 36, .inr (.inr (.inr (.inr (fun _ => none))))))]) H := hP
  have hD : va_D A ([(h, .inr (0, [.int 0, .int 0, .int 0, .int 0, .int 0, .int 0, .int 0, .int 0, .int 0, .int 0, .int 0, .int 0, .int 0, .int 0, .int 0, .int 0, .null, .null])), (q_117, .inl (cy_118, 36, .inr (.inr (.inr (.inr (fun _ => none))))))]) := hD
  refine va_putF (D := D) (ci := 0) (v := .ref q_117) (ty := .array (.object "PalletStack$Item")) (C := RX0) (T := TX0) (N := 18) hx hb hts (fun _ h9 => List.mem_cons_of_mem _ (List.mem_append_right _ h9)) tyX0 tyX0_ok nmX0 hown hK hP hD hS 0 rfl rfl 16 (by decide) (hts (.fieldLink RX0 61 "PalletStack$Item" "supports" "[LPalletStack$Item;") (List.mem_of_getElem? (i := 21) (by rfl))) (fun _ h9 => h9) rfl hin rfl (by decide +kernel) rfl rfl (Nat.le_of_ble_eq_true rfl) dX0_init_90 (fun H locs hP hD hS => ?_)
  have hP : va_P D vwCl ([(h, .inr (0, [.int 0, .int 0, .int 0, .int 0, .int 0, .int 0, .int 0, .int 0, .int 0, .int 0, .int 0, .int 0, .int 0, .int 0, .int 0, .int 0, .ref q_117, .null])), (q_117, .inl (cy_118, 36, .inr (.inr (.inr (.inr (fun _ => none))))))]) H := hP
  have hD : va_D A ([(h, .inr (0, [.int 0, .int 0, .int 0, .int 0, .int 0, .int 0, .int 0, .int 0, .int 0, .int 0, .int 0, .int 0, .int 0, .int 0, .int 0, .int 0, .ref q_117, .null])), (q_117, .inl (cy_118, 36, .inr (.inr (.inr (.inr (fun _ => none))))))]) := hD
  refine lv_aload_n hx hb dX0_init_93 rfl (lv_at hl 0 rfl) ?_
  refine lv_bipush (v := 36) hx hb dX0_init_94 (by decide) ?_
  refine znewa (atype := .int) (ty := .int) (N' := 36) (a0 := (36, .inl (fun _ => 0))) hx hb (hts (.arrayClass .int) (List.mem_of_getElem? (i := 22) (by rfl))) rfl hK hP hD hS hA (fun _ => rfl) (by decide) rfl (Nat.le_of_ble_eq_true rfl) (by omega) (by omega) dX0_init_96 (fun q_119 cy_120 H hz_121 hK hP hD hS => ?_)
  have hP : va_P D vwCl ([(h, .inr (0, [.int 0, .int 0, .int 0, .int 0, .int 0, .int 0, .int 0, .int 0, .int 0, .int 0, .int 0, .int 0, .int 0, .int 0, .int 0, .int 0, .ref q_117, .null])), (q_117, .inl (cy_118, 36, .inr (.inr (.inr (.inr (fun _ => none)))))), (q_119, .inl (cy_120, 36, .inl (fun _ => 0)))]) H := hP
  have hD : va_D A ([(h, .inr (0, [.int 0, .int 0, .int 0, .int 0, .int 0, .int 0, .int 0, .int 0, .int 0, .int 0, .int 0, .int 0, .int 0, .int 0, .int 0, .int 0, .ref q_117, .null])), (q_117, .inl (cy_118, 36, .inr (.inr (.inr (.inr (fun _ => none)))))), (q_119, .inl (cy_120, 36, .inl (fun _ => 0)))]) := hD
  refine va_putF (D := D) (ci := 0) (v := .ref q_119) (ty := .array .int) (C := RX0) (T := TX0) (N := 18) hx hb hts (fun _ h9 => List.mem_cons_of_mem _ (List.mem_append_right _ h9)) tyX0 tyX0_ok nmX0 hown hK hP hD hS 0 rfl rfl 17 (by decide) (hts (.fieldLink RX0 65 "PalletStack$Item" "supportCells" "[I") (List.mem_of_getElem? (i := 23) (by rfl))) (fun _ h9 => h9) rfl hin rfl (by decide +kernel) rfl rfl (Nat.le_of_ble_eq_true rfl) dX0_init_98 (fun H locs hP hD hS => ?_)
  have hP : va_P D vwCl ([(h, .inr (0, [.int 0, .int 0, .int 0, .int 0, .int 0, .int 0, .int 0, .int 0, .int 0, .int 0, .int 0, .int 0, .int 0, .int 0, .int 0, .int 0, .ref q_117, .ref q_119])), (q_117, .inl (cy_118, 36, .inr (.inr (.inr (.inr (fun _ => none)))))), (q_119, .inl (cy_120, 36, .inl (fun _ => 0)))]) H := hP
  have hD : va_D A ([(h, .inr (0, [.int 0, .int 0, .int 0, .int 0, .int 0, .int 0, .int 0, .int 0, .int 0, .int 0, .int 0, .int 0, .int 0, .int 0, .int 0, .int 0, .ref q_117, .ref q_119])), (q_117, .inl (cy_118, 36, .inr (.inr (.inr (.inr (fun _ => none)))))), (q_119, .inl (cy_120, 36, .inl (fun _ => 0)))]) := hD
  have hP := hP.sub (ws' := [(h, .inr (0, [.int 0, .int 0, .int 0, .int 0, .int 0, .int 0, .int 0, .int 0, .int 0, .int 0, .int 0, .int 0, .int 0, .int 0, .int 0, .int 0, .ref q_117, .ref q_119]))]) [0] rfl
  have hD := hD.sub (ws' := [(h, .inr (0, [.int 0, .int 0, .int 0, .int 0, .int 0, .int 0, .int 0, .int 0, .int 0, .int 0, .int 0, .int 0, .int 0, .int 0, .int 0, .int 0, .ref q_117, .ref q_119]))]) [0] (by decide) rfl
  refine W.widen (k := 2) (n := 72) (by omega) (by omega) ?_
  exact W.vret hx hb hr (fun t ht hW => ⟨⟨(q_117, q_119), rfl, True.intro, ⟨Nat.zero_le _, by rw [ht]; exact hP, va_K.moved hW.alike (hK.sub (tys' := []) [] rfl), hD⟩⟩, hS.F ht⟩) hS.2.2 dX0_init_101
set_option maxHeartbeats 4000000 in
set_option maxRecDepth 100000 in
theorem c_PS_init (l : Launch) (D : zG) (sz : Nat) (o : Nat) : Met l yX3_init wsX3_init ({ frames := 2, cells := 187, slots := 5700, locals := 60 }) (zPcK D [] ([(o, .inr (3, [.null, .int 0, .int 0, .int 0, .int 0, .int 0, .null, .int 0, .int 0, .int 0, .null, .null, .null, .int 0]))]) sz ((fun U => va_AO RX0 U ∧ va_AO RX1 U ∧ va_AO RX2 U ∧ va_Nw (.methodLinkNest RX3 51 yX0_init "PalletStack") U)) [.ref o]) (va_Qv (fun (u : (Nat → Nat) × (Nat → ClassId)) => True) (zB D (va_A ([(o, .inr (3, [.null, .int 0, .int 0, .int 0, .int 0, .int 0, .null, .int 0, .int 0, .int 0, .null, .null, .null, .int 0]))]) sz) (fun u => [((u.2 0), .object RX1), ((u.2 1), .int), ((u.2 2), .object RX2)]) 0 (fun u => [(o, .inr (3, [.ref (u.1 0), .int 0, .int 20, .int 60, .int 2000, .int 0, .ref (u.1 1), .int 0, .int 0, .int 0, .ref (u.1 2), .ref (u.1 3), .ref (u.1 4), .int 0])), ((u.1 0), .inl ((u.2 0), 10, .inr (.inr (.inr (.inr (fun _ => none)))))), ((u.1 2), .inl ((u.2 1), 120, .inl (fun _ => 0))), ((u.1 3), .inr (0, [.int 0, .int 0, .int 0, .int 0, .int 0, .int 0, .int 0, .int 0, .int 0, .int 0, .int 0, .int 0, .int 0, .int 0, .int 0, .int 0, .ref (u.1 5), .ref (u.1 6)])), ((u.1 4), .inl ((u.2 2), 20, .inr (.inr (.inr (.inr (fun _ => none))))))])) (va_A ([(o, .inr (3, [.null, .int 0, .int 0, .int 0, .int 0, .int 0, .null, .int 0, .int 0, .int 0, .null, .null, .null, .int 0]))]) sz)) 187 5700 (va_A ([(o, .inr (3, [.null, .int 0, .int 0, .int 0, .int 0, .int 0, .null, .int 0, .int 0, .int 0, .null, .null, .null, .int 0]))]) sz) := by
  refine Met.ofW (cc := cX3_init) (maxL := 2) (ret := none) (by decide) rfl ?_
  intro p e s m args below meth c s₁ B hml hv
  obtain ⟨rfl, ⟨hsz, hP, hK, hD0⟩, hKx⟩ := hv
  have hx := B.exec
  have hb := B.bytes
  have hr := B.returns
  have hts := atoms_spec (ws := wsX3_init) B.pre
  have hown : s.vm.findClass RX3 = some m.cls := findClass_of_methodNamed B.named
  have hlocks := B.notSynchronized
  have hin : meth.name = "<init>" := (name_of_methodNamed B.named B.method).1
  subst hsz
  have hD := hD0.self (sz := s.heap.size)
  generalize hAe : va_A ([(o, .inr (3, [.null, .int 0, .int 0, .int 0, .int 0, .int 0, .null, .int 0, .int 0, .int 0, .null, .null, .null, .int 0]))]) s.heap.size = A at hD ⊢
  have hA : ∀ q : Nat, s.heap.size ≤ q → A q := fun q h => by rw [← hAe]; exact Or.inr h
  have hS : va_S A s.heap s.heap [] := va_S.rf
  have hl := lv_entry ([.ref o]) (n := 2) (Nat.le_of_ble_eq_true rfl)
  rw [lg_entry_eq]
  generalize (lg_sl ([.ref o]) ++ List.replicate (2 - (lg_sl ([.ref o])).length) Slot.unset).toArray = ls at hl ⊢
  have hl : lv_has ls 2 [(0, .ref o)] := hl
  have hP : va_P D vwCl ([(o, .inr (3, [.null, .int 0, .int 0, .int 0, .int 0, .int 0, .null, .int 0, .int 0, .int 0, .null, .null, .null, .int 0]))]) s.heap := hP
  generalize hRe : (headSpec _ _).room = R
  have hRf : R.frames = 2 := by rw [← hRe]; rfl
  have hRc : R.cells = 187 := by rw [← hRe]; rfl
  have hRs : R.slots = 5700 := by rw [← hRe]; rfl
  have hRl : R.locals = 60 := by rw [← hRe]; rfl
  clear hRe
  obtain ⟨hK0, hK1, hK2, hKn⟩ := hKx
  refine lv_aload_n hx hb dX3_init_0 rfl (lv_at hl 0 rfl) ?_
  refine W.objInit hx hb hown (hts (.methodLink RX3 3 objectInit) (List.mem_of_getElem? (i := 1) (by rfl))) (hts (.instanceMethod objectInit) (List.mem_of_getElem? (i := 2) (by rfl))) (hts (.code objectInit ⟨#[0xb1]⟩ 1 none) (List.mem_of_getElem? (i := 3) (by rfl))) rfl (by rw [hml]; exact hl.1) rfl dX3_init_1 (by rw [hRf]; exact Nat.le_of_ble_eq_true rfl) (by rw [hRl]; exact Nat.le_of_ble_eq_true rfl) ?_
  refine W.eq (g2 := F0 m 4 ls []) rfl ?_
  refine lv_aload_n hx hb dX3_init_4 rfl (lv_at hl 0 rfl) ?_
  refine lv_bipush (v := 10) hx hb dX3_init_5 (by decide) ?_
  refine va_newq (C := RX1) (N' := 10) hx hb hown (hts (.classLink RX3 9 RX1) (List.mem_of_getElem? (i := 4) (by rfl))) (hK1) hK hP hD hS hA (by decide) rfl (Nat.le_of_ble_eq_true rfl) (by omega) (by omega) dX3_init_7 (fun q_122 cy_123 H hK hP hD hS => ?_)
  have hP : va_P D vwCl ([(o, .inr (3, [.null, .int 0, .int 0, .int 0, .int 0, .int 0, .null, .int 0, .int 0, .int 0, .null, .null, .null, .int 0])), (q_122, .inl (cy_123, 10, .inr (.inr (.inr (.inr (fun _ => none))))))]) H := hP
  have hD : va_D A ([(o, .inr (3, [.null, .int 0, .int 0, .int 0, .int 0, .int 0, .null, .int 0, .int 0, .int 0, .null, .null, .null, .int 0])), (q_122, .inl (cy_123, 10, .inr (.inr (.inr (.inr (fun _ => none))))))]) := hD
  refine va_putF (D := D) (ci := 3) (v := .ref q_122) (ty := .array (.object "PalletStack$Kind")) (C := RX3) (T := TX3) (N := 14) hx hb hts (fun _ h9 => List.mem_cons_of_mem _ (List.mem_append_left _ (List.mem_append_right _ h9))) tyX3 tyX3_ok nmX3 hown hK hP hD hS 0 rfl rfl 0 (by decide) (hts (.fieldLink RX3 11 "PalletStack" "kinds" "[LPalletStack$Kind;") (List.mem_of_getElem? (i := 5) (by rfl))) (fun _ h9 => h9) rfl hin rfl (by decide +kernel) rfl rfl (Nat.le_of_ble_eq_true rfl) dX3_init_10 (fun H locs hP hD hS => ?_)
  have hP : va_P D vwCl ([(o, .inr (3, [.ref q_122, .int 0, .int 0, .int 0, .int 0, .int 0, .null, .int 0, .int 0, .int 0, .null, .null, .null, .int 0])), (q_122, .inl (cy_123, 10, .inr (.inr (.inr (.inr (fun _ => none))))))]) H := hP
  have hD : va_D A ([(o, .inr (3, [.ref q_122, .int 0, .int 0, .int 0, .int 0, .int 0, .null, .int 0, .int 0, .int 0, .null, .null, .null, .int 0])), (q_122, .inl (cy_123, 10, .inr (.inr (.inr (.inr (fun _ => none))))))]) := hD
  refine lv_aload_n hx hb dX3_init_13 rfl (lv_at hl 0 rfl) ?_
  refine lv_iconst (v := 0) hx hb dX3_init_14 (by decide) ?_
  refine va_put (D := D) (ci := 3) (v := .int 0) (ty := .int) (C := RX3) (T := TX3) (N := 14) hx hb hts (fun _ h9 => List.mem_cons_of_mem _ (List.mem_append_left _ (List.mem_append_right _ h9))) tyX3 tyX3_ok nmX3 hown hK hP hD hS 0 rfl rfl 1 (by decide) (hts (.fieldLink RX3 15 "PalletStack" "kindCount" "I") (List.mem_of_getElem? (i := 6) (by rfl))) (fun _ h9 => h9) rfl (by decide +kernel) rfl rfl (Nat.le_of_ble_eq_true rfl) dX3_init_15 (fun H locs hP hD hS => ?_)
  have hP : va_P D vwCl ([(o, .inr (3, [.ref q_122, .int 0, .int 0, .int 0, .int 0, .int 0, .null, .int 0, .int 0, .int 0, .null, .null, .null, .int 0])), (q_122, .inl (cy_123, 10, .inr (.inr (.inr (.inr (fun _ => none))))))]) H := hP
  have hD : va_D A ([(o, .inr (3, [.ref q_122, .int 0, .int 0, .int 0, .int 0, .int 0, .null, .int 0, .int 0, .int 0, .null, .null, .null, .int 0])), (q_122, .inl (cy_123, 10, .inr (.inr (.inr (.inr (fun _ => none))))))]) := hD
  refine lv_aload_n hx hb dX3_init_18 rfl (lv_at hl 0 rfl) ?_
  refine lv_bipush (v := 20) hx hb dX3_init_19 (by decide) ?_
  refine va_put (D := D) (ci := 3) (v := .int 20) (ty := .int) (C := RX3) (T := TX3) (N := 14) hx hb hts (fun _ h9 => List.mem_cons_of_mem _ (List.mem_append_left _ (List.mem_append_right _ h9))) tyX3 tyX3_ok nmX3 hown hK hP hD hS 0 rfl rfl 2 (by decide) (hts (.fieldLink RX3 19 "PalletStack" "greatestHeight" "I") (List.mem_of_getElem? (i := 7) (by rfl))) (fun _ h9 => h9) rfl (by decide +kernel) rfl rfl (Nat.le_of_ble_eq_true rfl) dX3_init_21 (fun H locs hP hD hS => ?_)
  have hP : va_P D vwCl ([(o, .inr (3, [.ref q_122, .int 0, .int 20, .int 0, .int 0, .int 0, .null, .int 0, .int 0, .int 0, .null, .null, .null, .int 0])), (q_122, .inl (cy_123, 10, .inr (.inr (.inr (.inr (fun _ => none))))))]) H := hP
  have hD : va_D A ([(o, .inr (3, [.ref q_122, .int 0, .int 20, .int 0, .int 0, .int 0, .null, .int 0, .int 0, .int 0, .null, .null, .null, .int 0])), (q_122, .inl (cy_123, 10, .inr (.inr (.inr (.inr (fun _ => none))))))]) := hD
  refine lv_aload_n hx hb dX3_init_24 rfl (lv_at hl 0 rfl) ?_
  refine lv_bipush (v := 60) hx hb dX3_init_25 (by decide) ?_
  refine va_put (D := D) (ci := 3) (v := .int 60) (ty := .int) (C := RX3) (T := TX3) (N := 14) hx hb hts (fun _ h9 => List.mem_cons_of_mem _ (List.mem_append_left _ (List.mem_append_right _ h9))) tyX3 tyX3_ok nmX3 hown hK hP hD hS 0 rfl rfl 3 (by decide) (hts (.fieldLink RX3 22 "PalletStack" "support" "I") (List.mem_of_getElem? (i := 8) (by rfl))) (fun _ h9 => h9) rfl (by decide +kernel) rfl rfl (Nat.le_of_ble_eq_true rfl) dX3_init_27 (fun H locs hP hD hS => ?_)
  have hP : va_P D vwCl ([(o, .inr (3, [.ref q_122, .int 0, .int 20, .int 60, .int 0, .int 0, .null, .int 0, .int 0, .int 0, .null, .null, .null, .int 0])), (q_122, .inl (cy_123, 10, .inr (.inr (.inr (.inr (fun _ => none))))))]) H := hP
  have hD : va_D A ([(o, .inr (3, [.ref q_122, .int 0, .int 20, .int 60, .int 0, .int 0, .null, .int 0, .int 0, .int 0, .null, .null, .null, .int 0])), (q_122, .inl (cy_123, 10, .inr (.inr (.inr (.inr (fun _ => none))))))]) := hD
  refine lv_aload_n hx hb dX3_init_30 rfl (lv_at hl 0 rfl) ?_
  refine lv_sipush (v := 2000) hx hb dX3_init_31 (by decide) ?_
  refine va_put (D := D) (ci := 3) (v := .int 2000) (ty := .int) (C := RX3) (T := TX3) (N := 14) hx hb hts (fun _ h9 => List.mem_cons_of_mem _ (List.mem_append_left _ (List.mem_append_right _ h9))) tyX3 tyX3_ok nmX3 hown hK hP hD hS 0 rfl rfl 4 (by decide) (hts (.fieldLink RX3 25 "PalletStack" "limit" "I") (List.mem_of_getElem? (i := 9) (by rfl))) (fun _ h9 => h9) rfl (by decide +kernel) rfl rfl (Nat.le_of_ble_eq_true rfl) dX3_init_34 (fun H locs hP hD hS => ?_)
  have hP : va_P D vwCl ([(o, .inr (3, [.ref q_122, .int 0, .int 20, .int 60, .int 2000, .int 0, .null, .int 0, .int 0, .int 0, .null, .null, .null, .int 0])), (q_122, .inl (cy_123, 10, .inr (.inr (.inr (.inr (fun _ => none))))))]) H := hP
  have hD : va_D A ([(o, .inr (3, [.ref q_122, .int 0, .int 20, .int 60, .int 2000, .int 0, .null, .int 0, .int 0, .int 0, .null, .null, .null, .int 0])), (q_122, .inl (cy_123, 10, .inr (.inr (.inr (.inr (fun _ => none))))))]) := hD
  refine lv_aload_n hx hb dX3_init_37 rfl (lv_at hl 0 rfl) ?_
  refine lv_iconst (v := 0) hx hb dX3_init_38 (by decide) ?_
  refine va_put (D := D) (ci := 3) (v := .int 0) (ty := .boolean) (C := RX3) (T := TX3) (N := 14) hx hb hts (fun _ h9 => List.mem_cons_of_mem _ (List.mem_append_left _ (List.mem_append_right _ h9))) tyX3 tyX3_ok nmX3 hown hK hP hD hS 0 rfl rfl 5 (by decide) (hts (.fieldLink RX3 28 "PalletStack" "hasCornerRule" "Z") (List.mem_of_getElem? (i := 10) (by rfl))) (fun _ h9 => h9) rfl (by decide +kernel) rfl rfl (Nat.le_of_ble_eq_true rfl) dX3_init_39 (fun H locs hP hD hS => ?_)
  have hP : va_P D vwCl ([(o, .inr (3, [.ref q_122, .int 0, .int 20, .int 60, .int 2000, .int 0, .null, .int 0, .int 0, .int 0, .null, .null, .null, .int 0])), (q_122, .inl (cy_123, 10, .inr (.inr (.inr (.inr (fun _ => none))))))]) H := hP
  have hD : va_D A ([(o, .inr (3, [.ref q_122, .int 0, .int 20, .int 60, .int 2000, .int 0, .null, .int 0, .int 0, .int 0, .null, .null, .null, .int 0])), (q_122, .inl (cy_123, 10, .inr (.inr (.inr (.inr (fun _ => none))))))]) := hD
  refine lv_aload_n hx hb dX3_init_42 rfl (lv_at hl 0 rfl) ?_
  refine lv_bipush (v := 60) hx hb dX3_init_43 (by decide) ?_
  refine va_newq (C := RX0) (N' := 60) hx hb hown (hts (.classLink RX3 32 RX0) (List.mem_of_getElem? (i := 11) (by rfl))) (hK0) hK hP hD hS hA (by decide) rfl (Nat.le_of_ble_eq_true rfl) (by omega) (by omega) dX3_init_45 (fun q_124 cy_125 H hK hP hD hS => ?_)
  have hP : va_P D vwCl ([(o, .inr (3, [.ref q_122, .int 0, .int 20, .int 60, .int 2000, .int 0, .null, .int 0, .int 0, .int 0, .null, .null, .null, .int 0])), (q_122, .inl (cy_123, 10, .inr (.inr (.inr (.inr (fun _ => none)))))), (q_124, .inl (cy_125, 60, .inr (.inr (.inr (.inr (fun _ => none))))))]) H := hP
  have hD : va_D A ([(o, .inr (3, [.ref q_122, .int 0, .int 20, .int 60, .int 2000, .int 0, .null, .int 0, .int 0, .int 0, .null, .null, .null, .int 0])), (q_122, .inl (cy_123, 10, .inr (.inr (.inr (.inr (fun _ => none)))))), (q_124, .inl (cy_125, 60, .inr (.inr (.inr (.inr (fun _ => none))))))]) := hD
  refine va_putF (D := D) (ci := 3) (v := .ref q_124) (ty := .array (.object "PalletStack$Item")) (C := RX3) (T := TX3) (N := 14) hx hb hts (fun _ h9 => List.mem_cons_of_mem _ (List.mem_append_left _ (List.mem_append_right _ h9))) tyX3 tyX3_ok nmX3 hown hK hP hD hS 0 rfl rfl 6 (by decide) (hts (.fieldLink RX3 34 "PalletStack" "items" "[LPalletStack$Item;") (List.mem_of_getElem? (i := 12) (by rfl))) (fun _ h9 => h9) rfl hin rfl (by decide +kernel) rfl rfl (Nat.le_of_ble_eq_true rfl) dX3_init_48 (fun H locs hP hD hS => ?_)
  have hP : va_P D vwCl ([(o, .inr (3, [.ref q_122, .int 0, .int 20, .int 60, .int 2000, .int 0, .ref q_124, .int 0, .int 0, .int 0, .null, .null, .null, .int 0])), (q_122, .inl (cy_123, 10, .inr (.inr (.inr (.inr (fun _ => none)))))), (q_124, .inl (cy_125, 60, .inr (.inr (.inr (.inr (fun _ => none))))))]) H := hP
  have hD : va_D A ([(o, .inr (3, [.ref q_122, .int 0, .int 20, .int 60, .int 2000, .int 0, .ref q_124, .int 0, .int 0, .int 0, .null, .null, .null, .int 0])), (q_122, .inl (cy_123, 10, .inr (.inr (.inr (.inr (fun _ => none)))))), (q_124, .inl (cy_125, 60, .inr (.inr (.inr (.inr (fun _ => none))))))]) := hD
  refine lv_aload_n hx hb dX3_init_51 rfl (lv_at hl 0 rfl) ?_
  refine lv_iconst (v := 0) hx hb dX3_init_52 (by decide) ?_
  refine va_put (D := D) (ci := 3) (v := .int 0) (ty := .int) (C := RX3) (T := TX3) (N := 14) hx hb hts (fun _ h9 => List.mem_cons_of_mem _ (List.mem_append_left _ (List.mem_append_right _ h9))) tyX3 tyX3_ok nmX3 hown hK hP hD hS 0 rfl rfl 7 (by decide) (hts (.fieldLink RX3 38 "PalletStack" "cameCount" "I") (List.mem_of_getElem? (i := 13) (by rfl))) (fun _ h9 => h9) rfl (by decide +kernel) rfl rfl (Nat.le_of_ble_eq_true rfl) dX3_init_53 (fun H locs hP hD hS => ?_)
  have hP : va_P D vwCl ([(o, .inr (3, [.ref q_122, .int 0, .int 20, .int 60, .int 2000, .int 0, .ref q_124, .int 0, .int 0, .int 0, .null, .null, .null, .int 0])), (q_122, .inl (cy_123, 10, .inr (.inr (.inr (.inr (fun _ => none)))))), (q_124, .inl (cy_125, 60, .inr (.inr (.inr (.inr (fun _ => none))))))]) H := hP
  have hD : va_D A ([(o, .inr (3, [.ref q_122, .int 0, .int 20, .int 60, .int 2000, .int 0, .ref q_124, .int 0, .int 0, .int 0, .null, .null, .null, .int 0])), (q_122, .inl (cy_123, 10, .inr (.inr (.inr (.inr (fun _ => none)))))), (q_124, .inl (cy_125, 60, .inr (.inr (.inr (.inr (fun _ => none))))))]) := hD
  refine lv_aload_n hx hb dX3_init_56 rfl (lv_at hl 0 rfl) ?_
  refine lv_iconst (v := 0) hx hb dX3_init_57 (by decide) ?_
  refine va_put (D := D) (ci := 3) (v := .int 0) (ty := .int) (C := RX3) (T := TX3) (N := 14) hx hb hts (fun _ h9 => List.mem_cons_of_mem _ (List.mem_append_left _ (List.mem_append_right _ h9))) tyX3 tyX3_ok nmX3 hown hK hP hD hS 0 rfl rfl 8 (by decide) (hts (.fieldLink RX3 41 "PalletStack" "onPalletCount" "I") (List.mem_of_getElem? (i := 14) (by rfl))) (fun _ h9 => h9) rfl (by decide +kernel) rfl rfl (Nat.le_of_ble_eq_true rfl) dX3_init_58 (fun H locs hP hD hS => ?_)
  have hP : va_P D vwCl ([(o, .inr (3, [.ref q_122, .int 0, .int 20, .int 60, .int 2000, .int 0, .ref q_124, .int 0, .int 0, .int 0, .null, .null, .null, .int 0])), (q_122, .inl (cy_123, 10, .inr (.inr (.inr (.inr (fun _ => none)))))), (q_124, .inl (cy_125, 60, .inr (.inr (.inr (.inr (fun _ => none))))))]) H := hP
  have hD : va_D A ([(o, .inr (3, [.ref q_122, .int 0, .int 20, .int 60, .int 2000, .int 0, .ref q_124, .int 0, .int 0, .int 0, .null, .null, .null, .int 0])), (q_122, .inl (cy_123, 10, .inr (.inr (.inr (.inr (fun _ => none)))))), (q_124, .inl (cy_125, 60, .inr (.inr (.inr (.inr (fun _ => none))))))]) := hD
  refine lv_aload_n hx hb dX3_init_61 rfl (lv_at hl 0 rfl) ?_
  refine lv_iconst (v := 0) hx hb dX3_init_62 (by decide) ?_
  refine va_put (D := D) (ci := 3) (v := .int 0) (ty := .int) (C := RX3) (T := TX3) (N := 14) hx hb hts (fun _ h9 => List.mem_cons_of_mem _ (List.mem_append_left _ (List.mem_append_right _ h9))) tyX3 tyX3_ok nmX3 hown hK hP hD hS 0 rfl rfl 9 (by decide) (hts (.fieldLink RX3 44 "PalletStack" "weightOnPallet" "I") (List.mem_of_getElem? (i := 15) (by rfl))) (fun _ h9 => h9) rfl (by decide +kernel) rfl rfl (Nat.le_of_ble_eq_true rfl) dX3_init_63 (fun H locs hP hD hS => ?_)
  have hP : va_P D vwCl ([(o, .inr (3, [.ref q_122, .int 0, .int 20, .int 60, .int 2000, .int 0, .ref q_124, .int 0, .int 0, .int 0, .null, .null, .null, .int 0])), (q_122, .inl (cy_123, 10, .inr (.inr (.inr (.inr (fun _ => none)))))), (q_124, .inl (cy_125, 60, .inr (.inr (.inr (.inr (fun _ => none))))))]) H := hP
  have hD : va_D A ([(o, .inr (3, [.ref q_122, .int 0, .int 20, .int 60, .int 2000, .int 0, .ref q_124, .int 0, .int 0, .int 0, .null, .null, .null, .int 0])), (q_122, .inl (cy_123, 10, .inr (.inr (.inr (.inr (fun _ => none)))))), (q_124, .inl (cy_125, 60, .inr (.inr (.inr (.inr (fun _ => none))))))]) := hD
  refine lv_aload_n hx hb dX3_init_66 rfl (lv_at hl 0 rfl) ?_
  refine lv_bipush (v := 120) hx hb dX3_init_67 (by decide) ?_
  refine znewa (atype := .int) (ty := .int) (N' := 120) (a0 := (120, .inl (fun _ => 0))) hx hb (hts (.arrayClass .int) (List.mem_of_getElem? (i := 16) (by rfl))) rfl hK hP hD hS hA (fun _ => rfl) (by decide) rfl (Nat.le_of_ble_eq_true rfl) (by omega) (by omega) dX3_init_69 (fun q_126 cy_127 H hz_128 hK hP hD hS => ?_)
  have hP : va_P D vwCl ([(o, .inr (3, [.ref q_122, .int 0, .int 20, .int 60, .int 2000, .int 0, .ref q_124, .int 0, .int 0, .int 0, .null, .null, .null, .int 0])), (q_122, .inl (cy_123, 10, .inr (.inr (.inr (.inr (fun _ => none)))))), (q_124, .inl (cy_125, 60, .inr (.inr (.inr (.inr (fun _ => none)))))), (q_126, .inl (cy_127, 120, .inl (fun _ => 0)))]) H := hP
  have hD : va_D A ([(o, .inr (3, [.ref q_122, .int 0, .int 20, .int 60, .int 2000, .int 0, .ref q_124, .int 0, .int 0, .int 0, .null, .null, .null, .int 0])), (q_122, .inl (cy_123, 10, .inr (.inr (.inr (.inr (fun _ => none)))))), (q_124, .inl (cy_125, 60, .inr (.inr (.inr (.inr (fun _ => none)))))), (q_126, .inl (cy_127, 120, .inl (fun _ => 0)))]) := hD
  refine va_putF (D := D) (ci := 3) (v := .ref q_126) (ty := .array .int) (C := RX3) (T := TX3) (N := 14) hx hb hts (fun _ h9 => List.mem_cons_of_mem _ (List.mem_append_left _ (List.mem_append_right _ h9))) tyX3 tyX3_ok nmX3 hown hK hP hD hS 0 rfl rfl 10 (by decide) (hts (.fieldLink RX3 47 "PalletStack" "tops" "[I") (List.mem_of_getElem? (i := 17) (by rfl))) (fun _ h9 => h9) rfl hin rfl (by decide +kernel) rfl rfl (Nat.le_of_ble_eq_true rfl) dX3_init_71 (fun H locs hP hD hS => ?_)
  have hP : va_P D vwCl ([(o, .inr (3, [.ref q_122, .int 0, .int 20, .int 60, .int 2000, .int 0, .ref q_124, .int 0, .int 0, .int 0, .ref q_126, .null, .null, .int 0])), (q_122, .inl (cy_123, 10, .inr (.inr (.inr (.inr (fun _ => none)))))), (q_124, .inl (cy_125, 60, .inr (.inr (.inr (.inr (fun _ => none)))))), (q_126, .inl (cy_127, 120, .inl (fun _ => 0)))]) H := hP
  have hD : va_D A ([(o, .inr (3, [.ref q_122, .int 0, .int 20, .int 60, .int 2000, .int 0, .ref q_124, .int 0, .int 0, .int 0, .ref q_126, .null, .null, .int 0])), (q_122, .inl (cy_123, 10, .inr (.inr (.inr (.inr (fun _ => none)))))), (q_124, .inl (cy_125, 60, .inr (.inr (.inr (.inr (fun _ => none)))))), (q_126, .inl (cy_127, 120, .inl (fun _ => 0)))]) := hD
  refine lv_aload_n hx hb dX3_init_74 rfl (lv_at hl 0 rfl) ?_
  refine va_new (D := D) (ci := 0) (fs := [.int 0, .int 0, .int 0, .int 0, .int 0, .int 0, .int 0, .int 0, .int 0, .int 0, .int 0, .int 0, .int 0, .int 0, .int 0, .int 0, .null, .null]) (C := RX0) (T := TX0) (N := 18) hx hb hts (fun _ h9 => List.mem_cons_of_mem _ (List.mem_append_right _ h9)) tyX0 tyX0_ok hown (hts (.classLink RX3 32 RX0) (List.mem_of_getElem? (i := 11) (by rfl))) (hts (.instantiable RX0 18) (List.mem_of_getElem? (i := 18) (by rfl))) (hts (.initialized RX0) (List.mem_of_getElem? (i := 19) (by rfl))) hK hP hD hS hA rfl (fun j hj => by rcases (show j = 0 ∨ j = 1 ∨ j = 2 ∨ j = 3 ∨ j = 4 ∨ j = 5 ∨ j = 6 ∨ j = 7 ∨ j = 8 ∨ j = 9 ∨ j = 10 ∨ j = 11 ∨ j = 12 ∨ j = 13 ∨ j = 14 ∨ j = 15 ∨ j = 16 ∨ j = 17 by omega) with rfl | rfl | rfl | rfl | rfl | rfl | rfl | rfl | rfl | rfl | rfl | rfl | rfl | rfl | rfl | rfl | rfl | rfl <;> rfl) (by omega) (by omega) dX3_init_75 (fun q_129 H hP hD hS => ?_)
  have hP : va_P D vwCl ([(o, .inr (3, [.ref q_122, .int 0, .int 20, .int 60, .int 2000, .int 0, .ref q_124, .int 0, .int 0, .int 0, .ref q_126, .null, .null, .int 0])), (q_122, .inl (cy_123, 10, .inr (.inr (.inr (.inr (fun _ => none)))))), (q_124, .inl (cy_125, 60, .inr (.inr (.inr (.inr (fun _ => none)))))), (q_126, .inl (cy_127, 120, .inl (fun _ => 0))), (q_129, .inr (0, [.int 0, .int 0, .int 0, .int 0, .int 0, .int 0, .int 0, .int 0, .int 0, .int 0, .int 0, .int 0, .int 0, .int 0, .int 0, .int 0, .null, .null]))]) H := hP
  have hD : va_D A ([(o, .inr (3, [.ref q_122, .int 0, .int 20, .int 60, .int 2000, .int 0, .ref q_124, .int 0, .int 0, .int 0, .ref q_126, .null, .null, .int 0])), (q_122, .inl (cy_123, 10, .inr (.inr (.inr (.inr (fun _ => none)))))), (q_124, .inl (cy_125, 60, .inr (.inr (.inr (.inr (fun _ => none)))))), (q_126, .inl (cy_127, 120, .inl (fun _ => 0))), (q_129, .inr (0, [.int 0, .int 0, .int 0, .int 0, .int 0, .int 0, .int 0, .int 0, .int 0, .int 0, .int 0, .int 0, .int 0, .int 0, .int 0, .int 0, .null, .null]))]) := hD
  refine lv_dup hx hb dX3_init_78 rfl ?_
  refine zcallvINK (As := []) (rest := [.ref q_129, .ref o]) (wc := [(q_129, .inr (0, [.int 0, .int 0, .int 0, .int 0, .int 0, .int 0, .int 0, .int 0, .int 0, .int 0, .int 0, .int 0, .int 0, .int 0, .int 0, .int 0, .null, .null]))]) (wr := [(o, .inr (3, [.ref q_122, .int 0, .int 20, .int 60, .int 2000, .int 0, .ref q_124, .int 0, .int 0, .int 0, .ref q_126, .null, .null, .int 0])), (q_122, .inl (cy_123, 10, .inr (.inr (.inr (.inr (fun _ => none)))))), (q_124, .inl (cy_125, 60, .inr (.inr (.inr (.inr (fun _ => none)))))), (q_126, .inl (cy_127, 120, .inl (fun _ => 0)))]) ⟨hx, hb, hml, hown, hts⟩ (c_Item_init l D _ q_129) (⟨va_cnB (host := "PalletStack") 0 hts gX3_init_X0_init_n51 rfl rfl rfl (hKn) (hts (.initialized RX0) (List.mem_of_getElem? (i := 19) (by rfl))) (by decide +kernel) ⟨by rw [hRf]; exact Nat.le_of_ble_eq_true rfl, by rw [hRl]; exact Nat.le_of_ble_eq_true rfl⟩, rfl, (hts (.instanceMethod yX0_init) (List.mem_of_getElem? (i := 24) (by rfl)))⟩) (fun _ U _ _ h => h.moved (Vm.Alike.refl U.vm)) (fun U hW => hK0.moved hW.alike) hK hP hD hS hA [4] [0, 1, 2, 3] rfl (by decide) rfl (by decide) (by decide) [] rfl rfl hl.1 rfl (Nat.le_of_ble_eq_true rfl) dX3_init_79 ⟨by omega, by omega⟩ (fun u_131 H locs hwu_131 hnu_131 hzu_131 hK hP hD hS => ?_)
  have hK : va_K D vwCl [(cy_123, .object RX1), (cy_125, .object RX0), (cy_127, .int)] s := hK
  have hP : va_P D vwCl ([(o, .inr (3, [.ref q_122, .int 0, .int 20, .int 60, .int 2000, .int 0, .ref q_124, .int 0, .int 0, .int 0, .ref q_126, .null, .null, .int 0])), (q_122, .inl (cy_123, 10, .inr (.inr (.inr (.inr (fun _ => none)))))), (q_124, .inl (cy_125, 60, .inr (.inr (.inr (.inr (fun _ => none)))))), (q_126, .inl (cy_127, 120, .inl (fun _ => 0))), (q_129, .inr (0, [.int 0, .int 0, .int 0, .int 0, .int 0, .int 0, .int 0, .int 0, .int 0, .int 0, .int 0, .int 0, .int 0, .int 0, .int 0, .int 0, .ref u_131.1, .ref u_131.2]))]) H := hP
  have hD : va_D A ([(o, .inr (3, [.ref q_122, .int 0, .int 20, .int 60, .int 2000, .int 0, .ref q_124, .int 0, .int 0, .int 0, .ref q_126, .null, .null, .int 0])), (q_122, .inl (cy_123, 10, .inr (.inr (.inr (.inr (fun _ => none)))))), (q_124, .inl (cy_125, 60, .inr (.inr (.inr (.inr (fun _ => none)))))), (q_126, .inl (cy_127, 120, .inl (fun _ => 0))), (q_129, .inr (0, [.int 0, .int 0, .int 0, .int 0, .int 0, .int 0, .int 0, .int 0, .int 0, .int 0, .int 0, .int 0, .int 0, .int 0, .int 0, .int 0, .ref u_131.1, .ref u_131.2]))]) := hD
  refine va_put (D := D) (ci := 3) (v := .ref q_129) (ty := .object "PalletStack$Item") (C := RX3) (T := TX3) (N := 14) hx hb hts (fun _ h9 => List.mem_cons_of_mem _ (List.mem_append_left _ (List.mem_append_right _ h9))) tyX3 tyX3_ok nmX3 hown hK hP hD hS 0 rfl rfl 11 (by decide) (hts (.fieldLink RX3 52 "PalletStack" "trial" "LPalletStack$Item;") (List.mem_of_getElem? (i := 20) (by rfl))) (fun _ h9 => h9) rfl (by decide +kernel) rfl rfl (Nat.le_of_ble_eq_true rfl) dX3_init_82 (fun H locs hP hD hS => ?_)
  have hP : va_P D vwCl ([(o, .inr (3, [.ref q_122, .int 0, .int 20, .int 60, .int 2000, .int 0, .ref q_124, .int 0, .int 0, .int 0, .ref q_126, .ref q_129, .null, .int 0])), (q_122, .inl (cy_123, 10, .inr (.inr (.inr (.inr (fun _ => none)))))), (q_124, .inl (cy_125, 60, .inr (.inr (.inr (.inr (fun _ => none)))))), (q_126, .inl (cy_127, 120, .inl (fun _ => 0))), (q_129, .inr (0, [.int 0, .int 0, .int 0, .int 0, .int 0, .int 0, .int 0, .int 0, .int 0, .int 0, .int 0, .int 0, .int 0, .int 0, .int 0, .int 0, .ref u_131.1, .ref u_131.2]))]) H := hP
  have hD : va_D A ([(o, .inr (3, [.ref q_122, .int 0, .int 20, .int 60, .int 2000, .int 0, .ref q_124, .int 0, .int 0, .int 0, .ref q_126, .ref q_129, .null, .int 0])), (q_122, .inl (cy_123, 10, .inr (.inr (.inr (.inr (fun _ => none)))))), (q_124, .inl (cy_125, 60, .inr (.inr (.inr (.inr (fun _ => none)))))), (q_126, .inl (cy_127, 120, .inl (fun _ => 0))), (q_129, .inr (0, [.int 0, .int 0, .int 0, .int 0, .int 0, .int 0, .int 0, .int 0, .int 0, .int 0, .int 0, .int 0, .int 0, .int 0, .int 0, .int 0, .ref u_131.1, .ref u_131.2]))]) := hD
  refine lv_aload_n hx hb dX3_init_85 rfl (lv_at hl 0 rfl) ?_
  refine lv_bipush (v := 20) hx hb dX3_init_86 (by decide) ?_
  refine va_newq (C := RX2) (N' := 20) hx hb hown (hts (.classLink RX3 56 RX2) (List.mem_of_getElem? (i := 21) (by rfl))) (hK2) hK hP hD hS hA (by decide) rfl (Nat.le_of_ble_eq_true rfl) (by omega) (by omega) dX3_init_88 (fun q_132 cy_133 H hK hP hD hS => ?_)
  have hP : va_P D vwCl ([(o, .inr (3, [.ref q_122, .int 0, .int 20, .int 60, .int 2000, .int 0, .ref q_124, .int 0, .int 0, .int 0, .ref q_126, .ref q_129, .null, .int 0])), (q_122, .inl (cy_123, 10, .inr (.inr (.inr (.inr (fun _ => none)))))), (q_124, .inl (cy_125, 60, .inr (.inr (.inr (.inr (fun _ => none)))))), (q_126, .inl (cy_127, 120, .inl (fun _ => 0))), (q_129, .inr (0, [.int 0, .int 0, .int 0, .int 0, .int 0, .int 0, .int 0, .int 0, .int 0, .int 0, .int 0, .int 0, .int 0, .int 0, .int 0, .int 0, .ref u_131.1, .ref u_131.2])), (q_132, .inl (cy_133, 20, .inr (.inr (.inr (.inr (fun _ => none))))))]) H := hP
  have hD : va_D A ([(o, .inr (3, [.ref q_122, .int 0, .int 20, .int 60, .int 2000, .int 0, .ref q_124, .int 0, .int 0, .int 0, .ref q_126, .ref q_129, .null, .int 0])), (q_122, .inl (cy_123, 10, .inr (.inr (.inr (.inr (fun _ => none)))))), (q_124, .inl (cy_125, 60, .inr (.inr (.inr (.inr (fun _ => none)))))), (q_126, .inl (cy_127, 120, .inl (fun _ => 0))), (q_129, .inr (0, [.int 0, .int 0, .int 0, .int 0, .int 0, .int 0, .int 0, .int 0, .int 0, .int 0, .int 0, .int 0, .int 0, .int 0, .int 0, .int 0, .ref u_131.1, .ref u_131.2])), (q_132, .inl (cy_133, 20, .inr (.inr (.inr (.inr (fun _ => none))))))]) := hD
  refine va_putF (D := D) (ci := 3) (v := .ref q_132) (ty := .array (.object "PalletStack$Line")) (C := RX3) (T := TX3) (N := 14) hx hb hts (fun _ h9 => List.mem_cons_of_mem _ (List.mem_append_left _ (List.mem_append_right _ h9))) tyX3 tyX3_ok nmX3 hown hK hP hD hS 0 rfl rfl 12 (by decide) (hts (.fieldLink RX3 58 "PalletStack" "lines" "[LPalletStack$Line;") (List.mem_of_getElem? (i := 22) (by rfl))) (fun _ h9 => h9) rfl hin rfl (by decide +kernel) rfl rfl (Nat.le_of_ble_eq_true rfl) dX3_init_91 (fun H locs hP hD hS => ?_)
  have hP : va_P D vwCl ([(o, .inr (3, [.ref q_122, .int 0, .int 20, .int 60, .int 2000, .int 0, .ref q_124, .int 0, .int 0, .int 0, .ref q_126, .ref q_129, .ref q_132, .int 0])), (q_122, .inl (cy_123, 10, .inr (.inr (.inr (.inr (fun _ => none)))))), (q_124, .inl (cy_125, 60, .inr (.inr (.inr (.inr (fun _ => none)))))), (q_126, .inl (cy_127, 120, .inl (fun _ => 0))), (q_129, .inr (0, [.int 0, .int 0, .int 0, .int 0, .int 0, .int 0, .int 0, .int 0, .int 0, .int 0, .int 0, .int 0, .int 0, .int 0, .int 0, .int 0, .ref u_131.1, .ref u_131.2])), (q_132, .inl (cy_133, 20, .inr (.inr (.inr (.inr (fun _ => none))))))]) H := hP
  have hD : va_D A ([(o, .inr (3, [.ref q_122, .int 0, .int 20, .int 60, .int 2000, .int 0, .ref q_124, .int 0, .int 0, .int 0, .ref q_126, .ref q_129, .ref q_132, .int 0])), (q_122, .inl (cy_123, 10, .inr (.inr (.inr (.inr (fun _ => none)))))), (q_124, .inl (cy_125, 60, .inr (.inr (.inr (.inr (fun _ => none)))))), (q_126, .inl (cy_127, 120, .inl (fun _ => 0))), (q_129, .inr (0, [.int 0, .int 0, .int 0, .int 0, .int 0, .int 0, .int 0, .int 0, .int 0, .int 0, .int 0, .int 0, .int 0, .int 0, .int 0, .int 0, .ref u_131.1, .ref u_131.2])), (q_132, .inl (cy_133, 20, .inr (.inr (.inr (.inr (fun _ => none))))))]) := hD
  refine lv_aload_n hx hb dX3_init_94 rfl (lv_at hl 0 rfl) ?_
  refine lv_iconst (v := 0) hx hb dX3_init_95 (by decide) ?_
  refine va_put (D := D) (ci := 3) (v := .int 0) (ty := .int) (C := RX3) (T := TX3) (N := 14) hx hb hts (fun _ h9 => List.mem_cons_of_mem _ (List.mem_append_left _ (List.mem_append_right _ h9))) tyX3 tyX3_ok nmX3 hown hK hP hD hS 0 rfl rfl 13 (by decide) (hts (.fieldLink RX3 62 "PalletStack" "lineCount" "I") (List.mem_of_getElem? (i := 23) (by rfl))) (fun _ h9 => h9) rfl (by decide +kernel) rfl rfl (Nat.le_of_ble_eq_true rfl) dX3_init_96 (fun H locs hP hD hS => ?_)
  have hP : va_P D vwCl ([(o, .inr (3, [.ref q_122, .int 0, .int 20, .int 60, .int 2000, .int 0, .ref q_124, .int 0, .int 0, .int 0, .ref q_126, .ref q_129, .ref q_132, .int 0])), (q_122, .inl (cy_123, 10, .inr (.inr (.inr (.inr (fun _ => none)))))), (q_124, .inl (cy_125, 60, .inr (.inr (.inr (.inr (fun _ => none)))))), (q_126, .inl (cy_127, 120, .inl (fun _ => 0))), (q_129, .inr (0, [.int 0, .int 0, .int 0, .int 0, .int 0, .int 0, .int 0, .int 0, .int 0, .int 0, .int 0, .int 0, .int 0, .int 0, .int 0, .int 0, .ref u_131.1, .ref u_131.2])), (q_132, .inl (cy_133, 20, .inr (.inr (.inr (.inr (fun _ => none))))))]) H := hP
  have hD : va_D A ([(o, .inr (3, [.ref q_122, .int 0, .int 20, .int 60, .int 2000, .int 0, .ref q_124, .int 0, .int 0, .int 0, .ref q_126, .ref q_129, .ref q_132, .int 0])), (q_122, .inl (cy_123, 10, .inr (.inr (.inr (.inr (fun _ => none)))))), (q_124, .inl (cy_125, 60, .inr (.inr (.inr (.inr (fun _ => none)))))), (q_126, .inl (cy_127, 120, .inl (fun _ => 0))), (q_129, .inr (0, [.int 0, .int 0, .int 0, .int 0, .int 0, .int 0, .int 0, .int 0, .int 0, .int 0, .int 0, .int 0, .int 0, .int 0, .int 0, .int 0, .ref u_131.1, .ref u_131.2])), (q_132, .inl (cy_133, 20, .inr (.inr (.inr (.inr (fun _ => none))))))]) := hD
  refine lv_iconst (v := 0) hx hb dX3_init_99 (by decide) ?_
  refine lv_istore_n (lv' := [(1, .int 0), (0, .ref o)]) hx hb dX3_init_100 rfl hl (by decide) rfl (fun ls hl => ?_)
  generalize hQe : MQ _ _ _ _ _ _ _ = Q
  have hP := hP.sub (ws' := [(o, .inr (3, [.ref q_122, .int 0, .int 20, .int 60, .int 2000, .int 0, .ref q_124, .int 0, .int 0, .int 0, .ref q_126, .ref q_129, .ref q_132, .int 0])), (q_122, .inl (cy_123, 10, .inr (.inr (.inr (.inr (fun _ => none)))))), (q_124, .inl (cy_125, 60, .inr (.inr (.inr (.inr (fun _ => none)))))), (q_126, .inl (cy_127, 120, .inl (fun _ => 0))), (q_129, .inr (0, [.int 0, .int 0, .int 0, .int 0, .int 0, .int 0, .int 0, .int 0, .int 0, .int 0, .int 0, .int 0, .int 0, .int 0, .int 0, .int 0, .ref u_131.1, .ref u_131.2])), (q_132, .inl (cy_133, 20, .inr (.inr (.inr (.inr (fun _ => none))))))]) [0, 1, 2, 3, 4, 5] rfl
  have hD := hD.sub (ws' := [(o, .inr (3, [.ref q_122, .int 0, .int 20, .int 60, .int 2000, .int 0, .ref q_124, .int 0, .int 0, .int 0, .ref q_126, .ref q_129, .ref q_132, .int 0])), (q_122, .inl (cy_123, 10, .inr (.inr (.inr (.inr (fun _ => none)))))), (q_124, .inl (cy_125, 60, .inr (.inr (.inr (.inr (fun _ => none)))))), (q_126, .inl (cy_127, 120, .inl (fun _ => 0))), (q_129, .inr (0, [.int 0, .int 0, .int 0, .int 0, .int 0, .int 0, .int 0, .int 0, .int 0, .int 0, .int 0, .int 0, .int 0, .int 0, .int 0, .int 0, .ref u_131.1, .ref u_131.2])), (q_132, .inl (cy_133, 20, .inr (.inr (.inr (.inr (fun _ => none))))))]) [0, 1, 2, 3, 4, 5] (by decide) rfl
  have hl := lv_sub hl (l' := [(1, .int 0), (0, .ref o)]) [0, 1] rfl
  refine W.widen (k := 7 + 3 * 0) (n := 300 + 90 * 0) (by omega) (by omega) ?_
  have loop : ∀ (k i : Nat), i + k = 60 → ∀ (f : Nat → Option Nat) (H : Heap) (locs : List Loc) (ls : Array Slot), va_P D vwCl ([(o, .inr (3, [.ref q_122, .int 0, .int 20, .int 60, .int 2000, .int 0, .ref q_124, .int 0, .int 0, .int 0, .ref q_126, .ref q_129, .ref q_132, .int 0])), (q_122, .inl (cy_123, 10, .inr (.inr (.inr (.inr (fun _ => none)))))), (q_124, .inl (cy_125, 60, .inr (.inr (.inr (.inr (f)))))), (q_126, .inl (cy_127, 120, .inl (fun _ => 0))), (q_129, .inr (0, [.int 0, .int 0, .int 0, .int 0, .int 0, .int 0, .int 0, .int 0, .int 0, .int 0, .int 0, .int 0, .int 0, .int 0, .int 0, .int 0, .ref u_131.1, .ref u_131.2])), (q_132, .inl (cy_133, 20, .inr (.inr (.inr (.inr (fun _ => none))))))]) H → va_D A ([(o, .inr (3, [.ref q_122, .int 0, .int 20, .int 60, .int 2000, .int 0, .ref q_124, .int 0, .int 0, .int 0, .ref q_126, .ref q_129, .ref q_132, .int 0])), (q_122, .inl (cy_123, 10, .inr (.inr (.inr (.inr (fun _ => none)))))), (q_124, .inl (cy_125, 60, .inr (.inr (.inr (.inr (f)))))), (q_126, .inl (cy_127, 120, .inl (fun _ => 0))), (q_129, .inr (0, [.int 0, .int 0, .int 0, .int 0, .int 0, .int 0, .int 0, .int 0, .int 0, .int 0, .int 0, .int 0, .int 0, .int 0, .int 0, .int 0, .ref u_131.1, .ref u_131.2])), (q_132, .inl (cy_133, 20, .inr (.inr (.inr (.inr (fun _ => none))))))]) → va_S A s.heap H locs → lv_has ls 2 [(1, .int (nI i)), (0, .ref o)] → W p l e R s m ([.ref o] : List Value).toArray below meth c H locs (7 + 3 * i) (300 + 90 * i) Q (F0 m 101 ls []) := by
    intro k
    induction k with
    | zero =>
      intro i hi f H locs ls hP hD hS hl
      obtain rfl : i = 60 := by omega
      refine lv_iload_n hx hb dX3_init_101 rfl (lv_at hl 0 rfl) ?_
      refine lv_bipush (v := 60) hx hb dX3_init_102 (by decide) ?_
      refine lv_icmp_ge (tgt := 126) hx hb dX3_init_104 (by decide) (fun c_134 => ?_) (fun c_134 => absurd (by decide) c_134)
      refine W.widen (k := 187) (n := 5700) (by omega) (by omega) ?_
      have hP := hP.sub (ws' := [(o, .inr (3, [.ref q_122, .int 0, .int 20, .int 60, .int 2000, .int 0, .ref q_124, .int 0, .int 0, .int 0, .ref q_126, .ref q_129, .ref q_132, .int 0])), (q_122, .inl (cy_123, 10, .inr (.inr (.inr (.inr (fun _ => none)))))), (q_126, .inl (cy_127, 120, .inl (fun _ => 0))), (q_129, .inr (0, [.int 0, .int 0, .int 0, .int 0, .int 0, .int 0, .int 0, .int 0, .int 0, .int 0, .int 0, .int 0, .int 0, .int 0, .int 0, .int 0, .ref u_131.1, .ref u_131.2])), (q_132, .inl (cy_133, 20, .inr (.inr (.inr (.inr (fun _ => none))))))]) [0, 1, 3, 4, 5] rfl
      have hD := hD.sub (ws' := [(o, .inr (3, [.ref q_122, .int 0, .int 20, .int 60, .int 2000, .int 0, .ref q_124, .int 0, .int 0, .int 0, .ref q_126, .ref q_129, .ref q_132, .int 0])), (q_122, .inl (cy_123, 10, .inr (.inr (.inr (.inr (fun _ => none)))))), (q_126, .inl (cy_127, 120, .inl (fun _ => 0))), (q_129, .inr (0, [.int 0, .int 0, .int 0, .int 0, .int 0, .int 0, .int 0, .int 0, .int 0, .int 0, .int 0, .int 0, .int 0, .int 0, .int 0, .int 0, .ref u_131.1, .ref u_131.2])), (q_132, .inl (cy_133, 20, .inr (.inr (.inr (.inr (fun _ => none))))))]) [0, 1, 3, 4, 5] (by decide) rfl
      rw [← hQe]
      exact W.vret hx hb hr (fun t ht hW => ⟨⟨(fun i => [q_122, q_124, q_126, q_129, q_132, u_131.1, u_131.2].getD i 0, fun i => [cy_123, cy_127, cy_133].getD i 0), rfl, True.intro, ⟨Nat.zero_le _, by rw [ht]; exact hP, va_K.moved hW.alike (hK.sub (tys' := [(cy_123, .object RX1), (cy_127, .int), (cy_133, .object RX2)]) [0, 2, 3] rfl), hD⟩⟩, hS.F ht⟩) hS.2.2 dX3_init_126
    | succ k ih =>
      intro i hi f H locs ls hP hD hS hl
      refine lv_iload_n hx hb dX3_init_101 rfl (lv_at hl 0 rfl) ?_
      refine lv_bipush (v := 60) hx hb dX3_init_102 (by decide) ?_
      refine lv_icmp_ge (tgt := 126) hx hb dX3_init_104 (by decide) (fun c_135 => absurd c_135 (nI_ge (b := 60) (by omega) (by decide))) (fun c_135 => ?_)
      refine lv_aload_n hx hb dX3_init_107 rfl (lv_at hl 1 rfl) ?_
      refine va_get (D := D) (ci := 3) (v := .ref q_124) (C := RX3) (T := TX3) (N := 14) hx hb hts (fun _ h9 => List.mem_cons_of_mem _ (List.mem_append_left _ (List.mem_append_right _ h9))) hown hK hP 0 rfl rfl 6 (by decide) (hts (.fieldLink RX3 34 "PalletStack" "items" "[LPalletStack$Item;") (List.mem_of_getElem? (i := 12) (by rfl))) (fun _ h9 => h9) rfl dX3_init_108 ?_
      refine lv_iload_n hx hb dX3_init_111 rfl (lv_at hl 0 rfl) ?_
      refine va_new (D := D) (ci := 0) (fs := [.int 0, .int 0, .int 0, .int 0, .int 0, .int 0, .int 0, .int 0, .int 0, .int 0, .int 0, .int 0, .int 0, .int 0, .int 0, .int 0, .null, .null]) (C := RX0) (T := TX0) (N := 18) hx hb hts (fun _ h9 => List.mem_cons_of_mem _ (List.mem_append_right _ h9)) tyX0 tyX0_ok hown (hts (.classLink RX3 32 RX0) (List.mem_of_getElem? (i := 11) (by rfl))) (hts (.instantiable RX0 18) (List.mem_of_getElem? (i := 18) (by rfl))) (hts (.initialized RX0) (List.mem_of_getElem? (i := 19) (by rfl))) hK hP hD hS hA rfl (fun j hj => by rcases (show j = 0 ∨ j = 1 ∨ j = 2 ∨ j = 3 ∨ j = 4 ∨ j = 5 ∨ j = 6 ∨ j = 7 ∨ j = 8 ∨ j = 9 ∨ j = 10 ∨ j = 11 ∨ j = 12 ∨ j = 13 ∨ j = 14 ∨ j = 15 ∨ j = 16 ∨ j = 17 by omega) with rfl | rfl | rfl | rfl | rfl | rfl | rfl | rfl | rfl | rfl | rfl | rfl | rfl | rfl | rfl | rfl | rfl | rfl <;> rfl) (by omega) (by omega) dX3_init_112 (fun q_136 H hP hD hS => ?_)
      have hP : va_P D vwCl ([(o, .inr (3, [.ref q_122, .int 0, .int 20, .int 60, .int 2000, .int 0, .ref q_124, .int 0, .int 0, .int 0, .ref q_126, .ref q_129, .ref q_132, .int 0])), (q_122, .inl (cy_123, 10, .inr (.inr (.inr (.inr (fun _ => none)))))), (q_124, .inl (cy_125, 60, .inr (.inr (.inr (.inr (f)))))), (q_126, .inl (cy_127, 120, .inl (fun _ => 0))), (q_129, .inr (0, [.int 0, .int 0, .int 0, .int 0, .int 0, .int 0, .int 0, .int 0, .int 0, .int 0, .int 0, .int 0, .int 0, .int 0, .int 0, .int 0, .ref u_131.1, .ref u_131.2])), (q_132, .inl (cy_133, 20, .inr (.inr (.inr (.inr (fun _ => none)))))), (q_136, .inr (0, [.int 0, .int 0, .int 0, .int 0, .int 0, .int 0, .int 0, .int 0, .int 0, .int 0, .int 0, .int 0, .int 0, .int 0, .int 0, .int 0, .null, .null]))]) H := hP
      have hD : va_D A ([(o, .inr (3, [.ref q_122, .int 0, .int 20, .int 60, .int 2000, .int 0, .ref q_124, .int 0, .int 0, .int 0, .ref q_126, .ref q_129, .ref q_132, .int 0])), (q_122, .inl (cy_123, 10, .inr (.inr (.inr (.inr (fun _ => none)))))), (q_124, .inl (cy_125, 60, .inr (.inr (.inr (.inr (f)))))), (q_126, .inl (cy_127, 120, .inl (fun _ => 0))), (q_129, .inr (0, [.int 0, .int 0, .int 0, .int 0, .int 0, .int 0, .int 0, .int 0, .int 0, .int 0, .int 0, .int 0, .int 0, .int 0, .int 0, .int 0, .ref u_131.1, .ref u_131.2])), (q_132, .inl (cy_133, 20, .inr (.inr (.inr (.inr (fun _ => none)))))), (q_136, .inr (0, [.int 0, .int 0, .int 0, .int 0, .int 0, .int 0, .int 0, .int 0, .int 0, .int 0, .int 0, .int 0, .int 0, .int 0, .int 0, .int 0, .null, .null]))]) := hD
      refine lv_dup hx hb dX3_init_115 rfl ?_
      refine zcallvINK (As := []) (rest := [.ref q_136, .int (nI i), .ref q_124]) (wc := [(q_136, .inr (0, [.int 0, .int 0, .int 0, .int 0, .int 0, .int 0, .int 0, .int 0, .int 0, .int 0, .int 0, .int 0, .int 0, .int 0, .int 0, .int 0, .null, .null]))]) (wr := [(o, .inr (3, [.ref q_122, .int 0, .int 20, .int 60, .int 2000, .int 0, .ref q_124, .int 0, .int 0, .int 0, .ref q_126, .ref q_129, .ref q_132, .int 0])), (q_122, .inl (cy_123, 10, .inr (.inr (.inr (.inr (fun _ => none)))))), (q_124, .inl (cy_125, 60, .inr (.inr (.inr (.inr (f)))))), (q_126, .inl (cy_127, 120, .inl (fun _ => 0))), (q_129, .inr (0, [.int 0, .int 0, .int 0, .int 0, .int 0, .int 0, .int 0, .int 0, .int 0, .int 0, .int 0, .int 0, .int 0, .int 0, .int 0, .int 0, .ref u_131.1, .ref u_131.2])), (q_132, .inl (cy_133, 20, .inr (.inr (.inr (.inr (fun _ => none))))))]) ⟨hx, hb, hml, hown, hts⟩ (c_Item_init l D _ q_136) (⟨va_cnB (host := "PalletStack") 0 hts gX3_init_X0_init_n51 rfl rfl rfl (hKn) (hts (.initialized RX0) (List.mem_of_getElem? (i := 19) (by rfl))) (by decide +kernel) ⟨by rw [hRf]; exact Nat.le_of_ble_eq_true rfl, by rw [hRl]; exact Nat.le_of_ble_eq_true rfl⟩, rfl, (hts (.instanceMethod yX0_init) (List.mem_of_getElem? (i := 24) (by rfl)))⟩) (fun _ U _ _ h => h.moved (Vm.Alike.refl U.vm)) (fun U hW => hK0.moved hW.alike) hK hP hD hS hA [6] [0, 1, 2, 3, 4, 5] rfl (by decide) rfl (by decide) (by decide) [] rfl rfl hl.1 rfl (Nat.le_of_ble_eq_true rfl) dX3_init_116 ⟨by omega, by omega⟩ (fun u_138 H locs hwu_138 hnu_138 hzu_138 hK hP hD hS => ?_)
      have hK : va_K D vwCl [(cy_123, .object RX1), (cy_125, .object RX0), (cy_127, .int), (cy_133, .object RX2)] s := hK
      have hP : va_P D vwCl ([(o, .inr (3, [.ref q_122, .int 0, .int 20, .int 60, .int 2000, .int 0, .ref q_124, .int 0, .int 0, .int 0, .ref q_126, .ref q_129, .ref q_132, .int 0])), (q_122, .inl (cy_123, 10, .inr (.inr (.inr (.inr (fun _ => none)))))), (q_124, .inl (cy_125, 60, .inr (.inr (.inr (.inr (f)))))), (q_126, .inl (cy_127, 120, .inl (fun _ => 0))), (q_129, .inr (0, [.int 0, .int 0, .int 0, .int 0, .int 0, .int 0, .int 0, .int 0, .int 0, .int 0, .int 0, .int 0, .int 0, .int 0, .int 0, .int 0, .ref u_131.1, .ref u_131.2])), (q_132, .inl (cy_133, 20, .inr (.inr (.inr (.inr (fun _ => none)))))), (q_136, .inr (0, [.int 0, .int 0, .int 0, .int 0, .int 0, .int 0, .int 0, .int 0, .int 0, .int 0, .int 0, .int 0, .int 0, .int 0, .int 0, .int 0, .ref u_138.1, .ref u_138.2]))]) H := hP
      have hD : va_D A ([(o, .inr (3, [.ref q_122, .int 0, .int 20, .int 60, .int 2000, .int 0, .ref q_124, .int 0, .int 0, .int 0, .ref q_126, .ref q_129, .ref q_132, .int 0])), (q_122, .inl (cy_123, 10, .inr (.inr (.inr (.inr (fun _ => none)))))), (q_124, .inl (cy_125, 60, .inr (.inr (.inr (.inr (f)))))), (q_126, .inl (cy_127, 120, .inl (fun _ => 0))), (q_129, .inr (0, [.int 0, .int 0, .int 0, .int 0, .int 0, .int 0, .int 0, .int 0, .int 0, .int 0, .int 0, .int 0, .int 0, .int 0, .int 0, .int 0, .ref u_131.1, .ref u_131.2])), (q_132, .inl (cy_133, 20, .inr (.inr (.inr (.inr (fun _ => none)))))), (q_136, .inr (0, [.int 0, .int 0, .int 0, .int 0, .int 0, .int 0, .int 0, .int 0, .int 0, .int 0, .int 0, .int 0, .int 0, .int 0, .int 0, .int 0, .ref u_138.1, .ref u_138.2]))]) := hD
      refine va_astq hx hb hK hP hD hS 2 1 6 0 rfl rfl rfl rfl (vp_in_nI (N := 60) (by omega) (by decide)) dX3_init_119 (fun H locs hP hD hS => ?_)
      have hP : va_P D vwCl ([(o, .inr (3, [.ref q_122, .int 0, .int 20, .int 60, .int 2000, .int 0, .ref q_124, .int 0, .int 0, .int 0, .ref q_126, .ref q_129, .ref q_132, .int 0])), (q_122, .inl (cy_123, 10, .inr (.inr (.inr (.inr (fun _ => none)))))), (q_124, .inl (cy_125, 60, .inr (.inr (.inr (.inr (va_up (f) ((nI i) : Int32).toNatClampNeg (some q_136))))))), (q_126, .inl (cy_127, 120, .inl (fun _ => 0))), (q_129, .inr (0, [.int 0, .int 0, .int 0, .int 0, .int 0, .int 0, .int 0, .int 0, .int 0, .int 0, .int 0, .int 0, .int 0, .int 0, .int 0, .int 0, .ref u_131.1, .ref u_131.2])), (q_132, .inl (cy_133, 20, .inr (.inr (.inr (.inr (fun _ => none)))))), (q_136, .inr (0, [.int 0, .int 0, .int 0, .int 0, .int 0, .int 0, .int 0, .int 0, .int 0, .int 0, .int 0, .int 0, .int 0, .int 0, .int 0, .int 0, .ref u_138.1, .ref u_138.2]))]) H := hP
      have hD : va_D A ([(o, .inr (3, [.ref q_122, .int 0, .int 20, .int 60, .int 2000, .int 0, .ref q_124, .int 0, .int 0, .int 0, .ref q_126, .ref q_129, .ref q_132, .int 0])), (q_122, .inl (cy_123, 10, .inr (.inr (.inr (.inr (fun _ => none)))))), (q_124, .inl (cy_125, 60, .inr (.inr (.inr (.inr (va_up (f) ((nI i) : Int32).toNatClampNeg (some q_136))))))), (q_126, .inl (cy_127, 120, .inl (fun _ => 0))), (q_129, .inr (0, [.int 0, .int 0, .int 0, .int 0, .int 0, .int 0, .int 0, .int 0, .int 0, .int 0, .int 0, .int 0, .int 0, .int 0, .int 0, .int 0, .ref u_131.1, .ref u_131.2])), (q_132, .inl (cy_133, 20, .inr (.inr (.inr (.inr (fun _ => none)))))), (q_136, .inr (0, [.int 0, .int 0, .int 0, .int 0, .int 0, .int 0, .int 0, .int 0, .int 0, .int 0, .int 0, .int 0, .int 0, .int 0, .int 0, .int 0, .ref u_138.1, .ref u_138.2]))]) := hD
      refine lv_iinc (v := (nI (i + 1))) (lv' := [(1, .int (nI (i + 1))), (0, .ref o)]) hx hb dX3_init_120 hl (k := 0) rfl (nI_1 i) (by decide) rfl (fun ls hl => ?_)
      refine lv_goto (tgt := 101) hx hb dX3_init_123 (by decide) ?_
      have hl := lv_sub hl (l' := [(1, .int (nI (i + 1))), (0, .ref o)]) [0, 1] rfl
      have hP := hP.sub (ws' := [(o, .inr (3, [.ref q_122, .int 0, .int 20, .int 60, .int 2000, .int 0, .ref q_124, .int 0, .int 0, .int 0, .ref q_126, .ref q_129, .ref q_132, .int 0])), (q_122, .inl (cy_123, 10, .inr (.inr (.inr (.inr (fun _ => none)))))), (q_124, .inl (cy_125, 60, .inr (.inr (.inr (.inr (va_up (f) ((nI i) : Int32).toNatClampNeg (some q_136))))))), (q_126, .inl (cy_127, 120, .inl (fun _ => 0))), (q_129, .inr (0, [.int 0, .int 0, .int 0, .int 0, .int 0, .int 0, .int 0, .int 0, .int 0, .int 0, .int 0, .int 0, .int 0, .int 0, .int 0, .int 0, .ref u_131.1, .ref u_131.2])), (q_132, .inl (cy_133, 20, .inr (.inr (.inr (.inr (fun _ => none))))))]) [0, 1, 2, 3, 4, 5] rfl
      have hD := hD.sub (ws' := [(o, .inr (3, [.ref q_122, .int 0, .int 20, .int 60, .int 2000, .int 0, .ref q_124, .int 0, .int 0, .int 0, .ref q_126, .ref q_129, .ref q_132, .int 0])), (q_122, .inl (cy_123, 10, .inr (.inr (.inr (.inr (fun _ => none)))))), (q_124, .inl (cy_125, 60, .inr (.inr (.inr (.inr (va_up (f) ((nI i) : Int32).toNatClampNeg (some q_136))))))), (q_126, .inl (cy_127, 120, .inl (fun _ => 0))), (q_129, .inr (0, [.int 0, .int 0, .int 0, .int 0, .int 0, .int 0, .int 0, .int 0, .int 0, .int 0, .int 0, .int 0, .int 0, .int 0, .int 0, .int 0, .ref u_131.1, .ref u_131.2])), (q_132, .inl (cy_133, 20, .inr (.inr (.inr (.inr (fun _ => none))))))]) [0, 1, 2, 3, 4, 5] (by decide) rfl
      refine W.widen (k := (7 + 3 * (i + 1))) (n := (300 + 90 * (i + 1))) (by omega) (by omega) ?_
      exact ih (i + 1) (by omega) _ H locs ls hP hD hS hl
  exact loop 60 0 rfl _ H locs ls hP hD hS hl
set_option maxHeartbeats 4000000 in
set_option maxRecDepth 100000 in
theorem c_kindOf (l : Launch) (D : zG) (sz : Nat) (o kA iA tA tr lA n : Nat) (cK : ClassId) (g : Nat → Option Nat) (k0 : Nat) (hg : g 0 = some k0) : Met l yX3_kindOf wsX3_kindOf ({ frames := 1, cells := 0, slots := 0, locals := 22 }) (zPc D [(cK, .object RX1)] ([(o, .inr (3, [.ref kA, .int 1, .int 1, .int 0, .int 1, .int 0, .ref iA, .int 0, .int 0, .int 0, .ref tA, .ref tr, .ref lA, .int (nI n)])), (kA, .inl (cK, 10, .inr (.inr (.inr (.inr (g))))))]) sz [.ref o, .int 0]) (va_Sq (fun r => r = some k0)) 0 0 (fun _ => False) := by
  refine Met.ofW (cc := cX3_kindOf) (maxL := 2) (ret := (some (.object "PalletStack$Kind"))) (by decide) rfl ?_
  intro p e s m args below meth c s₁ B hml hv
  obtain ⟨rfl, hsz, hP, hK, hD0⟩ := hv
  have hx := B.exec
  have hb := B.bytes
  have hr := B.returns
  have hts := atoms_spec (ws := wsX3_kindOf) B.pre
  have hown : s.vm.findClass RX3 = some m.cls := findClass_of_methodNamed B.named
  have hlocks := B.notSynchronized
  subst hsz
  have hD := hD0
  generalize hAe : (fun _ : Nat => True) = A at hD
  have hl := lv_entry ([.ref o, .int 0]) (n := 2) (Nat.le_of_ble_eq_true rfl)
  rw [lg_entry_eq]
  generalize (lg_sl ([.ref o, .int 0]) ++ List.replicate (2 - (lg_sl ([.ref o, .int 0])).length) Slot.unset).toArray = ls at hl ⊢
  have hl : lv_has ls 2 [(0, .ref o), (1, .int 0)] := hl
  have hP : va_P D vwCl ([(o, .inr (3, [.ref kA, .int 1, .int 1, .int 0, .int 1, .int 0, .ref iA, .int 0, .int 0, .int 0, .ref tA, .ref tr, .ref lA, .int (nI n)])), (kA, .inl (cK, 10, .inr (.inr (.inr (.inr (g))))))]) s.heap := hP
  generalize hRe : (headSpec _ _).room = R
  have hRf : R.frames = 1 := by rw [← hRe]; rfl
  have hRc : R.cells = 0 := by rw [← hRe]; rfl
  have hRs : R.slots = 0 := by rw [← hRe]; rfl
  have hRl : R.locals = 22 := by rw [← hRe]; rfl
  clear hRe
  refine lv_iload_n hx hb dX3_kindOf_0 rfl (lv_at hl 1 rfl) ?_
  refine lv_iconst (v := 0) hx hb dX3_kindOf_1 (by decide) ?_
  refine lv_bipush (v := 9) hx hb dX3_kindOf_2 (by decide) ?_
  refine zrdS (As := [.int 0, .int 0, .int 9]) (rest := []) (wc := []) ⟨hx, hb, hml, hown, hts⟩ (c_isWithin l D _ 0 0 9) (va_cwS 3 hts gX3_kindOf_X3_isWithin rfl rfl rfl (by decide +kernel) ⟨by rw [hRf]; exact Nat.le_of_ble_eq_true rfl, by rw [hRl]; exact Nat.le_of_ble_eq_true rfl⟩) hK hP hD [] rfl (by decide) [] rfl rfl hl.1 rfl (Nat.le_of_ble_eq_true rfl) dX3_kindOf_4 ⟨by omega, by omega⟩ (fun r_139 hr_139 => ?_)
  refine lv_topi (fun v_140 ev_140 => ?_)
  obtain rfl : v_140 = 1 := ev_140.trans (hr_139.trans (by decide))
  refine lv_if_eq (tgt := 27) hx hb dX3_kindOf_7 (by decide) (fun c_141 => absurd c_141 (by decide)) (fun c_141 => ?_)
  refine lv_iload_n hx hb dX3_kindOf_10 rfl (lv_at hl 1 rfl) ?_
  refine lv_aload_n hx hb dX3_kindOf_11 rfl (lv_at hl 0 rfl) ?_
  refine va_get (D := D) (ci := 3) (v := .int 1) (C := RX3) (T := TX3) (N := 14) hx hb hts (fun _ h9 => List.mem_cons_of_mem _ (List.mem_append_right _ h9)) hown hK hP 0 rfl rfl 1 (by decide) (hts (.fieldLink RX3 15 "PalletStack" "kindCount" "I") (List.mem_of_getElem? (i := 1) (by rfl))) (fun _ h9 => h9) rfl dX3_kindOf_12 ?_
  refine lv_icmp_ge (tgt := 27) hx hb dX3_kindOf_15 (by decide) (fun c_142 => absurd c_142 (by decide)) (fun c_142 => ?_)
  refine lv_aload_n hx hb dX3_kindOf_18 rfl (lv_at hl 0 rfl) ?_
  refine va_get (D := D) (ci := 3) (v := .ref kA) (C := RX3) (T := TX3) (N := 14) hx hb hts (fun _ h9 => List.mem_cons_of_mem _ (List.mem_append_right _ h9)) hown hK hP 0 rfl rfl 0 (by decide) (hts (.fieldLink RX3 11 "PalletStack" "kinds" "[LPalletStack$Kind;") (List.mem_of_getElem? (i := 2) (by rfl))) (fun _ h9 => h9) rfl dX3_kindOf_19 ?_
  refine lv_iload_n hx hb dX3_kindOf_22 rfl (lv_at hl 1 rfl) ?_
  refine va_aldq hx hb hK hP 1 0 rfl rfl (vp_in_nI (n := 0) (N := 10) (by decide) (by decide)) dX3_kindOf_23 ?_
  refine W.eq (g2 := F0 m 24 ls [.ref k0]) (by rw [show g (0 : Int32).toNatClampNeg = some k0 from hg]; rfl) ?_
  refine lv_goto (tgt := 28) hx hb dX3_kindOf_24 (by decide) ?_
  exact W.aret (v := .ref k0) hx hb hr (.inl ⟨_, rfl⟩) (.inr ⟨_, rfl⟩) (fun t ht hW => ⟨some k0, rfl, rfl, ht⟩) (fun _ h => by cases h) dX3_kindOf_28
set_option maxHeartbeats 4000000 in
set_option maxRecDepth 100000 in
theorem c_Line_init (l : Launch) (D : zG) (sz : Nat) (h k0 : Nat) : Met l yX2_init wsX2_init ({ frames := 1, cells := 0, slots := 0, locals := 16 }) (zPc D [] ([(h, .inr (2, [.null, .int 0, .int 0]))]) sz [.ref h, .ref k0, .int 1]) (va_Qv (fun (u : Unit) => True) (zB D (va_A ([(h, .inr (2, [.null, .int 0, .int 0]))]) sz) (fun _ => []) 0 (fun _ => [(h, .inr (2, [.ref k0, .int 1, .int 0]))])) (va_A ([(h, .inr (2, [.null, .int 0, .int 0]))]) sz)) 0 0 (va_A ([(h, .inr (2, [.null, .int 0, .int 0]))]) sz) := by
  refine Met.ofW (cc := cX2_init) (maxL := 3) (ret := none) (by decide) rfl ?_
  intro p e s m args below meth c s₁ B hml hv
  obtain ⟨rfl, hsz, hP, hK, hD0⟩ := hv
  have hx := B.exec
  have hb := B.bytes
  have hr := B.returns
  have hts := atoms_spec (ws := wsX2_init) B.pre
  have hown : s.vm.findClass RX2 = some m.cls := findClass_of_methodNamed B.named
  have hlocks := B.notSynchronized
  have hin : meth.name = "<init>" := (name_of_methodNamed B.named B.method).1
  subst hsz
  have hD := hD0.self (sz := s.heap.size)
  generalize hAe : va_A ([(h, .inr (2, [.null, .int 0, .int 0]))]) s.heap.size = A at hD ⊢
  have hA : ∀ q : Nat, s.heap.size ≤ q → A q := fun q h => by rw [← hAe]; exact Or.inr h
  have hS : va_S A s.heap s.heap [] := va_S.rf
  have hl := lv_entry ([.ref h, .ref k0, .int 1]) (n := 3) (Nat.le_of_ble_eq_true rfl)
  rw [lg_entry_eq]
  generalize (lg_sl ([.ref h, .ref k0, .int 1]) ++ List.replicate (3 - (lg_sl ([.ref h, .ref k0, .int 1])).length) Slot.unset).toArray = ls at hl ⊢
  have hl : lv_has ls 3 [(0, .ref h), (1, .ref k0), (2, .int 1)] := hl
  have hP : va_P D vwCl ([(h, .inr (2, [.null, .int 0, .int 0]))]) s.heap := hP
  generalize hRe : (headSpec _ _).room = R
  have hRf : R.frames = 1 := by rw [← hRe]; rfl
  have hRc : R.cells = 0 := by rw [← hRe]; rfl
  have hRs : R.slots = 0 := by rw [← hRe]; rfl
  have hRl : R.locals = 16 := by rw [← hRe]; rfl
  clear hRe
  refine lv_aload_n hx hb dX2_init_0 rfl (lv_at hl 0 rfl) ?_
  refine W.objInit hx hb hown (hts (.methodLink RX2 1 objectInit) (List.mem_of_getElem? (i := 1) (by rfl))) (hts (.instanceMethod objectInit) (List.mem_of_getElem? (i := 2) (by rfl))) (hts (.code objectInit ⟨#[0xb1]⟩ 1 none) (List.mem_of_getElem? (i := 3) (by rfl))) rfl (by rw [hml]; exact hl.1) rfl dX2_init_1 (by rw [hRf]; exact Nat.le_of_ble_eq_true rfl) (by rw [hRl]; exact Nat.le_of_ble_eq_true rfl) ?_
  refine W.eq (g2 := F0 m 4 ls []) rfl ?_
  refine lv_aload_n hx hb dX2_init_4 rfl (lv_at hl 0 rfl) ?_
  refine lv_iconst (v := 0) hx hb dX2_init_5 (by decide) ?_
  refine va_put (D := D) (ci := 2) (v := .int 0) (ty := .boolean) (C := RX2) (T := TX2) (N := 3) hx hb hts (fun _ h9 => List.mem_cons_of_mem _ (List.mem_append_right _ h9)) tyX2 tyX2_ok nmX2 hown hK hP hD hS 0 rfl rfl 2 (by decide) (hts (.fieldLink RX2 7 "PalletStack$Line" "isAside" "Z") (List.mem_of_getElem? (i := 4) (by rfl))) (fun _ h9 => h9) rfl (by decide +kernel) rfl rfl (Nat.le_of_ble_eq_true rfl) dX2_init_6 (fun H locs hP hD hS => ?_)
  have hP : va_P D vwCl ([(h, .inr (2, [.null, .int 0, .int 0]))]) H := hP
  have hD : va_D A ([(h, .inr (2, [.null, .int 0, .int 0]))]) := hD
  refine lv_aload_n hx hb dX2_init_9 rfl (lv_at hl 0 rfl) ?_
  refine lv_aload_n hx hb dX2_init_10 rfl (lv_at hl 1 rfl) ?_
  refine va_putF (D := D) (ci := 2) (v := .ref k0) (ty := .object "PalletStack$Kind") (C := RX2) (T := TX2) (N := 3) hx hb hts (fun _ h9 => List.mem_cons_of_mem _ (List.mem_append_right _ h9)) tyX2 tyX2_ok nmX2 hown hK hP hD hS 0 rfl rfl 0 (by decide) (hts (.fieldLink RX2 13 "PalletStack$Line" "kind" "LPalletStack$Kind;") (List.mem_of_getElem? (i := 5) (by rfl))) (fun _ h9 => h9) rfl hin rfl (by decide +kernel) rfl rfl (Nat.le_of_ble_eq_true rfl) dX2_init_11 (fun H locs hP hD hS => ?_)
  have hP : va_P D vwCl ([(h, .inr (2, [.ref k0, .int 0, .int 0]))]) H := hP
  have hD : va_D A ([(h, .inr (2, [.ref k0, .int 0, .int 0]))]) := hD
  refine lv_aload_n hx hb dX2_init_14 rfl (lv_at hl 0 rfl) ?_
  refine lv_iload_n hx hb dX2_init_15 rfl (lv_at hl 2 rfl) ?_
  refine va_put (D := D) (ci := 2) (v := .int 1) (ty := .int) (C := RX2) (T := TX2) (N := 3) hx hb hts (fun _ h9 => List.mem_cons_of_mem _ (List.mem_append_right _ h9)) tyX2 tyX2_ok nmX2 hown hK hP hD hS 0 rfl rfl 1 (by decide) (hts (.fieldLink RX2 17 "PalletStack$Line" "count" "I") (List.mem_of_getElem? (i := 6) (by rfl))) (fun _ h9 => h9) rfl (by decide +kernel) rfl rfl (Nat.le_of_ble_eq_true rfl) dX2_init_16 (fun H locs hP hD hS => ?_)
  have hP : va_P D vwCl ([(h, .inr (2, [.ref k0, .int 1, .int 0]))]) H := hP
  have hD : va_D A ([(h, .inr (2, [.ref k0, .int 1, .int 0]))]) := hD
  exact W.vret hx hb hr (fun t ht hW => ⟨⟨(), rfl, True.intro, ⟨Nat.zero_le _, by rw [ht]; exact hP, va_K.moved hW.alike (hK.sub (tys' := []) [] rfl), hD⟩⟩, hS.F ht⟩) hS.2.2 dX2_init_19
set_option maxHeartbeats 4000000 in
set_option maxRecDepth 100000 in
theorem c_addLine (l : Launch) (D : zG) (sz : Nat) (o kA iA tA tr lA n : Nat) (cK cL : ClassId) (g f : Nat → Option Nat) (k0 : Nat) (hg : g 0 = some k0) (hn : n < 20) : Met l yX3_addLine wsX3_addLine ({ frames := 2, cells := 1, slots := 3, locals := 45 }) (zPc D [(cK, .object RX1), (cL, .object RX2)] ([(o, .inr (3, [.ref kA, .int 1, .int 1, .int 0, .int 1, .int 0, .ref iA, .int 0, .int 0, .int 0, .ref tA, .ref tr, .ref lA, .int (nI n)])), (kA, .inl (cK, 10, .inr (.inr (.inr (.inr (g)))))), (lA, .inl (cL, 20, .inr (.inr (.inr (.inr (f)))))), (k0, .inr (1, [.int 0, .int 1, .int 1, .int 2, .int 1, .int 0, .int 1, .int 0]))]) sz [.ref o, .int 0, .int 1]) (va_Qi (fun (r : Int32) (u : Nat) => r = nI n) (zB D (va_A ([(o, .inr (3, [.ref kA, .int 1, .int 1, .int 0, .int 1, .int 0, .ref iA, .int 0, .int 0, .int 0, .ref tA, .ref tr, .ref lA, .int (nI n)])), (kA, .inl (cK, 10, .inr (.inr (.inr (.inr (g)))))), (lA, .inl (cL, 20, .inr (.inr (.inr (.inr (f)))))), (k0, .inr (1, [.int 0, .int 1, .int 1, .int 2, .int 1, .int 0, .int 1, .int 0]))]) sz) (fun _ => [(cK, .object RX1), (cL, .object RX2)]) 0 (fun u => [(o, .inr (3, [.ref kA, .int 1, .int 1, .int 0, .int 1, .int 0, .ref iA, .int 0, .int 0, .int 0, .ref tA, .ref tr, .ref lA, .int (nI (n + 1))])), (kA, .inl (cK, 10, .inr (.inr (.inr (.inr (g)))))), (lA, .inl (cL, 20, .inr (.inr (.inr (.inr (va_up f n (some u))))))), (k0, .inr (1, [.int 0, .int 1, .int 1, .int 2, .int 1, .int 0, .int 1, .int 0])), (u, .inr (2, [.ref k0, .int 1, .int 0]))])) (va_A ([(o, .inr (3, [.ref kA, .int 1, .int 1, .int 0, .int 1, .int 0, .ref iA, .int 0, .int 0, .int 0, .ref tA, .ref tr, .ref lA, .int (nI n)])), (kA, .inl (cK, 10, .inr (.inr (.inr (.inr (g)))))), (lA, .inl (cL, 20, .inr (.inr (.inr (.inr (f)))))), (k0, .inr (1, [.int 0, .int 1, .int 1, .int 2, .int 1, .int 0, .int 1, .int 0]))]) sz)) 1 3 (va_A ([(o, .inr (3, [.ref kA, .int 1, .int 1, .int 0, .int 1, .int 0, .ref iA, .int 0, .int 0, .int 0, .ref tA, .ref tr, .ref lA, .int (nI n)])), (kA, .inl (cK, 10, .inr (.inr (.inr (.inr (g)))))), (lA, .inl (cL, 20, .inr (.inr (.inr (.inr (f)))))), (k0, .inr (1, [.int 0, .int 1, .int 1, .int 2, .int 1, .int 0, .int 1, .int 0]))]) sz) := by
  refine Met.ofW (cc := cX3_addLine) (maxL := 5) (ret := (some .int)) (by decide) rfl ?_
  intro p e s m args below meth c s₁ B hml hv
  obtain ⟨rfl, hsz, hP, hK, hD0⟩ := hv
  have hx := B.exec
  have hb := B.bytes
  have hr := B.returns
  have hts := atoms_spec (ws := wsX3_addLine) B.pre
  have hown : s.vm.findClass RX3 = some m.cls := findClass_of_methodNamed B.named
  have hlocks := B.notSynchronized
  subst hsz
  have hD := hD0.self (sz := s.heap.size)
  generalize hAe : va_A ([(o, .inr (3, [.ref kA, .int 1, .int 1, .int 0, .int 1, .int 0, .ref iA, .int 0, .int 0, .int 0, .ref tA, .ref tr, .ref lA, .int (nI n)])), (kA, .inl (cK, 10, .inr (.inr (.inr (.inr (g)))))), (lA, .inl (cL, 20, .inr (.inr (.inr (.inr (f)))))), (k0, .inr (1, [.int 0, .int 1, .int 1, .int 2, .int 1, .int 0, .int 1, .int 0]))]) s.heap.size = A at hD ⊢
  have hA : ∀ q : Nat, s.heap.size ≤ q → A q := fun q h => by rw [← hAe]; exact Or.inr h
  have hS : va_S A s.heap s.heap [] := va_S.rf
  have hl := lv_entry ([.ref o, .int 0, .int 1]) (n := 5) (Nat.le_of_ble_eq_true rfl)
  rw [lg_entry_eq]
  generalize (lg_sl ([.ref o, .int 0, .int 1]) ++ List.replicate (5 - (lg_sl ([.ref o, .int 0, .int 1])).length) Slot.unset).toArray = ls at hl ⊢
  have hl : lv_has ls 5 [(0, .ref o), (1, .int 0), (2, .int 1)] := hl
  have hP : va_P D vwCl ([(o, .inr (3, [.ref kA, .int 1, .int 1, .int 0, .int 1, .int 0, .ref iA, .int 0, .int 0, .int 0, .ref tA, .ref tr, .ref lA, .int (nI n)])), (kA, .inl (cK, 10, .inr (.inr (.inr (.inr (g)))))), (lA, .inl (cL, 20, .inr (.inr (.inr (.inr (f)))))), (k0, .inr (1, [.int 0, .int 1, .int 1, .int 2, .int 1, .int 0, .int 1, .int 0]))]) s.heap := hP
  generalize hRe : (headSpec _ _).room = R
  have hRf : R.frames = 2 := by rw [← hRe]; rfl
  have hRc : R.cells = 1 := by rw [← hRe]; rfl
  have hRs : R.slots = 3 := by rw [← hRe]; rfl
  have hRl : R.locals = 45 := by rw [← hRe]; rfl
  clear hRe
  refine lv_aload_n hx hb dX3_addLine_0 rfl (lv_at hl 0 rfl) ?_
  refine lv_iload_n hx hb dX3_addLine_1 rfl (lv_at hl 1 rfl) ?_
  refine zrdVq (As := [.int 0]) (rest := []) (wc := [(o, .inr (3, [.ref kA, .int 1, .int 1, .int 0, .int 1, .int 0, .ref iA, .int 0, .int 0, .int 0, .ref tA, .ref tr, .ref lA, .int (nI n)])), (kA, .inl (cK, 10, .inr (.inr (.inr (.inr (g))))))]) ⟨hx, hb, hml, hown, hts⟩ (c_kindOf l D _ o kA iA tA tr lA n cK g k0 hg) (cwV 1 hts gX3_addLine_X3_kindOf rfl rfl rfl (by decide +kernel) ⟨by rw [hRf]; exact Nat.le_of_ble_eq_true rfl, by rw [hRl]; exact Nat.le_of_ble_eq_true rfl⟩) hK hP hD [0, 1] rfl (by decide) [0] rfl (ci := 3) (q0 := 0) rfl rfl rfl hl.1 rfl (Nat.le_of_ble_eq_true rfl) dX3_addLine_2 ⟨by omega, by omega⟩ (fun r_143 hr_143 => ?_)
  refine W.eq (g2 := F0 m 5 ls [.ref k0]) (by rw [hr_143]; rfl) ?_
  refine lv_astore_n (lv' := [(3, .ref k0), (0, .ref o), (1, .int 0), (2, .int 1)]) hx hb dX3_addLine_5 rfl hl (by decide) rfl (fun ls hl => ?_)
  refine lv_aload_n hx hb dX3_addLine_6 rfl (lv_at hl 0 rfl) ?_
  refine lv_ifnonnull (tgt := 18) hx hb dX3_addLine_7 (by decide) ?_
  refine lv_iload_n hx hb dX3_addLine_18 rfl (lv_at hl 3 rfl) ?_
  refine lv_iconst (v := 1) hx hb dX3_addLine_19 (by decide) ?_
  refine lv_bipush (v := 20) hx hb dX3_addLine_20 (by decide) ?_
  refine zrdS (As := [.int 1, .int 1, .int 20]) (rest := []) (wc := []) ⟨hx, hb, hml, hown, hts⟩ (c_isWithin l D _ 1 1 20) (va_cwS 3 hts gX3_addLine_X3_isWithin rfl rfl rfl (by decide +kernel) ⟨by rw [hRf]; exact Nat.le_of_ble_eq_true rfl, by rw [hRl]; exact Nat.le_of_ble_eq_true rfl⟩) hK hP hD [] rfl (by decide) [] rfl rfl hl.1 rfl (Nat.le_of_ble_eq_true rfl) dX3_addLine_22 ⟨by omega, by omega⟩ (fun r_145 hr_145 => ?_)
  refine lv_topi (fun v_146 ev_146 => ?_)
  obtain rfl : v_146 = 1 := ev_146.trans (hr_145.trans (by decide))
  refine lv_if_ne (tgt := 36) hx hb dX3_addLine_25 (by decide) (fun c_147 => ?_) (fun c_147 => absurd c_147 (by decide))
  refine lv_aload_n hx hb dX3_addLine_36 rfl (lv_at hl 1 rfl) ?_
  refine va_get (D := D) (ci := 3) (v := .int (nI n)) (C := RX3) (T := TX3) (N := 14) hx hb hts (fun _ h9 => List.mem_cons_of_mem _ (List.mem_append_left _ (List.mem_append_left _ (List.mem_append_left _ (List.mem_append_left _ (List.mem_append_right _ h9)))))) hown hK hP 0 rfl rfl 13 (by decide) (hts (.fieldLink RX3 62 "PalletStack" "lineCount" "I") (List.mem_of_getElem? (i := 7) (by rfl))) (fun _ h9 => h9) rfl dX3_addLine_37 ?_
  refine lv_if_lt (tgt := 52) hx hb dX3_addLine_40 (by decide) (fun c_148 => absurd c_148 (nI_pos (by omega))) (fun c_148 => ?_)
  refine lv_aload_n hx hb dX3_addLine_43 rfl (lv_at hl 1 rfl) ?_
  refine va_get (D := D) (ci := 3) (v := .int (nI n)) (C := RX3) (T := TX3) (N := 14) hx hb hts (fun _ h9 => List.mem_cons_of_mem _ (List.mem_append_left _ (List.mem_append_left _ (List.mem_append_left _ (List.mem_append_left _ (List.mem_append_right _ h9)))))) hown hK hP 0 rfl rfl 13 (by decide) (hts (.fieldLink RX3 62 "PalletStack" "lineCount" "I") (List.mem_of_getElem? (i := 7) (by rfl))) (fun _ h9 => h9) rfl dX3_addLine_44 ?_
  refine lv_bipush (v := 20) hx hb dX3_addLine_47 (by decide) ?_
  refine lv_icmp_lt (tgt := 60) hx hb dX3_addLine_49 (by decide) (fun c_149 => ?_) (fun c_149 => absurd (nI_lt (b := 20) (by omega) (by decide)) c_149)
  refine lv_aload_n hx hb dX3_addLine_60 rfl (lv_at hl 1 rfl) ?_
  refine va_get (D := D) (ci := 3) (v := .int (nI n)) (C := RX3) (T := TX3) (N := 14) hx hb hts (fun _ h9 => List.mem_cons_of_mem _ (List.mem_append_left _ (List.mem_append_left _ (List.mem_append_left _ (List.mem_append_left _ (List.mem_append_right _ h9)))))) hown hK hP 0 rfl rfl 13 (by decide) (hts (.fieldLink RX3 62 "PalletStack" "lineCount" "I") (List.mem_of_getElem? (i := 7) (by rfl))) (fun _ h9 => h9) rfl dX3_addLine_61 ?_
  refine lv_istore (lv' := [(4, .int (nI n)), (3, .ref k0), (0, .ref o), (1, .int 0), (2, .int 1)]) hx hb dX3_addLine_64 hl (by decide) rfl (fun ls hl => ?_)
  refine lv_aload_n hx hb dX3_addLine_66 rfl (lv_at hl 2 rfl) ?_
  refine va_get (D := D) (ci := 3) (v := .ref lA) (C := RX3) (T := TX3) (N := 14) hx hb hts (fun _ h9 => List.mem_cons_of_mem _ (List.mem_append_left _ (List.mem_append_left _ (List.mem_append_left _ (List.mem_append_left _ (List.mem_append_right _ h9)))))) hown hK hP 0 rfl rfl 12 (by decide) (hts (.fieldLink RX3 58 "PalletStack" "lines" "[LPalletStack$Line;") (List.mem_of_getElem? (i := 8) (by rfl))) (fun _ h9 => h9) rfl dX3_addLine_67 ?_
  refine lv_iload hx hb dX3_addLine_70 (lv_at hl 0 rfl) ?_
  refine va_new (D := D) (ci := 2) (fs := [.null, .int 0, .int 0]) (C := RX2) (T := TX2) (N := 3) hx hb hts (fun _ h9 => List.mem_cons_of_mem _ (List.mem_append_left _ (List.mem_append_left _ (List.mem_append_left _ (List.mem_append_right _ h9))))) tyX2 tyX2_ok hown (hts (.classLink RX3 56 RX2) (List.mem_of_getElem? (i := 9) (by rfl))) (hts (.instantiable RX2 3) (List.mem_of_getElem? (i := 10) (by rfl))) (hts (.initialized RX2) (List.mem_of_getElem? (i := 11) (by rfl))) hK hP hD hS hA rfl (fun j hj => by rcases (show j = 0 ∨ j = 1 ∨ j = 2 by omega) with rfl | rfl | rfl <;> rfl) (by omega) (by omega) dX3_addLine_72 (fun q_150 H hP hD hS => ?_)
  have hP : va_P D vwCl ([(o, .inr (3, [.ref kA, .int 1, .int 1, .int 0, .int 1, .int 0, .ref iA, .int 0, .int 0, .int 0, .ref tA, .ref tr, .ref lA, .int (nI n)])), (kA, .inl (cK, 10, .inr (.inr (.inr (.inr (g)))))), (lA, .inl (cL, 20, .inr (.inr (.inr (.inr (f)))))), (k0, .inr (1, [.int 0, .int 1, .int 1, .int 2, .int 1, .int 0, .int 1, .int 0])), (q_150, .inr (2, [.null, .int 0, .int 0]))]) H := hP
  have hD : va_D A ([(o, .inr (3, [.ref kA, .int 1, .int 1, .int 0, .int 1, .int 0, .ref iA, .int 0, .int 0, .int 0, .ref tA, .ref tr, .ref lA, .int (nI n)])), (kA, .inl (cK, 10, .inr (.inr (.inr (.inr (g)))))), (lA, .inl (cL, 20, .inr (.inr (.inr (.inr (f)))))), (k0, .inr (1, [.int 0, .int 1, .int 1, .int 2, .int 1, .int 0, .int 1, .int 0])), (q_150, .inr (2, [.null, .int 0, .int 0]))]) := hD
  refine lv_dup hx hb dX3_addLine_75 rfl ?_
  refine lv_aload_n hx hb dX3_addLine_76 rfl (lv_at hl 1 rfl) ?_
  refine lv_iload_n hx hb dX3_addLine_77 rfl (lv_at hl 4 rfl) ?_
  refine zcallvI (As := [.ref k0, .int 1]) (rest := [.ref q_150, .int (nI n), .ref lA]) (wc := [(q_150, .inr (2, [.null, .int 0, .int 0]))]) (wr := [(o, .inr (3, [.ref kA, .int 1, .int 1, .int 0, .int 1, .int 0, .ref iA, .int 0, .int 0, .int 0, .ref tA, .ref tr, .ref lA, .int (nI n)])), (kA, .inl (cK, 10, .inr (.inr (.inr (.inr (g)))))), (lA, .inl (cL, 20, .inr (.inr (.inr (.inr (f)))))), (k0, .inr (1, [.int 0, .int 1, .int 1, .int 2, .int 1, .int 0, .int 1, .int 0]))]) ⟨hx, hb, hml, hown, hts⟩ (c_Line_init l D _ q_150 k0) (⟨callB_of 2 hts gX3_addLine_X2_init rfl rfl rfl (hts (.initialized RX2) (List.mem_of_getElem? (i := 11) (by rfl))) (hts (.methodLink RX3 149 yX2_init) (List.mem_of_getElem? (i := 22) (by rfl))) (by decide +kernel) ⟨by rw [hRf]; exact Nat.le_of_ble_eq_true rfl, by rw [hRl]; exact Nat.le_of_ble_eq_true rfl⟩, rfl, (hts (.instanceMethod yX2_init) (List.mem_of_getElem? (i := 23) (by rfl)))⟩) hK hP hD hS hA [4] [0, 1, 2, 3] rfl (by decide) rfl (by decide) (by decide) [] rfl rfl hl.1 rfl (Nat.le_of_ble_eq_true rfl) dX3_addLine_78 ⟨by omega, by omega⟩ (fun u_152 H locs hwu_152 hnu_152 hzu_152 hK hP hD hS => ?_)
  have hK : va_K D vwCl [(cK, .object RX1), (cL, .object RX2)] s := hK
  have hP : va_P D vwCl ([(o, .inr (3, [.ref kA, .int 1, .int 1, .int 0, .int 1, .int 0, .ref iA, .int 0, .int 0, .int 0, .ref tA, .ref tr, .ref lA, .int (nI n)])), (kA, .inl (cK, 10, .inr (.inr (.inr (.inr (g)))))), (lA, .inl (cL, 20, .inr (.inr (.inr (.inr (f)))))), (k0, .inr (1, [.int 0, .int 1, .int 1, .int 2, .int 1, .int 0, .int 1, .int 0])), (q_150, .inr (2, [.ref k0, .int 1, .int 0]))]) H := hP
  have hD : va_D A ([(o, .inr (3, [.ref kA, .int 1, .int 1, .int 0, .int 1, .int 0, .ref iA, .int 0, .int 0, .int 0, .ref tA, .ref tr, .ref lA, .int (nI n)])), (kA, .inl (cK, 10, .inr (.inr (.inr (.inr (g)))))), (lA, .inl (cL, 20, .inr (.inr (.inr (.inr (f)))))), (k0, .inr (1, [.int 0, .int 1, .int 1, .int 2, .int 1, .int 0, .int 1, .int 0])), (q_150, .inr (2, [.ref k0, .int 1, .int 0]))]) := hD
  refine va_astq hx hb hK hP hD hS 2 1 4 2 rfl rfl rfl rfl (vp_in_nI (N := 20) (by omega) (by decide)) dX3_addLine_81 (fun H locs hP hD hS => ?_)
  rw [nI_clamp (by omega)] at hP hD
  have hP : va_P D vwCl ([(o, .inr (3, [.ref kA, .int 1, .int 1, .int 0, .int 1, .int 0, .ref iA, .int 0, .int 0, .int 0, .ref tA, .ref tr, .ref lA, .int (nI n)])), (kA, .inl (cK, 10, .inr (.inr (.inr (.inr (g)))))), (lA, .inl (cL, 20, .inr (.inr (.inr (.inr (va_up f n (some q_150))))))), (k0, .inr (1, [.int 0, .int 1, .int 1, .int 2, .int 1, .int 0, .int 1, .int 0])), (q_150, .inr (2, [.ref k0, .int 1, .int 0]))]) H := hP
  have hD : va_D A ([(o, .inr (3, [.ref kA, .int 1, .int 1, .int 0, .int 1, .int 0, .ref iA, .int 0, .int 0, .int 0, .ref tA, .ref tr, .ref lA, .int (nI n)])), (kA, .inl (cK, 10, .inr (.inr (.inr (.inr (g)))))), (lA, .inl (cL, 20, .inr (.inr (.inr (.inr (va_up f n (some q_150))))))), (k0, .inr (1, [.int 0, .int 1, .int 1, .int 2, .int 1, .int 0, .int 1, .int 0])), (q_150, .inr (2, [.ref k0, .int 1, .int 0]))]) := hD
  refine lv_aload_n hx hb dX3_addLine_82 rfl (lv_at hl 2 rfl) ?_
  refine lv_iload hx hb dX3_addLine_83 (lv_at hl 0 rfl) ?_
  refine lv_iconst (v := 1) hx hb dX3_addLine_85 (by decide) ?_
  refine lv_iadd hx hb dX3_addLine_86 ?_
  refine lv_topi (fun v_153 ev_153 => ?_)
  obtain rfl : v_153 = (nI (n + 1)) := ev_153.trans (nI_1 n)
  refine va_put (D := D) (ci := 3) (v := .int (nI (n + 1))) (ty := .int) (C := RX3) (T := TX3) (N := 14) hx hb hts (fun _ h9 => List.mem_cons_of_mem _ (List.mem_append_left _ (List.mem_append_left _ (List.mem_append_left _ (List.mem_append_left _ (List.mem_append_right _ h9)))))) tyX3 tyX3_ok nmX3 hown hK hP hD hS 0 rfl rfl 13 (by decide) (hts (.fieldLink RX3 62 "PalletStack" "lineCount" "I") (List.mem_of_getElem? (i := 7) (by rfl))) (fun _ h9 => h9) rfl (by decide +kernel) rfl rfl (Nat.le_of_ble_eq_true rfl) dX3_addLine_87 (fun H locs hP hD hS => ?_)
  have hP : va_P D vwCl ([(o, .inr (3, [.ref kA, .int 1, .int 1, .int 0, .int 1, .int 0, .ref iA, .int 0, .int 0, .int 0, .ref tA, .ref tr, .ref lA, .int (nI (n + 1))])), (kA, .inl (cK, 10, .inr (.inr (.inr (.inr (g)))))), (lA, .inl (cL, 20, .inr (.inr (.inr (.inr (va_up f n (some q_150))))))), (k0, .inr (1, [.int 0, .int 1, .int 1, .int 2, .int 1, .int 0, .int 1, .int 0])), (q_150, .inr (2, [.ref k0, .int 1, .int 0]))]) H := hP
  have hD : va_D A ([(o, .inr (3, [.ref kA, .int 1, .int 1, .int 0, .int 1, .int 0, .ref iA, .int 0, .int 0, .int 0, .ref tA, .ref tr, .ref lA, .int (nI (n + 1))])), (kA, .inl (cK, 10, .inr (.inr (.inr (.inr (g)))))), (lA, .inl (cL, 20, .inr (.inr (.inr (.inr (va_up f n (some q_150))))))), (k0, .inr (1, [.int 0, .int 1, .int 1, .int 2, .int 1, .int 0, .int 1, .int 0])), (q_150, .inr (2, [.ref k0, .int 1, .int 0]))]) := hD
  refine lv_iload hx hb dX3_addLine_90 (lv_at hl 0 rfl) ?_
  refine W.widen (k := 1) (n := 3) (by omega) (by omega) ?_
  exact W.iret (v := (nI n)) hx hb hr (fun t ht hW => ⟨⟨(nI n), q_150, rfl, rfl, ⟨Nat.zero_le _, by rw [ht]; exact hP, va_K.moved hW.alike (hK.sub (tys' := [(cK, .object RX1), (cL, .object RX2)]) [0, 1] rfl), hD⟩⟩, hS.F ht⟩) hS.2.2 dX3_addLine_92
set_option maxHeartbeats 4000000 in
set_option maxRecDepth 100000 in
theorem c_Kind_init (l : Launch) (D : zG) (sz : Nat) (k0 : Nat) : Met l yX1_init wsX1_init ({ frames := 1, cells := 0, slots := 0, locals := 16 }) (zPc D [] ([(k0, .inr (1, [.int 0, .int 0, .int 0, .int 0, .int 0, .int 0, .int 0, .int 0]))]) sz [.ref k0, .int 0, .int 1, .int 1, .int 2, .int 1, .int 0, .int 1]) (va_Qv (fun (u : Unit) => True) (zB D (va_A ([(k0, .inr (1, [.int 0, .int 0, .int 0, .int 0, .int 0, .int 0, .int 0, .int 0]))]) sz) (fun _ => []) 0 (fun _ => [(k0, .inr (1, [.int 0, .int 1, .int 1, .int 2, .int 1, .int 0, .int 1, .int 0]))])) (va_A ([(k0, .inr (1, [.int 0, .int 0, .int 0, .int 0, .int 0, .int 0, .int 0, .int 0]))]) sz)) 0 0 (va_A ([(k0, .inr (1, [.int 0, .int 0, .int 0, .int 0, .int 0, .int 0, .int 0, .int 0]))]) sz) := by
  refine Met.ofW (cc := cX1_init) (maxL := 8) (ret := none) (by decide) rfl ?_
  intro p e s m args below meth c s₁ B hml hv
  obtain ⟨rfl, hsz, hP, hK, hD0⟩ := hv
  have hx := B.exec
  have hb := B.bytes
  have hr := B.returns
  have hts := atoms_spec (ws := wsX1_init) B.pre
  have hown : s.vm.findClass RX1 = some m.cls := findClass_of_methodNamed B.named
  have hlocks := B.notSynchronized
  have hin : meth.name = "<init>" := (name_of_methodNamed B.named B.method).1
  subst hsz
  have hD := hD0.self (sz := s.heap.size)
  generalize hAe : va_A ([(k0, .inr (1, [.int 0, .int 0, .int 0, .int 0, .int 0, .int 0, .int 0, .int 0]))]) s.heap.size = A at hD ⊢
  have hA : ∀ q : Nat, s.heap.size ≤ q → A q := fun q h => by rw [← hAe]; exact Or.inr h
  have hS : va_S A s.heap s.heap [] := va_S.rf
  have hl := lv_entry ([.ref k0, .int 0, .int 1, .int 1, .int 2, .int 1, .int 0, .int 1]) (n := 8) (Nat.le_of_ble_eq_true rfl)
  rw [lg_entry_eq]
  generalize (lg_sl ([.ref k0, .int 0, .int 1, .int 1, .int 2, .int 1, .int 0, .int 1]) ++ List.replicate (8 - (lg_sl ([.ref k0, .int 0, .int 1, .int 1, .int 2, .int 1, .int 0, .int 1])).length) Slot.unset).toArray = ls at hl ⊢
  have hl : lv_has ls 8 [(0, .ref k0), (1, .int 0), (2, .int 1), (3, .int 1), (4, .int 2), (5, .int 1), (6, .int 0), (7, .int 1)] := hl
  have hP : va_P D vwCl ([(k0, .inr (1, [.int 0, .int 0, .int 0, .int 0, .int 0, .int 0, .int 0, .int 0]))]) s.heap := hP
  generalize hRe : (headSpec _ _).room = R
  have hRf : R.frames = 1 := by rw [← hRe]; rfl
  have hRc : R.cells = 0 := by rw [← hRe]; rfl
  have hRs : R.slots = 0 := by rw [← hRe]; rfl
  have hRl : R.locals = 16 := by rw [← hRe]; rfl
  clear hRe
  refine lv_aload_n hx hb dX1_init_0 rfl (lv_at hl 0 rfl) ?_
  refine W.objInit hx hb hown (hts (.methodLink RX1 1 objectInit) (List.mem_of_getElem? (i := 1) (by rfl))) (hts (.instanceMethod objectInit) (List.mem_of_getElem? (i := 2) (by rfl))) (hts (.code objectInit ⟨#[0xb1]⟩ 1 none) (List.mem_of_getElem? (i := 3) (by rfl))) rfl (by rw [hml]; exact hl.1) rfl dX1_init_1 (by rw [hRf]; exact Nat.le_of_ble_eq_true rfl) (by rw [hRl]; exact Nat.le_of_ble_eq_true rfl) ?_
  refine W.eq (g2 := F0 m 4 ls []) rfl ?_
  refine lv_aload_n hx hb dX1_init_4 rfl (lv_at hl 0 rfl) ?_
  refine lv_iload_n hx hb dX1_init_5 rfl (lv_at hl 1 rfl) ?_
  refine va_putF (D := D) (ci := 1) (v := .int 0) (ty := .int) (C := RX1) (T := TX1) (N := 8) hx hb hts (fun _ h9 => List.mem_cons_of_mem _ (List.mem_append_right _ h9)) tyX1 tyX1_ok nmX1 hown hK hP hD hS 0 rfl rfl 0 (by decide) (hts (.fieldLink RX1 7 "PalletStack$Kind" "number" "I") (List.mem_of_getElem? (i := 4) (by rfl))) (fun _ h9 => h9) rfl hin rfl (by decide +kernel) rfl rfl (Nat.le_of_ble_eq_true rfl) dX1_init_6 (fun H locs hP hD hS => ?_)
  have hP : va_P D vwCl ([(k0, .inr (1, [.int 0, .int 0, .int 0, .int 0, .int 0, .int 0, .int 0, .int 0]))]) H := hP
  have hD : va_D A ([(k0, .inr (1, [.int 0, .int 0, .int 0, .int 0, .int 0, .int 0, .int 0, .int 0]))]) := hD
  refine lv_aload_n hx hb dX1_init_9 rfl (lv_at hl 0 rfl) ?_
  refine lv_iload_n hx hb dX1_init_10 rfl (lv_at hl 2 rfl) ?_
  refine va_putF (D := D) (ci := 1) (v := .int 1) (ty := .int) (C := RX1) (T := TX1) (N := 8) hx hb hts (fun _ h9 => List.mem_cons_of_mem _ (List.mem_append_right _ h9)) tyX1 tyX1_ok nmX1 hown hK hP hD hS 0 rfl rfl 1 (by decide) (hts (.fieldLink RX1 13 "PalletStack$Kind" "width" "I") (List.mem_of_getElem? (i := 5) (by rfl))) (fun _ h9 => h9) rfl hin rfl (by decide +kernel) rfl rfl (Nat.le_of_ble_eq_true rfl) dX1_init_11 (fun H locs hP hD hS => ?_)
  have hP : va_P D vwCl ([(k0, .inr (1, [.int 0, .int 1, .int 0, .int 0, .int 0, .int 0, .int 0, .int 0]))]) H := hP
  have hD : va_D A ([(k0, .inr (1, [.int 0, .int 1, .int 0, .int 0, .int 0, .int 0, .int 0, .int 0]))]) := hD
  refine lv_aload_n hx hb dX1_init_14 rfl (lv_at hl 0 rfl) ?_
  refine lv_iload_n hx hb dX1_init_15 rfl (lv_at hl 3 rfl) ?_
  refine va_putF (D := D) (ci := 1) (v := .int 1) (ty := .int) (C := RX1) (T := TX1) (N := 8) hx hb hts (fun _ h9 => List.mem_cons_of_mem _ (List.mem_append_right _ h9)) tyX1 tyX1_ok nmX1 hown hK hP hD hS 0 rfl rfl 2 (by decide) (hts (.fieldLink RX1 16 "PalletStack$Kind" "depth" "I") (List.mem_of_getElem? (i := 6) (by rfl))) (fun _ h9 => h9) rfl hin rfl (by decide +kernel) rfl rfl (Nat.le_of_ble_eq_true rfl) dX1_init_16 (fun H locs hP hD hS => ?_)
  have hP : va_P D vwCl ([(k0, .inr (1, [.int 0, .int 1, .int 1, .int 0, .int 0, .int 0, .int 0, .int 0]))]) H := hP
  have hD : va_D A ([(k0, .inr (1, [.int 0, .int 1, .int 1, .int 0, .int 0, .int 0, .int 0, .int 0]))]) := hD
  refine lv_aload_n hx hb dX1_init_19 rfl (lv_at hl 0 rfl) ?_
  refine lv_iload hx hb dX1_init_20 (lv_at hl 4 rfl) ?_
  refine va_putF (D := D) (ci := 1) (v := .int 2) (ty := .int) (C := RX1) (T := TX1) (N := 8) hx hb hts (fun _ h9 => List.mem_cons_of_mem _ (List.mem_append_right _ h9)) tyX1 tyX1_ok nmX1 hown hK hP hD hS 0 rfl rfl 3 (by decide) (hts (.fieldLink RX1 19 "PalletStack$Kind" "height" "I") (List.mem_of_getElem? (i := 7) (by rfl))) (fun _ h9 => h9) rfl hin rfl (by decide +kernel) rfl rfl (Nat.le_of_ble_eq_true rfl) dX1_init_22 (fun H locs hP hD hS => ?_)
  have hP : va_P D vwCl ([(k0, .inr (1, [.int 0, .int 1, .int 1, .int 2, .int 0, .int 0, .int 0, .int 0]))]) H := hP
  have hD : va_D A ([(k0, .inr (1, [.int 0, .int 1, .int 1, .int 2, .int 0, .int 0, .int 0, .int 0]))]) := hD
  refine lv_aload_n hx hb dX1_init_25 rfl (lv_at hl 0 rfl) ?_
  refine lv_iload hx hb dX1_init_26 (lv_at hl 5 rfl) ?_
  refine va_putF (D := D) (ci := 1) (v := .int 1) (ty := .int) (C := RX1) (T := TX1) (N := 8) hx hb hts (fun _ h9 => List.mem_cons_of_mem _ (List.mem_append_right _ h9)) tyX1 tyX1_ok nmX1 hown hK hP hD hS 0 rfl rfl 4 (by decide) (hts (.fieldLink RX1 22 "PalletStack$Kind" "weight" "I") (List.mem_of_getElem? (i := 8) (by rfl))) (fun _ h9 => h9) rfl hin rfl (by decide +kernel) rfl rfl (Nat.le_of_ble_eq_true rfl) dX1_init_28 (fun H locs hP hD hS => ?_)
  have hP : va_P D vwCl ([(k0, .inr (1, [.int 0, .int 1, .int 1, .int 2, .int 1, .int 0, .int 0, .int 0]))]) H := hP
  have hD : va_D A ([(k0, .inr (1, [.int 0, .int 1, .int 1, .int 2, .int 1, .int 0, .int 0, .int 0]))]) := hD
  refine lv_aload_n hx hb dX1_init_31 rfl (lv_at hl 0 rfl) ?_
  refine lv_iload hx hb dX1_init_32 (lv_at hl 6 rfl) ?_
  refine va_putF (D := D) (ci := 1) (v := .int 0) (ty := .int) (C := RX1) (T := TX1) (N := 8) hx hb hts (fun _ h9 => List.mem_cons_of_mem _ (List.mem_append_right _ h9)) tyX1 tyX1_ok nmX1 hown hK hP hD hS 0 rfl rfl 5 (by decide) (hts (.fieldLink RX1 25 "PalletStack$Kind" "strength" "I") (List.mem_of_getElem? (i := 9) (by rfl))) (fun _ h9 => h9) rfl hin rfl (by decide +kernel) rfl rfl (Nat.le_of_ble_eq_true rfl) dX1_init_34 (fun H locs hP hD hS => ?_)
  have hP : va_P D vwCl ([(k0, .inr (1, [.int 0, .int 1, .int 1, .int 2, .int 1, .int 0, .int 0, .int 0]))]) H := hP
  have hD : va_D A ([(k0, .inr (1, [.int 0, .int 1, .int 1, .int 2, .int 1, .int 0, .int 0, .int 0]))]) := hD
  refine lv_aload_n hx hb dX1_init_37 rfl (lv_at hl 0 rfl) ?_
  refine lv_iload hx hb dX1_init_38 (lv_at hl 7 rfl) ?_
  refine lv_iconst (v := 1) hx hb dX1_init_40 (by decide) ?_
  refine lv_icmp_eq (tgt := 50) hx hb dX1_init_41 (by decide) (fun c_154 => ?_) (fun c_154 => absurd (rfl) c_154)
  refine lv_iconst (v := 1) hx hb dX1_init_50 (by decide) ?_
  refine lv_goto (tgt := 55) hx hb dX1_init_51 (by decide) ?_
  refine va_putF (D := D) (ci := 1) (v := .int 1) (ty := .boolean) (C := RX1) (T := TX1) (N := 8) hx hb hts (fun _ h9 => List.mem_cons_of_mem _ (List.mem_append_right _ h9)) tyX1 tyX1_ok nmX1 hown hK hP hD hS 0 rfl rfl 6 (by decide) (hts (.fieldLink RX1 28 "PalletStack$Kind" "canTurn" "Z") (List.mem_of_getElem? (i := 10) (by rfl))) (fun _ h9 => h9) rfl hin rfl (by decide +kernel) rfl rfl (Nat.le_of_ble_eq_true rfl) dX1_init_55 (fun H locs hP hD hS => ?_)
  have hP : va_P D vwCl ([(k0, .inr (1, [.int 0, .int 1, .int 1, .int 2, .int 1, .int 0, .int 1, .int 0]))]) H := hP
  have hD : va_D A ([(k0, .inr (1, [.int 0, .int 1, .int 1, .int 2, .int 1, .int 0, .int 1, .int 0]))]) := hD
  refine lv_aload_n hx hb dX1_init_58 rfl (lv_at hl 0 rfl) ?_
  refine lv_iload hx hb dX1_init_59 (lv_at hl 7 rfl) ?_
  refine lv_iconst (v := 2) hx hb dX1_init_61 (by decide) ?_
  refine lv_icmp_eq (tgt := 71) hx hb dX1_init_62 (by decide) (fun c_155 => absurd c_155 (by decide)) (fun c_155 => ?_)
  refine lv_iload hx hb dX1_init_65 (lv_at hl 7 rfl) ?_
  refine lv_iconst (v := 3) hx hb dX1_init_67 (by decide) ?_
  refine lv_icmp_ne (tgt := 75) hx hb dX1_init_68 (by decide) (fun c_156 => ?_) (fun c_156 => absurd c_156 (by decide))
  refine lv_iconst (v := 0) hx hb dX1_init_75 (by decide) ?_
  refine va_putF (D := D) (ci := 1) (v := .int 0) (ty := .boolean) (C := RX1) (T := TX1) (N := 8) hx hb hts (fun _ h9 => List.mem_cons_of_mem _ (List.mem_append_right _ h9)) tyX1 tyX1_ok nmX1 hown hK hP hD hS 0 rfl rfl 7 (by decide) (hts (.fieldLink RX1 32 "PalletStack$Kind" "needsDeck" "Z") (List.mem_of_getElem? (i := 11) (by rfl))) (fun _ h9 => h9) rfl hin rfl (by decide +kernel) rfl rfl (Nat.le_of_ble_eq_true rfl) dX1_init_76 (fun H locs hP hD hS => ?_)
  have hP : va_P D vwCl ([(k0, .inr (1, [.int 0, .int 1, .int 1, .int 2, .int 1, .int 0, .int 1, .int 0]))]) H := hP
  have hD : va_D A ([(k0, .inr (1, [.int 0, .int 1, .int 1, .int 2, .int 1, .int 0, .int 1, .int 0]))]) := hD
  exact W.vret hx hb hr (fun t ht hW => ⟨⟨(), rfl, True.intro, ⟨Nat.zero_le _, by rw [ht]; exact hP, va_K.moved hW.alike (hK.sub (tys' := []) [] rfl), hD⟩⟩, hS.F ht⟩) hS.2.2 dX1_init_79
set_option maxHeartbeats 4000000 in
set_option maxRecDepth 100000 in
theorem c_addKind (l : Launch) (D : zG) (sz : Nat) (o kA iA tA tr lA n : Nat) (cK : ClassId) (hn : n = 0) : Met l yX3_addKind wsX3_addKind ({ frames := 2, cells := 1, slots := 8, locals := 60 }) (zPc D [(cK, .object RX1)] ([(o, .inr (3, [.ref kA, .int 0, .int 20, .int 60, .int 2000, .int 0, .ref iA, .int 0, .int 0, .int 0, .ref tA, .ref tr, .ref lA, .int (nI n)])), (kA, .inl (cK, 10, .inr (.inr (.inr (.inr (fun _ => none))))))]) sz [.ref o, .int 1, .int 1, .int 2, .int 1, .int 0, .int 1]) (va_Qi (fun (r : Int32) (u : Nat) => r = 0) (zB D (va_A ([(o, .inr (3, [.ref kA, .int 0, .int 20, .int 60, .int 2000, .int 0, .ref iA, .int 0, .int 0, .int 0, .ref tA, .ref tr, .ref lA, .int (nI n)])), (kA, .inl (cK, 10, .inr (.inr (.inr (.inr (fun _ => none))))))]) sz) (fun _ => [(cK, .object RX1)]) 0 (fun u => [(o, .inr (3, [.ref kA, .int 1, .int 20, .int 60, .int 2000, .int 0, .ref iA, .int 0, .int 0, .int 0, .ref tA, .ref tr, .ref lA, .int (nI n)])), (kA, .inl (cK, 10, .inr (.inr (.inr (.inr (va_up (fun _ => none) 0 (some u))))))), (u, .inr (1, [.int 0, .int 1, .int 1, .int 2, .int 1, .int 0, .int 1, .int 0]))])) (va_A ([(o, .inr (3, [.ref kA, .int 0, .int 20, .int 60, .int 2000, .int 0, .ref iA, .int 0, .int 0, .int 0, .ref tA, .ref tr, .ref lA, .int (nI n)])), (kA, .inl (cK, 10, .inr (.inr (.inr (.inr (fun _ => none))))))]) sz)) 1 8 (va_A ([(o, .inr (3, [.ref kA, .int 0, .int 20, .int 60, .int 2000, .int 0, .ref iA, .int 0, .int 0, .int 0, .ref tA, .ref tr, .ref lA, .int (nI n)])), (kA, .inl (cK, 10, .inr (.inr (.inr (.inr (fun _ => none))))))]) sz) := by
  refine Met.ofW (cc := cX3_addKind) (maxL := 8) (ret := (some .int)) (by decide) rfl ?_
  intro p e s m args below meth c s₁ B hml hv
  obtain ⟨rfl, hsz, hP, hK, hD0⟩ := hv
  have hx := B.exec
  have hb := B.bytes
  have hr := B.returns
  have hts := atoms_spec (ws := wsX3_addKind) B.pre
  have hown : s.vm.findClass RX3 = some m.cls := findClass_of_methodNamed B.named
  have hlocks := B.notSynchronized
  subst hsz
  have hD := hD0.self (sz := s.heap.size)
  generalize hAe : va_A ([(o, .inr (3, [.ref kA, .int 0, .int 20, .int 60, .int 2000, .int 0, .ref iA, .int 0, .int 0, .int 0, .ref tA, .ref tr, .ref lA, .int (nI n)])), (kA, .inl (cK, 10, .inr (.inr (.inr (.inr (fun _ => none))))))]) s.heap.size = A at hD ⊢
  have hA : ∀ q : Nat, s.heap.size ≤ q → A q := fun q h => by rw [← hAe]; exact Or.inr h
  have hS : va_S A s.heap s.heap [] := va_S.rf
  have hl := lv_entry ([.ref o, .int 1, .int 1, .int 2, .int 1, .int 0, .int 1]) (n := 8) (Nat.le_of_ble_eq_true rfl)
  rw [lg_entry_eq]
  generalize (lg_sl ([.ref o, .int 1, .int 1, .int 2, .int 1, .int 0, .int 1]) ++ List.replicate (8 - (lg_sl ([.ref o, .int 1, .int 1, .int 2, .int 1, .int 0, .int 1])).length) Slot.unset).toArray = ls at hl ⊢
  have hl : lv_has ls 8 [(0, .ref o), (1, .int 1), (2, .int 1), (3, .int 2), (4, .int 1), (5, .int 0), (6, .int 1)] := hl
  have hP : va_P D vwCl ([(o, .inr (3, [.ref kA, .int 0, .int 20, .int 60, .int 2000, .int 0, .ref iA, .int 0, .int 0, .int 0, .ref tA, .ref tr, .ref lA, .int (nI n)])), (kA, .inl (cK, 10, .inr (.inr (.inr (.inr (fun _ => none))))))]) s.heap := hP
  generalize hRe : (headSpec _ _).room = R
  have hRf : R.frames = 2 := by rw [← hRe]; rfl
  have hRc : R.cells = 1 := by rw [← hRe]; rfl
  have hRs : R.slots = 8 := by rw [← hRe]; rfl
  have hRl : R.locals = 60 := by rw [← hRe]; rfl
  clear hRe
  refine lv_iload_n hx hb dX3_addKind_0 rfl (lv_at hl 1 rfl) ?_
  refine lv_iconst (v := 1) hx hb dX3_addKind_1 (by decide) ?_
  refine lv_bipush (v := 6) hx hb dX3_addKind_2 (by decide) ?_
  refine zrdS (As := [.int 1, .int 1, .int 6]) (rest := []) (wc := []) ⟨hx, hb, hml, hown, hts⟩ (c_isWithin l D _ 1 1 6) (va_cwS 3 hts gX3_addKind_X3_isWithin rfl rfl rfl (by decide +kernel) ⟨by rw [hRf]; exact Nat.le_of_ble_eq_true rfl, by rw [hRl]; exact Nat.le_of_ble_eq_true rfl⟩) hK hP hD [] rfl (by decide) [] rfl rfl hl.1 rfl (Nat.le_of_ble_eq_true rfl) dX3_addKind_4 ⟨by omega, by omega⟩ (fun r_157 hr_157 => ?_)
  refine lv_topi (fun v_158 ev_158 => ?_)
  obtain rfl : v_158 = 1 := ev_158.trans (hr_157.trans (by decide))
  refine lv_if_eq (tgt := 64) hx hb dX3_addKind_7 (by decide) (fun c_159 => absurd c_159 (by decide)) (fun c_159 => ?_)
  refine lv_iload_n hx hb dX3_addKind_10 rfl (lv_at hl 2 rfl) ?_
  refine lv_iconst (v := 1) hx hb dX3_addKind_11 (by decide) ?_
  refine lv_bipush (v := 6) hx hb dX3_addKind_12 (by decide) ?_
  refine zrdS (As := [.int 1, .int 1, .int 6]) (rest := []) (wc := []) ⟨hx, hb, hml, hown, hts⟩ (c_isWithin l D _ 1 1 6) (va_cwS 3 hts gX3_addKind_X3_isWithin rfl rfl rfl (by decide +kernel) ⟨by rw [hRf]; exact Nat.le_of_ble_eq_true rfl, by rw [hRl]; exact Nat.le_of_ble_eq_true rfl⟩) hK hP hD [] rfl (by decide) [] rfl rfl hl.1 rfl (Nat.le_of_ble_eq_true rfl) dX3_addKind_14 ⟨by omega, by omega⟩ (fun r_160 hr_160 => ?_)
  refine lv_topi (fun v_161 ev_161 => ?_)
  obtain rfl : v_161 = 1 := ev_161.trans (hr_160.trans (by decide))
  refine lv_if_eq (tgt := 64) hx hb dX3_addKind_17 (by decide) (fun c_162 => absurd c_162 (by decide)) (fun c_162 => ?_)
  refine lv_iload_n hx hb dX3_addKind_20 rfl (lv_at hl 3 rfl) ?_
  refine lv_iconst (v := 1) hx hb dX3_addKind_21 (by decide) ?_
  refine lv_bipush (v := 8) hx hb dX3_addKind_22 (by decide) ?_
  refine zrdS (As := [.int 2, .int 1, .int 8]) (rest := []) (wc := []) ⟨hx, hb, hml, hown, hts⟩ (c_isWithin l D _ 2 1 8) (va_cwS 3 hts gX3_addKind_X3_isWithin rfl rfl rfl (by decide +kernel) ⟨by rw [hRf]; exact Nat.le_of_ble_eq_true rfl, by rw [hRl]; exact Nat.le_of_ble_eq_true rfl⟩) hK hP hD [] rfl (by decide) [] rfl rfl hl.1 rfl (Nat.le_of_ble_eq_true rfl) dX3_addKind_24 ⟨by omega, by omega⟩ (fun r_163 hr_163 => ?_)
  refine lv_topi (fun v_164 ev_164 => ?_)
  obtain rfl : v_164 = 1 := ev_164.trans (hr_163.trans (by decide))
  refine lv_if_eq (tgt := 64) hx hb dX3_addKind_27 (by decide) (fun c_165 => absurd c_165 (by decide)) (fun c_165 => ?_)
  refine lv_iload hx hb dX3_addKind_30 (lv_at hl 4 rfl) ?_
  refine lv_iconst (v := 1) hx hb dX3_addKind_32 (by decide) ?_
  refine lv_sipush (v := 500) hx hb dX3_addKind_33 (by decide) ?_
  refine zrdS (As := [.int 1, .int 1, .int 500]) (rest := []) (wc := []) ⟨hx, hb, hml, hown, hts⟩ (c_isWithin l D _ 1 1 500) (va_cwS 3 hts gX3_addKind_X3_isWithin rfl rfl rfl (by decide +kernel) ⟨by rw [hRf]; exact Nat.le_of_ble_eq_true rfl, by rw [hRl]; exact Nat.le_of_ble_eq_true rfl⟩) hK hP hD [] rfl (by decide) [] rfl rfl hl.1 rfl (Nat.le_of_ble_eq_true rfl) dX3_addKind_36 ⟨by omega, by omega⟩ (fun r_166 hr_166 => ?_)
  refine lv_topi (fun v_167 ev_167 => ?_)
  obtain rfl : v_167 = 1 := ev_167.trans (hr_166.trans (by decide))
  refine lv_if_eq (tgt := 64) hx hb dX3_addKind_39 (by decide) (fun c_168 => absurd c_168 (by decide)) (fun c_168 => ?_)
  refine lv_iload hx hb dX3_addKind_42 (lv_at hl 5 rfl) ?_
  refine lv_iconst (v := 0) hx hb dX3_addKind_44 (by decide) ?_
  refine lv_sipush (v := 5000) hx hb dX3_addKind_45 (by decide) ?_
  refine zrdS (As := [.int 0, .int 0, .int 5000]) (rest := []) (wc := []) ⟨hx, hb, hml, hown, hts⟩ (c_isWithin l D _ 0 0 5000) (va_cwS 3 hts gX3_addKind_X3_isWithin rfl rfl rfl (by decide +kernel) ⟨by rw [hRf]; exact Nat.le_of_ble_eq_true rfl, by rw [hRl]; exact Nat.le_of_ble_eq_true rfl⟩) hK hP hD [] rfl (by decide) [] rfl rfl hl.1 rfl (Nat.le_of_ble_eq_true rfl) dX3_addKind_48 ⟨by omega, by omega⟩ (fun r_169 hr_169 => ?_)
  refine lv_topi (fun v_170 ev_170 => ?_)
  obtain rfl : v_170 = 1 := ev_170.trans (hr_169.trans (by decide))
  refine lv_if_eq (tgt := 64) hx hb dX3_addKind_51 (by decide) (fun c_171 => absurd c_171 (by decide)) (fun c_171 => ?_)
  refine lv_iload hx hb dX3_addKind_54 (lv_at hl 6 rfl) ?_
  refine lv_iconst (v := 0) hx hb dX3_addKind_56 (by decide) ?_
  refine lv_iconst (v := 3) hx hb dX3_addKind_57 (by decide) ?_
  refine zrdS (As := [.int 1, .int 0, .int 3]) (rest := []) (wc := []) ⟨hx, hb, hml, hown, hts⟩ (c_isWithin l D _ 1 0 3) (va_cwS 3 hts gX3_addKind_X3_isWithin rfl rfl rfl (by decide +kernel) ⟨by rw [hRf]; exact Nat.le_of_ble_eq_true rfl, by rw [hRl]; exact Nat.le_of_ble_eq_true rfl⟩) hK hP hD [] rfl (by decide) [] rfl rfl hl.1 rfl (Nat.le_of_ble_eq_true rfl) dX3_addKind_58 ⟨by omega, by omega⟩ (fun r_172 hr_172 => ?_)
  refine lv_topi (fun v_173 ev_173 => ?_)
  obtain rfl : v_173 = 1 := ev_173.trans (hr_172.trans (by decide))
  refine lv_if_ne (tgt := 72) hx hb dX3_addKind_61 (by decide) (fun c_174 => ?_) (fun c_174 => absurd c_174 (by decide))
  refine lv_aload_n hx hb dX3_addKind_72 rfl (lv_at hl 0 rfl) ?_
  refine va_get (D := D) (ci := 3) (v := .int 0) (C := RX3) (T := TX3) (N := 14) hx hb hts (fun _ h9 => List.mem_cons_of_mem _ (List.mem_append_left _ (List.mem_append_left _ (List.mem_append_left _ (List.mem_append_right _ h9))))) hown hK hP 0 rfl rfl 1 (by decide) (hts (.fieldLink RX3 15 "PalletStack" "kindCount" "I") (List.mem_of_getElem? (i := 5) (by rfl))) (fun _ h9 => h9) rfl dX3_addKind_73 ?_
  refine lv_if_lt (tgt := 88) hx hb dX3_addKind_76 (by decide) (fun c_175 => absurd c_175 (by decide)) (fun c_175 => ?_)
  refine lv_aload_n hx hb dX3_addKind_79 rfl (lv_at hl 0 rfl) ?_
  refine va_get (D := D) (ci := 3) (v := .int 0) (C := RX3) (T := TX3) (N := 14) hx hb hts (fun _ h9 => List.mem_cons_of_mem _ (List.mem_append_left _ (List.mem_append_left _ (List.mem_append_left _ (List.mem_append_right _ h9))))) hown hK hP 0 rfl rfl 1 (by decide) (hts (.fieldLink RX3 15 "PalletStack" "kindCount" "I") (List.mem_of_getElem? (i := 5) (by rfl))) (fun _ h9 => h9) rfl dX3_addKind_80 ?_
  refine lv_bipush (v := 10) hx hb dX3_addKind_83 (by decide) ?_
  refine lv_icmp_lt (tgt := 96) hx hb dX3_addKind_85 (by decide) (fun c_176 => ?_) (fun c_176 => absurd (by decide) c_176)
  refine lv_aload_n hx hb dX3_addKind_96 rfl (lv_at hl 0 rfl) ?_
  refine va_get (D := D) (ci := 3) (v := .int 0) (C := RX3) (T := TX3) (N := 14) hx hb hts (fun _ h9 => List.mem_cons_of_mem _ (List.mem_append_left _ (List.mem_append_left _ (List.mem_append_left _ (List.mem_append_right _ h9))))) hown hK hP 0 rfl rfl 1 (by decide) (hts (.fieldLink RX3 15 "PalletStack" "kindCount" "I") (List.mem_of_getElem? (i := 5) (by rfl))) (fun _ h9 => h9) rfl dX3_addKind_97 ?_
  refine lv_istore (lv' := [(7, .int 0), (0, .ref o), (1, .int 1), (2, .int 1), (3, .int 2), (4, .int 1), (5, .int 0), (6, .int 1)]) hx hb dX3_addKind_100 hl (by decide) rfl (fun ls hl => ?_)
  refine lv_aload_n hx hb dX3_addKind_102 rfl (lv_at hl 1 rfl) ?_
  refine va_get (D := D) (ci := 3) (v := .ref kA) (C := RX3) (T := TX3) (N := 14) hx hb hts (fun _ h9 => List.mem_cons_of_mem _ (List.mem_append_left _ (List.mem_append_left _ (List.mem_append_left _ (List.mem_append_right _ h9))))) hown hK hP 0 rfl rfl 0 (by decide) (hts (.fieldLink RX3 11 "PalletStack" "kinds" "[LPalletStack$Kind;") (List.mem_of_getElem? (i := 6) (by rfl))) (fun _ h9 => h9) rfl dX3_addKind_103 ?_
  refine lv_iload hx hb dX3_addKind_106 (lv_at hl 0 rfl) ?_
  refine va_new (D := D) (ci := 1) (fs := [.int 0, .int 0, .int 0, .int 0, .int 0, .int 0, .int 0, .int 0]) (C := RX1) (T := TX1) (N := 8) hx hb hts (fun _ h9 => List.mem_cons_of_mem _ (List.mem_append_left _ (List.mem_append_left _ (List.mem_append_right _ h9)))) tyX1 tyX1_ok hown (hts (.classLink RX3 9 RX1) (List.mem_of_getElem? (i := 7) (by rfl))) (hts (.instantiable RX1 8) (List.mem_of_getElem? (i := 8) (by rfl))) (hts (.initialized RX1) (List.mem_of_getElem? (i := 9) (by rfl))) hK hP hD hS hA rfl (fun j hj => by rcases (show j = 0 ∨ j = 1 ∨ j = 2 ∨ j = 3 ∨ j = 4 ∨ j = 5 ∨ j = 6 ∨ j = 7 by omega) with rfl | rfl | rfl | rfl | rfl | rfl | rfl | rfl <;> rfl) (by omega) (by omega) dX3_addKind_108 (fun q_177 H hP hD hS => ?_)
  have hP : va_P D vwCl ([(o, .inr (3, [.ref kA, .int 0, .int 20, .int 60, .int 2000, .int 0, .ref iA, .int 0, .int 0, .int 0, .ref tA, .ref tr, .ref lA, .int (nI n)])), (kA, .inl (cK, 10, .inr (.inr (.inr (.inr (fun _ => none)))))), (q_177, .inr (1, [.int 0, .int 0, .int 0, .int 0, .int 0, .int 0, .int 0, .int 0]))]) H := hP
  have hD : va_D A ([(o, .inr (3, [.ref kA, .int 0, .int 20, .int 60, .int 2000, .int 0, .ref iA, .int 0, .int 0, .int 0, .ref tA, .ref tr, .ref lA, .int (nI n)])), (kA, .inl (cK, 10, .inr (.inr (.inr (.inr (fun _ => none)))))), (q_177, .inr (1, [.int 0, .int 0, .int 0, .int 0, .int 0, .int 0, .int 0, .int 0]))]) := hD
  refine lv_dup hx hb dX3_addKind_111 rfl ?_
  refine lv_iload hx hb dX3_addKind_112 (lv_at hl 0 rfl) ?_
  refine lv_iload_n hx hb dX3_addKind_114 rfl (lv_at hl 2 rfl) ?_
  refine lv_iload_n hx hb dX3_addKind_115 rfl (lv_at hl 3 rfl) ?_
  refine lv_iload_n hx hb dX3_addKind_116 rfl (lv_at hl 4 rfl) ?_
  refine lv_iload hx hb dX3_addKind_117 (lv_at hl 5 rfl) ?_
  refine lv_iload hx hb dX3_addKind_119 (lv_at hl 6 rfl) ?_
  refine lv_iload hx hb dX3_addKind_121 (lv_at hl 7 rfl) ?_
  refine zcallvI (As := [.int 0, .int 1, .int 1, .int 2, .int 1, .int 0, .int 1]) (rest := [.ref q_177, .int 0, .ref kA]) (wc := [(q_177, .inr (1, [.int 0, .int 0, .int 0, .int 0, .int 0, .int 0, .int 0, .int 0]))]) (wr := [(o, .inr (3, [.ref kA, .int 0, .int 20, .int 60, .int 2000, .int 0, .ref iA, .int 0, .int 0, .int 0, .ref tA, .ref tr, .ref lA, .int (nI n)])), (kA, .inl (cK, 10, .inr (.inr (.inr (.inr (fun _ => none))))))]) ⟨hx, hb, hml, hown, hts⟩ (c_Kind_init l D _ q_177) (⟨callB_of 7 hts gX3_addKind_X1_init rfl rfl rfl (hts (.initialized RX1) (List.mem_of_getElem? (i := 9) (by rfl))) (hts (.methodLink RX3 75 yX1_init) (List.mem_of_getElem? (i := 14) (by rfl))) (by decide +kernel) ⟨by rw [hRf]; exact Nat.le_of_ble_eq_true rfl, by rw [hRl]; exact Nat.le_of_ble_eq_true rfl⟩, rfl, (hts (.instanceMethod yX1_init) (List.mem_of_getElem? (i := 15) (by rfl)))⟩) hK hP hD hS hA [2] [0, 1] rfl (by decide) rfl (by decide) (by decide) [] rfl rfl hl.1 rfl (Nat.le_of_ble_eq_true rfl) dX3_addKind_123 ⟨by omega, by omega⟩ (fun u_179 H locs hwu_179 hnu_179 hzu_179 hK hP hD hS => ?_)
  have hK : va_K D vwCl [(cK, .object RX1)] s := hK
  have hP : va_P D vwCl ([(o, .inr (3, [.ref kA, .int 0, .int 20, .int 60, .int 2000, .int 0, .ref iA, .int 0, .int 0, .int 0, .ref tA, .ref tr, .ref lA, .int (nI n)])), (kA, .inl (cK, 10, .inr (.inr (.inr (.inr (fun _ => none)))))), (q_177, .inr (1, [.int 0, .int 1, .int 1, .int 2, .int 1, .int 0, .int 1, .int 0]))]) H := hP
  have hD : va_D A ([(o, .inr (3, [.ref kA, .int 0, .int 20, .int 60, .int 2000, .int 0, .ref iA, .int 0, .int 0, .int 0, .ref tA, .ref tr, .ref lA, .int (nI n)])), (kA, .inl (cK, 10, .inr (.inr (.inr (.inr (fun _ => none)))))), (q_177, .inr (1, [.int 0, .int 1, .int 1, .int 2, .int 1, .int 0, .int 1, .int 0]))]) := hD
  refine va_astq hx hb hK hP hD hS 1 0 2 1 rfl rfl rfl rfl (vp_in_nI (n := 0) (N := 10) (by decide) (by decide)) dX3_addKind_126 (fun H locs hP hD hS => ?_)
  have hP : va_P D vwCl ([(o, .inr (3, [.ref kA, .int 0, .int 20, .int 60, .int 2000, .int 0, .ref iA, .int 0, .int 0, .int 0, .ref tA, .ref tr, .ref lA, .int (nI n)])), (kA, .inl (cK, 10, .inr (.inr (.inr (.inr (va_up (fun _ => none) 0 (some q_177))))))), (q_177, .inr (1, [.int 0, .int 1, .int 1, .int 2, .int 1, .int 0, .int 1, .int 0]))]) H := hP
  have hD : va_D A ([(o, .inr (3, [.ref kA, .int 0, .int 20, .int 60, .int 2000, .int 0, .ref iA, .int 0, .int 0, .int 0, .ref tA, .ref tr, .ref lA, .int (nI n)])), (kA, .inl (cK, 10, .inr (.inr (.inr (.inr (va_up (fun _ => none) 0 (some q_177))))))), (q_177, .inr (1, [.int 0, .int 1, .int 1, .int 2, .int 1, .int 0, .int 1, .int 0]))]) := hD
  refine lv_aload_n hx hb dX3_addKind_127 rfl (lv_at hl 1 rfl) ?_
  refine lv_iload hx hb dX3_addKind_128 (lv_at hl 0 rfl) ?_
  refine lv_iconst (v := 1) hx hb dX3_addKind_130 (by decide) ?_
  refine lv_iadd hx hb dX3_addKind_131 ?_
  refine lv_topi (fun v_180 ev_180 => ?_)
  obtain rfl : v_180 = 1 := ev_180.trans (by decide)
  refine va_put (D := D) (ci := 3) (v := .int 1) (ty := .int) (C := RX3) (T := TX3) (N := 14) hx hb hts (fun _ h9 => List.mem_cons_of_mem _ (List.mem_append_left _ (List.mem_append_left _ (List.mem_append_left _ (List.mem_append_right _ h9))))) tyX3 tyX3_ok nmX3 hown hK hP hD hS 0 rfl rfl 1 (by decide) (hts (.fieldLink RX3 15 "PalletStack" "kindCount" "I") (List.mem_of_getElem? (i := 5) (by rfl))) (fun _ h9 => h9) rfl (by decide +kernel) rfl rfl (Nat.le_of_ble_eq_true rfl) dX3_addKind_132 (fun H locs hP hD hS => ?_)
  have hP : va_P D vwCl ([(o, .inr (3, [.ref kA, .int 1, .int 20, .int 60, .int 2000, .int 0, .ref iA, .int 0, .int 0, .int 0, .ref tA, .ref tr, .ref lA, .int (nI n)])), (kA, .inl (cK, 10, .inr (.inr (.inr (.inr (va_up (fun _ => none) 0 (some q_177))))))), (q_177, .inr (1, [.int 0, .int 1, .int 1, .int 2, .int 1, .int 0, .int 1, .int 0]))]) H := hP
  have hD : va_D A ([(o, .inr (3, [.ref kA, .int 1, .int 20, .int 60, .int 2000, .int 0, .ref iA, .int 0, .int 0, .int 0, .ref tA, .ref tr, .ref lA, .int (nI n)])), (kA, .inl (cK, 10, .inr (.inr (.inr (.inr (va_up (fun _ => none) 0 (some q_177))))))), (q_177, .inr (1, [.int 0, .int 1, .int 1, .int 2, .int 1, .int 0, .int 1, .int 0]))]) := hD
  refine lv_iload hx hb dX3_addKind_135 (lv_at hl 0 rfl) ?_
  refine W.widen (k := 1) (n := 8) (by omega) (by omega) ?_
  exact W.iret (v := 0) hx hb hr (fun t ht hW => ⟨⟨0, q_177, rfl, rfl, ⟨Nat.zero_le _, by rw [ht]; exact hP, va_K.moved hW.alike (hK.sub (tys' := [(cK, .object RX1)]) [0] rfl), hD⟩⟩, hS.F ht⟩) hS.2.2 dX3_addKind_137
set_option maxHeartbeats 4000000 in
set_option maxRecDepth 100000 in
theorem c_setRules (l : Launch) (D : zG) (sz : Nat) (o kA iA tA tr lA n : Nat) : Met l yX3_setRules wsX3_setRules ({ frames := 1, cells := 0, slots := 0, locals := 25 }) (zPc D [] ([(o, .inr (3, [.ref kA, .int 1, .int 20, .int 60, .int 2000, .int 0, .ref iA, .int 0, .int 0, .int 0, .ref tA, .ref tr, .ref lA, .int (nI n)]))]) sz [.ref o, .int 1, .int 0, .int 1, .int 0]) (va_Qi (fun (r : Int32) (u : Unit) => r = 20) (zB D (va_A ([(o, .inr (3, [.ref kA, .int 1, .int 20, .int 60, .int 2000, .int 0, .ref iA, .int 0, .int 0, .int 0, .ref tA, .ref tr, .ref lA, .int (nI n)]))]) sz) (fun _ => []) 0 (fun _ => [(o, .inr (3, [.ref kA, .int 1, .int 1, .int 0, .int 1, .int 0, .ref iA, .int 0, .int 0, .int 0, .ref tA, .ref tr, .ref lA, .int (nI n)]))])) (va_A ([(o, .inr (3, [.ref kA, .int 1, .int 20, .int 60, .int 2000, .int 0, .ref iA, .int 0, .int 0, .int 0, .ref tA, .ref tr, .ref lA, .int (nI n)]))]) sz)) 0 0 (va_A ([(o, .inr (3, [.ref kA, .int 1, .int 20, .int 60, .int 2000, .int 0, .ref iA, .int 0, .int 0, .int 0, .ref tA, .ref tr, .ref lA, .int (nI n)]))]) sz) := by
  refine Met.ofW (cc := cX3_setRules) (maxL := 6) (ret := (some .int)) (by decide) rfl ?_
  intro p e s m args below meth c s₁ B hml hv
  obtain ⟨rfl, hsz, hP, hK, hD0⟩ := hv
  have hx := B.exec
  have hb := B.bytes
  have hr := B.returns
  have hts := atoms_spec (ws := wsX3_setRules) B.pre
  have hown : s.vm.findClass RX3 = some m.cls := findClass_of_methodNamed B.named
  have hlocks := B.notSynchronized
  subst hsz
  have hD := hD0.self (sz := s.heap.size)
  generalize hAe : va_A ([(o, .inr (3, [.ref kA, .int 1, .int 20, .int 60, .int 2000, .int 0, .ref iA, .int 0, .int 0, .int 0, .ref tA, .ref tr, .ref lA, .int (nI n)]))]) s.heap.size = A at hD ⊢
  have hA : ∀ q : Nat, s.heap.size ≤ q → A q := fun q h => by rw [← hAe]; exact Or.inr h
  have hS : va_S A s.heap s.heap [] := va_S.rf
  have hl := lv_entry ([.ref o, .int 1, .int 0, .int 1, .int 0]) (n := 6) (Nat.le_of_ble_eq_true rfl)
  rw [lg_entry_eq]
  generalize (lg_sl ([.ref o, .int 1, .int 0, .int 1, .int 0]) ++ List.replicate (6 - (lg_sl ([.ref o, .int 1, .int 0, .int 1, .int 0])).length) Slot.unset).toArray = ls at hl ⊢
  have hl : lv_has ls 6 [(0, .ref o), (1, .int 1), (2, .int 0), (3, .int 1), (4, .int 0)] := hl
  have hP : va_P D vwCl ([(o, .inr (3, [.ref kA, .int 1, .int 20, .int 60, .int 2000, .int 0, .ref iA, .int 0, .int 0, .int 0, .ref tA, .ref tr, .ref lA, .int (nI n)]))]) s.heap := hP
  generalize hRe : (headSpec _ _).room = R
  have hRf : R.frames = 1 := by rw [← hRe]; rfl
  have hRc : R.cells = 0 := by rw [← hRe]; rfl
  have hRs : R.slots = 0 := by rw [← hRe]; rfl
  have hRl : R.locals = 25 := by rw [← hRe]; rfl
  clear hRe
  refine lv_iload_n hx hb dX3_setRules_0 rfl (lv_at hl 1 rfl) ?_
  refine lv_iconst (v := 1) hx hb dX3_setRules_1 (by decide) ?_
  refine lv_bipush (v := 40) hx hb dX3_setRules_2 (by decide) ?_
  refine zrdS (As := [.int 1, .int 1, .int 40]) (rest := []) (wc := []) ⟨hx, hb, hml, hown, hts⟩ (c_isWithin l D _ 1 1 40) (va_cwS 3 hts gX3_setRules_X3_isWithin rfl rfl rfl (by decide +kernel) ⟨by rw [hRf]; exact Nat.le_of_ble_eq_true rfl, by rw [hRl]; exact Nat.le_of_ble_eq_true rfl⟩) hK hP hD [] rfl (by decide) [] rfl rfl hl.1 rfl (Nat.le_of_ble_eq_true rfl) dX3_setRules_4 ⟨by omega, by omega⟩ (fun r_181 hr_181 => ?_)
  refine lv_topi (fun v_182 ev_182 => ?_)
  obtain rfl : v_182 = 1 := ev_182.trans (hr_181.trans (by decide))
  refine lv_if_eq (tgt := 31) hx hb dX3_setRules_7 (by decide) (fun c_183 => absurd c_183 (by decide)) (fun c_183 => ?_)
  refine lv_iload_n hx hb dX3_setRules_10 rfl (lv_at hl 2 rfl) ?_
  refine lv_iconst (v := 0) hx hb dX3_setRules_11 (by decide) ?_
  refine lv_bipush (v := 100) hx hb dX3_setRules_12 (by decide) ?_
  refine zrdS (As := [.int 0, .int 0, .int 100]) (rest := []) (wc := []) ⟨hx, hb, hml, hown, hts⟩ (c_isWithin l D _ 0 0 100) (va_cwS 3 hts gX3_setRules_X3_isWithin rfl rfl rfl (by decide +kernel) ⟨by rw [hRf]; exact Nat.le_of_ble_eq_true rfl, by rw [hRl]; exact Nat.le_of_ble_eq_true rfl⟩) hK hP hD [] rfl (by decide) [] rfl rfl hl.1 rfl (Nat.le_of_ble_eq_true rfl) dX3_setRules_14 ⟨by omega, by omega⟩ (fun r_184 hr_184 => ?_)
  refine lv_topi (fun v_185 ev_185 => ?_)
  obtain rfl : v_185 = 1 := ev_185.trans (hr_184.trans (by decide))
  refine lv_if_eq (tgt := 31) hx hb dX3_setRules_17 (by decide) (fun c_186 => absurd c_186 (by decide)) (fun c_186 => ?_)
  refine lv_iload_n hx hb dX3_setRules_20 rfl (lv_at hl 3 rfl) ?_
  refine lv_iconst (v := 1) hx hb dX3_setRules_21 (by decide) ?_
  refine lv_sipush (v := 20000) hx hb dX3_setRules_22 (by decide) ?_
  refine zrdS (As := [.int 1, .int 1, .int 20000]) (rest := []) (wc := []) ⟨hx, hb, hml, hown, hts⟩ (c_isWithin l D _ 1 1 20000) (va_cwS 3 hts gX3_setRules_X3_isWithin rfl rfl rfl (by decide +kernel) ⟨by rw [hRf]; exact Nat.le_of_ble_eq_true rfl, by rw [hRl]; exact Nat.le_of_ble_eq_true rfl⟩) hK hP hD [] rfl (by decide) [] rfl rfl hl.1 rfl (Nat.le_of_ble_eq_true rfl) dX3_setRules_25 ⟨by omega, by omega⟩ (fun r_187 hr_187 => ?_)
  refine lv_topi (fun v_188 ev_188 => ?_)
  obtain rfl : v_188 = 1 := ev_188.trans (hr_187.trans (by decide))
  refine lv_if_ne (tgt := 39) hx hb dX3_setRules_28 (by decide) (fun c_189 => ?_) (fun c_189 => absurd c_189 (by decide))
  refine lv_aload_n hx hb dX3_setRules_39 rfl (lv_at hl 0 rfl) ?_
  refine va_get (D := D) (ci := 3) (v := .int 20) (C := RX3) (T := TX3) (N := 14) hx hb hts (fun _ h9 => List.mem_cons_of_mem _ (List.mem_append_left _ (List.mem_append_right _ h9))) hown hK hP 0 rfl rfl 2 (by decide) (hts (.fieldLink RX3 19 "PalletStack" "greatestHeight" "I") (List.mem_of_getElem? (i := 3) (by rfl))) (fun _ h9 => h9) rfl dX3_setRules_40 ?_
  refine lv_istore (lv' := [(5, .int 20), (0, .ref o), (1, .int 1), (2, .int 0), (3, .int 1), (4, .int 0)]) hx hb dX3_setRules_43 hl (by decide) rfl (fun ls hl => ?_)
  refine lv_aload_n hx hb dX3_setRules_45 rfl (lv_at hl 1 rfl) ?_
  refine lv_iload_n hx hb dX3_setRules_46 rfl (lv_at hl 2 rfl) ?_
  refine va_put (D := D) (ci := 3) (v := .int 1) (ty := .int) (C := RX3) (T := TX3) (N := 14) hx hb hts (fun _ h9 => List.mem_cons_of_mem _ (List.mem_append_left _ (List.mem_append_right _ h9))) tyX3 tyX3_ok nmX3 hown hK hP hD hS 0 rfl rfl 2 (by decide) (hts (.fieldLink RX3 19 "PalletStack" "greatestHeight" "I") (List.mem_of_getElem? (i := 3) (by rfl))) (fun _ h9 => h9) rfl (by decide +kernel) rfl rfl (Nat.le_of_ble_eq_true rfl) dX3_setRules_47 (fun H locs hP hD hS => ?_)
  have hP : va_P D vwCl ([(o, .inr (3, [.ref kA, .int 1, .int 1, .int 60, .int 2000, .int 0, .ref iA, .int 0, .int 0, .int 0, .ref tA, .ref tr, .ref lA, .int (nI n)]))]) H := hP
  have hD : va_D A ([(o, .inr (3, [.ref kA, .int 1, .int 1, .int 60, .int 2000, .int 0, .ref iA, .int 0, .int 0, .int 0, .ref tA, .ref tr, .ref lA, .int (nI n)]))]) := hD
  refine lv_aload_n hx hb dX3_setRules_50 rfl (lv_at hl 1 rfl) ?_
  refine lv_iload_n hx hb dX3_setRules_51 rfl (lv_at hl 3 rfl) ?_
  refine va_put (D := D) (ci := 3) (v := .int 0) (ty := .int) (C := RX3) (T := TX3) (N := 14) hx hb hts (fun _ h9 => List.mem_cons_of_mem _ (List.mem_append_left _ (List.mem_append_right _ h9))) tyX3 tyX3_ok nmX3 hown hK hP hD hS 0 rfl rfl 3 (by decide) (hts (.fieldLink RX3 22 "PalletStack" "support" "I") (List.mem_of_getElem? (i := 4) (by rfl))) (fun _ h9 => h9) rfl (by decide +kernel) rfl rfl (Nat.le_of_ble_eq_true rfl) dX3_setRules_52 (fun H locs hP hD hS => ?_)
  have hP : va_P D vwCl ([(o, .inr (3, [.ref kA, .int 1, .int 1, .int 0, .int 2000, .int 0, .ref iA, .int 0, .int 0, .int 0, .ref tA, .ref tr, .ref lA, .int (nI n)]))]) H := hP
  have hD : va_D A ([(o, .inr (3, [.ref kA, .int 1, .int 1, .int 0, .int 2000, .int 0, .ref iA, .int 0, .int 0, .int 0, .ref tA, .ref tr, .ref lA, .int (nI n)]))]) := hD
  refine lv_aload_n hx hb dX3_setRules_55 rfl (lv_at hl 1 rfl) ?_
  refine lv_iload_n hx hb dX3_setRules_56 rfl (lv_at hl 4 rfl) ?_
  refine va_put (D := D) (ci := 3) (v := .int 1) (ty := .int) (C := RX3) (T := TX3) (N := 14) hx hb hts (fun _ h9 => List.mem_cons_of_mem _ (List.mem_append_left _ (List.mem_append_right _ h9))) tyX3 tyX3_ok nmX3 hown hK hP hD hS 0 rfl rfl 4 (by decide) (hts (.fieldLink RX3 25 "PalletStack" "limit" "I") (List.mem_of_getElem? (i := 5) (by rfl))) (fun _ h9 => h9) rfl (by decide +kernel) rfl rfl (Nat.le_of_ble_eq_true rfl) dX3_setRules_57 (fun H locs hP hD hS => ?_)
  have hP : va_P D vwCl ([(o, .inr (3, [.ref kA, .int 1, .int 1, .int 0, .int 1, .int 0, .ref iA, .int 0, .int 0, .int 0, .ref tA, .ref tr, .ref lA, .int (nI n)]))]) H := hP
  have hD : va_D A ([(o, .inr (3, [.ref kA, .int 1, .int 1, .int 0, .int 1, .int 0, .ref iA, .int 0, .int 0, .int 0, .ref tA, .ref tr, .ref lA, .int (nI n)]))]) := hD
  refine lv_aload_n hx hb dX3_setRules_60 rfl (lv_at hl 1 rfl) ?_
  refine lv_iload hx hb dX3_setRules_61 (lv_at hl 5 rfl) ?_
  refine va_put (D := D) (ci := 3) (v := .int 0) (ty := .boolean) (C := RX3) (T := TX3) (N := 14) hx hb hts (fun _ h9 => List.mem_cons_of_mem _ (List.mem_append_left _ (List.mem_append_right _ h9))) tyX3 tyX3_ok nmX3 hown hK hP hD hS 0 rfl rfl 5 (by decide) (hts (.fieldLink RX3 28 "PalletStack" "hasCornerRule" "Z") (List.mem_of_getElem? (i := 6) (by rfl))) (fun _ h9 => h9) rfl (by decide +kernel) rfl rfl (Nat.le_of_ble_eq_true rfl) dX3_setRules_63 (fun H locs hP hD hS => ?_)
  have hP : va_P D vwCl ([(o, .inr (3, [.ref kA, .int 1, .int 1, .int 0, .int 1, .int 0, .ref iA, .int 0, .int 0, .int 0, .ref tA, .ref tr, .ref lA, .int (nI n)]))]) H := hP
  have hD : va_D A ([(o, .inr (3, [.ref kA, .int 1, .int 1, .int 0, .int 1, .int 0, .ref iA, .int 0, .int 0, .int 0, .ref tA, .ref tr, .ref lA, .int (nI n)]))]) := hD
  refine lv_iload hx hb dX3_setRules_66 (lv_at hl 0 rfl) ?_
  exact W.iret (v := 20) hx hb hr (fun t ht hW => ⟨⟨20, (), rfl, rfl, ⟨Nat.zero_le _, by rw [ht]; exact hP, va_K.moved hW.alike (hK.sub (tys' := []) [] rfl), hD⟩⟩, hS.F ht⟩) hS.2.2 dX3_setRules_68
end
section
set_option maxHeartbeats 4000000 in
set_option maxRecDepth 100000 in
theorem c_isIn (l : Launch) (D : zG) (sz : Nat) (a b c1 : Int32) : Met l yX4_isIn wsX4_isIn ({ frames := 0, cells := 0, slots := 0, locals := 0 }) (zPc D [] ([]) sz [.int a, .int b, .int c1]) (vp_Si (fun r => r = if b ≤ a ∧ a ≤ c1 then 1 else 0)) 0 0 (fun _ => False) := by
  refine Met.ofW (cc := cX4_isIn) (maxL := 3) (ret := (some .boolean)) (by decide) rfl ?_
  intro p e s m args below meth c s₁ B hml hv
  obtain ⟨rfl, hsz, hP, hK, hD0⟩ := hv
  have hx := B.exec
  have hb := B.bytes
  have hr := B.returns
  have hts := atoms_spec (ws := wsX4_isIn) B.pre
  have hown : s.vm.findClass RX4 = some m.cls := findClass_of_methodNamed B.named
  have hlocks := B.notSynchronized
  subst hsz
  have hD := hD0
  generalize hAe : (fun _ : Nat => True) = A at hD
  have hl := lv_entry ([.int a, .int b, .int c1]) (n := 3) (Nat.le_of_ble_eq_true rfl)
  rw [lg_entry_eq]
  generalize (lg_sl ([.int a, .int b, .int c1]) ++ List.replicate (3 - (lg_sl ([.int a, .int b, .int c1])).length) Slot.unset).toArray = ls at hl ⊢
  have hl : lv_has ls 3 [(0, .int a), (1, .int b), (2, .int c1)] := hl
  have hP : va_P D vwCl ([]) s.heap := hP
  generalize hRe : (headSpec _ _).room = R
  have hRf : R.frames = 0 := by rw [← hRe]; rfl
  have hRc : R.cells = 0 := by rw [← hRe]; rfl
  have hRs : R.slots = 0 := by rw [← hRe]; rfl
  have hRl : R.locals = 0 := by rw [← hRe]; rfl
  clear hRe
  refine lv_iload_n hx hb dX4_isIn_0 rfl (lv_at hl 0 rfl) ?_
  refine lv_iload_n hx hb dX4_isIn_1 rfl (lv_at hl 1 rfl) ?_
  refine lv_icmp_lt (tgt := 14) hx hb dX4_isIn_2 (by decide) (fun c_1 => ?_) (fun c_1 => ?_)
  · have h_b := True.intro
    refine lv_iconst (v := 0) hx hb dX4_isIn_14 (by decide) ?_
    exact W.zret (ty := .boolean) (v := 0) hx hb hr rfl (fun t ht hW => ⟨0, rfl, (if_neg (fun h => absurd h.1 (Int32.not_le.mpr c_1))).symm, ht⟩) (fun _ h => by cases h) dX4_isIn_15
  · have h_b := True.intro
    refine lv_iload_n hx hb dX4_isIn_5 rfl (lv_at hl 0 rfl) ?_
    refine lv_iload_n hx hb dX4_isIn_6 rfl (lv_at hl 2 rfl) ?_
    refine lv_icmp_gt (tgt := 14) hx hb dX4_isIn_7 (by decide) (fun c_2 => ?_) (fun c_2 => ?_)
    · have h_b := True.intro
      refine lv_iconst (v := 0) hx hb dX4_isIn_14 (by decide) ?_
      exact W.zret (ty := .boolean) (v := 0) hx hb hr rfl (fun t ht hW => ⟨0, rfl, (if_neg (fun h => absurd h.2 (Int32.not_le.mpr c_2))).symm, ht⟩) (fun _ h => by cases h) dX4_isIn_15
    · have h_b := True.intro
      refine lv_iconst (v := 1) hx hb dX4_isIn_10 (by decide) ?_
      refine lv_goto (tgt := 15) hx hb dX4_isIn_11 (by decide) ?_
      exact W.zret (ty := .boolean) (v := 1) hx hb hr rfl (fun t ht hW => ⟨1, rfl, (if_pos ⟨Int32.not_lt.mp c_1, Int32.not_lt.mp c_2⟩).symm, ht⟩) (fun _ h => by cases h) dX4_isIn_15
set_option maxHeartbeats 4000000 in
set_option maxRecDepth 100000 in
theorem c_canTurn (l : Launch) (D : zG) (sz : Nat)  : Met l yX4_canTurn wsX4_canTurn ({ frames := 0, cells := 0, slots := 0, locals := 0 }) (zPc D [] ([]) sz [.int 1]) (vp_Si (fun r => r = 1)) 0 0 (fun _ => False) := by
  refine Met.ofW (cc := cX4_canTurn) (maxL := 1) (ret := (some .boolean)) (by decide) rfl ?_
  intro p e s m args below meth c s₁ B hml hv
  obtain ⟨rfl, hsz, hP, hK, hD0⟩ := hv
  have hx := B.exec
  have hb := B.bytes
  have hr := B.returns
  have hts := atoms_spec (ws := wsX4_canTurn) B.pre
  have hown : s.vm.findClass RX4 = some m.cls := findClass_of_methodNamed B.named
  have hlocks := B.notSynchronized
  subst hsz
  have hD := hD0
  generalize hAe : (fun _ : Nat => True) = A at hD
  have hl := lv_entry ([.int 1]) (n := 1) (Nat.le_of_ble_eq_true rfl)
  rw [lg_entry_eq]
  generalize (lg_sl ([.int 1]) ++ List.replicate (1 - (lg_sl ([.int 1])).length) Slot.unset).toArray = ls at hl ⊢
  have hl : lv_has ls 1 [(0, .int 1)] := hl
  have hP : va_P D vwCl ([]) s.heap := hP
  generalize hRe : (headSpec _ _).room = R
  have hRf : R.frames = 0 := by rw [← hRe]; rfl
  have hRc : R.cells = 0 := by rw [← hRe]; rfl
  have hRs : R.slots = 0 := by rw [← hRe]; rfl
  have hRl : R.locals = 0 := by rw [← hRe]; rfl
  clear hRe
  refine lv_iload_n hx hb dX4_canTurn_0 rfl (lv_at hl 0 rfl) ?_
  refine lv_iconst (v := 2) hx hb dX4_canTurn_1 (by decide) ?_
  refine lv_irem hx hb dX4_canTurn_2 (by decide) ?_
  refine lv_topi (fun v_3 ev_3 => ?_)
  obtain rfl : v_3 = 1 := ev_3.trans (by decide)
  refine lv_iconst (v := 1) hx hb dX4_canTurn_3 (by decide) ?_
  refine lv_icmp_ne (tgt := 11) hx hb dX4_canTurn_4 (by decide) (fun c_4 => absurd (rfl) c_4) (fun c_4 => ?_)
  refine lv_iconst (v := 1) hx hb dX4_canTurn_7 (by decide) ?_
  refine lv_goto (tgt := 12) hx hb dX4_canTurn_8 (by decide) ?_
  exact W.zret (ty := .boolean) (v := 1) hx hb hr rfl (fun t ht hW => ⟨1, rfl, rfl, ht⟩) (fun _ h => by cases h) dX4_canTurn_12
set_option maxHeartbeats 4000000 in
set_option maxRecDepth 100000 in
theorem c_needsDeck (l : Launch) (D : zG) (sz : Nat)  : Met l yX4_needsDeck wsX4_needsDeck ({ frames := 0, cells := 0, slots := 0, locals := 0 }) (zPc D [] ([]) sz [.int 1]) (vp_Si (fun r => r = 0)) 0 0 (fun _ => False) := by
  refine Met.ofW (cc := cX4_needsDeck) (maxL := 1) (ret := (some .boolean)) (by decide) rfl ?_
  intro p e s m args below meth c s₁ B hml hv
  obtain ⟨rfl, hsz, hP, hK, hD0⟩ := hv
  have hx := B.exec
  have hb := B.bytes
  have hr := B.returns
  have hts := atoms_spec (ws := wsX4_needsDeck) B.pre
  have hown : s.vm.findClass RX4 = some m.cls := findClass_of_methodNamed B.named
  have hlocks := B.notSynchronized
  subst hsz
  have hD := hD0
  generalize hAe : (fun _ : Nat => True) = A at hD
  have hl := lv_entry ([.int 1]) (n := 1) (Nat.le_of_ble_eq_true rfl)
  rw [lg_entry_eq]
  generalize (lg_sl ([.int 1]) ++ List.replicate (1 - (lg_sl ([.int 1])).length) Slot.unset).toArray = ls at hl ⊢
  have hl : lv_has ls 1 [(0, .int 1)] := hl
  have hP : va_P D vwCl ([]) s.heap := hP
  generalize hRe : (headSpec _ _).room = R
  have hRf : R.frames = 0 := by rw [← hRe]; rfl
  have hRc : R.cells = 0 := by rw [← hRe]; rfl
  have hRs : R.slots = 0 := by rw [← hRe]; rfl
  have hRl : R.locals = 0 := by rw [← hRe]; rfl
  clear hRe
  refine lv_iload_n hx hb dX4_needsDeck_0 rfl (lv_at hl 0 rfl) ?_
  refine lv_iconst (v := 1) hx hb dX4_needsDeck_1 (by decide) ?_
  refine lv_icmp_le (tgt := 9) hx hb dX4_needsDeck_2 (by decide) (fun c_5 => ?_) (fun c_5 => absurd (by decide) c_5)
  refine lv_iconst (v := 0) hx hb dX4_needsDeck_9 (by decide) ?_
  exact W.zret (ty := .boolean) (v := 0) hx hb hr rfl (fun t ht hW => ⟨0, rfl, rfl, ht⟩) (fun _ h => by cases h) dX4_needsDeck_10
set_option maxHeartbeats 4000000 in
set_option maxRecDepth 100000 in
theorem c_kind (l : Launch) (D : zG) (sz : Nat) (mo kT tb ld lK lC n : Nat) (e1 : ClassId) (g : Nat → Int32) (v : Int32) (k : Nat) (hv : v = nI k) (hk : k < 6) : Met l yX4_kind wsX4_kind ({ frames := 0, cells := 0, slots := 0, locals := 0 }) (zPc D [(e1, .int)] ([(mo, .inr (4, [.int 0, .int 1, .ref kT, .int 1, .int 0, .int 1, .int 0, .int 0, .ref tb, .ref ld, .int (nI n), .ref lK, .ref lC, .int 0])), (kT, .inl (e1, 60, .inl (g)))]) sz [.ref mo, .int 0, .int v]) (vp_Si (fun r => r = g k)) 0 0 (fun _ => False) := by
  refine Met.ofW (cc := cX4_kind) (maxL := 3) (ret := (some .int)) (by decide) rfl ?_
  intro p e s m args below meth c s₁ B hml hv
  obtain ⟨rfl, hsz, hP, hK, hD0⟩ := hv
  have hx := B.exec
  have hb := B.bytes
  have hr := B.returns
  have hts := atoms_spec (ws := wsX4_kind) B.pre
  have hown : s.vm.findClass RX4 = some m.cls := findClass_of_methodNamed B.named
  have hlocks := B.notSynchronized
  subst hsz
  have hD := hD0
  generalize hAe : (fun _ : Nat => True) = A at hD
  have hl := lv_entry ([.ref mo, .int 0, .int v]) (n := 3) (Nat.le_of_ble_eq_true rfl)
  rw [lg_entry_eq]
  generalize (lg_sl ([.ref mo, .int 0, .int v]) ++ List.replicate (3 - (lg_sl ([.ref mo, .int 0, .int v])).length) Slot.unset).toArray = ls at hl ⊢
  have hl : lv_has ls 3 [(0, .ref mo), (1, .int 0), (2, .int v)] := hl
  have hP : va_P D vwCl ([(mo, .inr (4, [.int 0, .int 1, .ref kT, .int 1, .int 0, .int 1, .int 0, .int 0, .ref tb, .ref ld, .int (nI n), .ref lK, .ref lC, .int 0])), (kT, .inl (e1, 60, .inl (g)))]) s.heap := hP
  generalize hRe : (headSpec _ _).room = R
  have hRf : R.frames = 0 := by rw [← hRe]; rfl
  have hRc : R.cells = 0 := by rw [← hRe]; rfl
  have hRs : R.slots = 0 := by rw [← hRe]; rfl
  have hRl : R.locals = 0 := by rw [← hRe]; rfl
  clear hRe
  subst hv
  refine lv_aload_n hx hb dX4_kind_0 rfl (lv_at hl 0 rfl) ?_
  refine va_get (D := D) (ci := 4) (v := .ref kT) (C := RX4) (T := TX4) (N := 14) hx hb hts (fun _ h9 => List.mem_cons_of_mem _ (List.mem_append_right _ h9)) hown hK hP 0 rfl rfl 2 (by decide) (hts (.fieldLink RX4 9 "PalletStackModel" "kindTable" "[I") (List.mem_of_getElem? (i := 1) (by rfl))) (fun _ h9 => h9) rfl dX4_kind_1 ?_
  refine lv_bipush (v := 6) hx hb dX4_kind_4 (by decide) ?_
  refine lv_iload_n hx hb dX4_kind_6 rfl (lv_at hl 1 rfl) ?_
  refine lv_imul hx hb dX4_kind_7 ?_
  refine lv_topi (fun v_6 ev_6 => ?_)
  obtain rfl : v_6 = 0 := ev_6.trans (by decide)
  refine lv_iload_n hx hb dX4_kind_8 rfl (lv_at hl 2 rfl) ?_
  refine lv_iadd hx hb dX4_kind_9 ?_
  refine lv_topi (fun v_7 ev_7 => ?_)
  obtain rfl : v_7 = (nI k) := ev_7.trans (Int32.zero_add _)
  refine va_iald hx hb hK hP 1 0 rfl rfl (vp_in_nI (N := 60) (by omega) (by decide)) dX4_kind_10 ?_
  refine lv_topi (fun v_8 ev_8 => ?_)
  obtain rfl : v_8 = (g k) := ev_8.trans (by rw [nI_clamp (by omega)])
  exact W.iret (v := (g k)) hx hb hr (fun t ht hW => ⟨(g k), rfl, rfl, ht⟩) (fun _ h => by cases h) dX4_kind_11
set_option maxHeartbeats 4000000 in
set_option maxRecDepth 100000 in
theorem c_get (l : Launch) (D : zG) (sz : Nat) (mo kT tb ld lK lC n : Nat) (e2 : ClassId) (tf : Nat → Int32) (v : Int32) (k : Nat) (hv : v = nI k) (hk : k < 6) : Met l yX4_get wsX4_get ({ frames := 0, cells := 0, slots := 0, locals := 0 }) (zPc D [(e2, .int)] ([(mo, .inr (4, [.int 0, .int 1, .ref kT, .int 1, .int 0, .int 1, .int 0, .int 0, .ref tb, .ref ld, .int (nI n), .ref lK, .ref lC, .int 0])), (tb, .inl (e2, 366, .inl (tf)))]) sz [.ref mo, .int 60, .int v]) (vp_Si (fun r => r = tf (360 + k))) 0 0 (fun _ => False) := by
  refine Met.ofW (cc := cX4_get) (maxL := 3) (ret := (some .int)) (by decide) rfl ?_
  intro p e s m args below meth c s₁ B hml hv
  obtain ⟨rfl, hsz, hP, hK, hD0⟩ := hv
  have hx := B.exec
  have hb := B.bytes
  have hr := B.returns
  have hts := atoms_spec (ws := wsX4_get) B.pre
  have hown : s.vm.findClass RX4 = some m.cls := findClass_of_methodNamed B.named
  have hlocks := B.notSynchronized
  subst hsz
  have hD := hD0
  generalize hAe : (fun _ : Nat => True) = A at hD
  have hl := lv_entry ([.ref mo, .int 60, .int v]) (n := 3) (Nat.le_of_ble_eq_true rfl)
  rw [lg_entry_eq]
  generalize (lg_sl ([.ref mo, .int 60, .int v]) ++ List.replicate (3 - (lg_sl ([.ref mo, .int 60, .int v])).length) Slot.unset).toArray = ls at hl ⊢
  have hl : lv_has ls 3 [(0, .ref mo), (1, .int 60), (2, .int v)] := hl
  have hP : va_P D vwCl ([(mo, .inr (4, [.int 0, .int 1, .ref kT, .int 1, .int 0, .int 1, .int 0, .int 0, .ref tb, .ref ld, .int (nI n), .ref lK, .ref lC, .int 0])), (tb, .inl (e2, 366, .inl (tf)))]) s.heap := hP
  generalize hRe : (headSpec _ _).room = R
  have hRf : R.frames = 0 := by rw [← hRe]; rfl
  have hRc : R.cells = 0 := by rw [← hRe]; rfl
  have hRs : R.slots = 0 := by rw [← hRe]; rfl
  have hRl : R.locals = 0 := by rw [← hRe]; rfl
  clear hRe
  subst hv
  refine lv_aload_n hx hb dX4_get_0 rfl (lv_at hl 0 rfl) ?_
  refine va_get (D := D) (ci := 4) (v := .ref tb) (C := RX4) (T := TX4) (N := 14) hx hb hts (fun _ h9 => List.mem_cons_of_mem _ (List.mem_append_right _ h9)) hown hK hP 0 rfl rfl 8 (by decide) (hts (.fieldLink RX4 23 "PalletStackModel" "table" "[I") (List.mem_of_getElem? (i := 1) (by rfl))) (fun _ h9 => h9) rfl dX4_get_1 ?_
  refine lv_bipush (v := 6) hx hb dX4_get_4 (by decide) ?_
  refine lv_iload_n hx hb dX4_get_6 rfl (lv_at hl 1 rfl) ?_
  refine lv_imul hx hb dX4_get_7 ?_
  refine lv_topi (fun v_9 ev_9 => ?_)
  obtain rfl : v_9 = (nI 360) := ev_9.trans (by decide)
  refine lv_iload_n hx hb dX4_get_8 rfl (lv_at hl 2 rfl) ?_
  refine lv_iadd hx hb dX4_get_9 ?_
  refine lv_topi (fun v_10 ev_10 => ?_)
  obtain rfl : v_10 = (nI (360 + k)) := ev_10.trans (nI_add _ _)
  refine va_iald hx hb hK hP 1 0 rfl rfl (vp_in_nI (N := 366) (by omega) (by decide)) dX4_get_10 ?_
  refine lv_topi (fun v_11 ev_11 => ?_)
  obtain rfl : v_11 = (tf (360 + k)) := ev_11.trans (by rw [nI_clamp (by omega)])
  exact W.iret (v := (tf (360 + k))) hx hb hr (fun t ht hW => ⟨(tf (360 + k)), rfl, rfl, ht⟩) (fun _ h => by cases h) dX4_get_11
set_option maxHeartbeats 4000000 in
set_option maxRecDepth 100000 in
theorem c_topOfM (l : Launch) (D : zG) (sz : Nat) (mo kT tb ld lK lC n : Nat) (e1 e2 : ClassId) (g : Nat → Int32) (hg : g 0 = 1 ∧ g 1 = 1 ∧ g 2 = 2 ∧ g 3 = 1 ∧ g 4 = 0 ∧ g 5 = 1) (tf : Nat → Int32) (h0 : tf 360 = 0) (h3 : tf 363 = 0) : Met l yX4_topOf wsX4_topOf ({ frames := 1, cells := 0, slots := 0, locals := 22 }) (zPc D [(e1, .int), (e2, .int)] ([(mo, .inr (4, [.int 0, .int 1, .ref kT, .int 1, .int 0, .int 1, .int 0, .int 0, .ref tb, .ref ld, .int (nI n), .ref lK, .ref lC, .int 0])), (kT, .inl (e1, 60, .inl (g))), (tb, .inl (e2, 366, .inl (tf)))]) sz [.ref mo, .int 60]) (vp_Si (fun r => r = 2)) 0 0 (fun _ => False) := by
  refine Met.ofW (cc := cX4_topOf) (maxL := 2) (ret := (some .int)) (by decide) rfl ?_
  intro p e s m args below meth c s₁ B hml hv
  obtain ⟨rfl, hsz, hP, hK, hD0⟩ := hv
  have hx := B.exec
  have hb := B.bytes
  have hr := B.returns
  have hts := atoms_spec (ws := wsX4_topOf) B.pre
  have hown : s.vm.findClass RX4 = some m.cls := findClass_of_methodNamed B.named
  have hlocks := B.notSynchronized
  subst hsz
  have hD := hD0
  generalize hAe : (fun _ : Nat => True) = A at hD
  have hl := lv_entry ([.ref mo, .int 60]) (n := 2) (Nat.le_of_ble_eq_true rfl)
  rw [lg_entry_eq]
  generalize (lg_sl ([.ref mo, .int 60]) ++ List.replicate (2 - (lg_sl ([.ref mo, .int 60])).length) Slot.unset).toArray = ls at hl ⊢
  have hl : lv_has ls 2 [(0, .ref mo), (1, .int 60)] := hl
  have hP : va_P D vwCl ([(mo, .inr (4, [.int 0, .int 1, .ref kT, .int 1, .int 0, .int 1, .int 0, .int 0, .ref tb, .ref ld, .int (nI n), .ref lK, .ref lC, .int 0])), (kT, .inl (e1, 60, .inl (g))), (tb, .inl (e2, 366, .inl (tf)))]) s.heap := hP
  generalize hRe : (headSpec _ _).room = R
  have hRf : R.frames = 1 := by rw [← hRe]; rfl
  have hRc : R.cells = 0 := by rw [← hRe]; rfl
  have hRs : R.slots = 0 := by rw [← hRe]; rfl
  have hRl : R.locals = 22 := by rw [← hRe]; rfl
  clear hRe
  refine lv_aload_n hx hb dX4_topOf_0 rfl (lv_at hl 0 rfl) ?_
  refine lv_iload_n hx hb dX4_topOf_1 rfl (lv_at hl 1 rfl) ?_
  refine lv_iconst (v := 3) hx hb dX4_topOf_2 (by decide) ?_
  refine zrdV (As := [.int 60, .int 3]) (rest := []) (wc := [(mo, .inr (4, [.int 0, .int 1, .ref kT, .int 1, .int 0, .int 1, .int 0, .int 0, .ref tb, .ref ld, .int (nI n), .ref lK, .ref lC, .int 0])), (tb, .inl (e2, 366, .inl (tf)))]) ⟨hx, hb, hml, hown, hts⟩ (c_get l D _ mo kT tb ld lK lC n e2 tf 3 3 rfl (by decide)) (cwV 2 hts gX4_topOf_X4_get rfl rfl rfl (by decide +kernel) ⟨by rw [hRf]; exact Nat.le_of_ble_eq_true rfl, by rw [hRl]; exact Nat.le_of_ble_eq_true rfl⟩) hK hP hD [0, 2] rfl (by decide) [1] rfl (ci := 4) (q0 := 0) rfl rfl rfl hl.1 rfl (Nat.le_of_ble_eq_true rfl) dX4_topOf_3 ⟨by omega, by omega⟩ (fun r_12 hr_12 => ?_)
  refine lv_topi (fun v_13 ev_13 => ?_)
  obtain rfl : v_13 = 0 := ev_13.trans (hr_12.trans h3)
  refine lv_aload_n hx hb dX4_topOf_6 rfl (lv_at hl 0 rfl) ?_
  refine lv_aload_n hx hb dX4_topOf_7 rfl (lv_at hl 0 rfl) ?_
  refine lv_iload_n hx hb dX4_topOf_8 rfl (lv_at hl 1 rfl) ?_
  refine lv_iconst (v := 0) hx hb dX4_topOf_9 (by decide) ?_
  refine zrdV (As := [.int 60, .int 0]) (rest := [.ref mo, .int 0]) (wc := [(mo, .inr (4, [.int 0, .int 1, .ref kT, .int 1, .int 0, .int 1, .int 0, .int 0, .ref tb, .ref ld, .int (nI n), .ref lK, .ref lC, .int 0])), (tb, .inl (e2, 366, .inl (tf)))]) ⟨hx, hb, hml, hown, hts⟩ (c_get l D _ mo kT tb ld lK lC n e2 tf 0 0 rfl (by decide)) (cwV 2 hts gX4_topOf_X4_get rfl rfl rfl (by decide +kernel) ⟨by rw [hRf]; exact Nat.le_of_ble_eq_true rfl, by rw [hRl]; exact Nat.le_of_ble_eq_true rfl⟩) hK hP hD [0, 2] rfl (by decide) [1] rfl (ci := 4) (q0 := 0) rfl rfl rfl hl.1 rfl (Nat.le_of_ble_eq_true rfl) dX4_topOf_10 ⟨by omega, by omega⟩ (fun r_14 hr_14 => ?_)
  refine lv_topi (fun v_15 ev_15 => ?_)
  obtain rfl : v_15 = 0 := ev_15.trans (hr_14.trans h0)
  refine lv_iconst (v := 2) hx hb dX4_topOf_13 (by decide) ?_
  refine zrdV (As := [.int 0, .int 2]) (rest := [.int 0]) (wc := [(mo, .inr (4, [.int 0, .int 1, .ref kT, .int 1, .int 0, .int 1, .int 0, .int 0, .ref tb, .ref ld, .int (nI n), .ref lK, .ref lC, .int 0])), (kT, .inl (e1, 60, .inl (g)))]) ⟨hx, hb, hml, hown, hts⟩ (c_kind l D _ mo kT tb ld lK lC n e1 g 2 2 rfl (by decide)) (cwV 2 hts gX4_topOf_X4_kind rfl rfl rfl (by decide +kernel) ⟨by rw [hRf]; exact Nat.le_of_ble_eq_true rfl, by rw [hRl]; exact Nat.le_of_ble_eq_true rfl⟩) hK hP hD [0, 1] rfl (by decide) [0] rfl (ci := 4) (q0 := 0) rfl rfl rfl hl.1 rfl (Nat.le_of_ble_eq_true rfl) dX4_topOf_14 ⟨by omega, by omega⟩ (fun r_16 hr_16 => ?_)
  refine lv_topi (fun v_17 ev_17 => ?_)
  obtain rfl : v_17 = 2 := ev_17.trans (hr_16.trans hg.2.2.1)
  refine lv_iadd hx hb dX4_topOf_17 ?_
  refine lv_topi (fun v_18 ev_18 => ?_)
  obtain rfl : v_18 = 2 := ev_18.trans (by decide)
  exact W.iret (v := 2) hx hb hr (fun t ht hW => ⟨2, rfl, rfl, ht⟩) (fun _ h => by cases h) dX4_topOf_18
set_option maxHeartbeats 4000000 in
set_option maxRecDepth 100000 in
theorem c_lay_0 (l : Launch) (D : zG) (sz : Nat) (mo kT tb ld lK lC n : Nat) (e2 : ClassId) (tf : Nat → Int32) (a b : Nat) : Met l yX4_lay wsX4_lay ({ frames := 1, cells := 1, slots := 6, locals := 400 }) (zPc D [(e2, .int)] ([(mo, .inr (4, [.int 0, .int 1, .ref kT, .int 1, .int 0, .int 1, .int 0, .int 0, .ref tb, .ref ld, .int (nI n), .ref lK, .ref lC, .int 0])), (tb, .inl (e2, 366, .inl (tf)))]) sz [.ref mo, .int 60, .int 0, .int (nI a), .int (nI b), .int 0]) (va_Qv (fun (u : Nat → Int32) => u 360 = 0 ∧ u 363 = 0) (zB D (va_A ([(mo, .inr (4, [.int 0, .int 1, .ref kT, .int 1, .int 0, .int 1, .int 0, .int 0, .ref tb, .ref ld, .int (nI n), .ref lK, .ref lC, .int 0])), (tb, .inl (e2, 366, .inl (tf)))]) sz) (fun _ => []) (sz + 1) (fun u => [(mo, .inr (4, [.int 0, .int 1, .ref kT, .int 1, .int 0, .int 1, .int 0, .int 0, .ref tb, .ref ld, .int (nI n), .ref lK, .ref lC, .int 0])), (tb, .inl (e2, 366, .inl (u)))])) (va_A ([(mo, .inr (4, [.int 0, .int 1, .ref kT, .int 1, .int 0, .int 1, .int 0, .int 0, .ref tb, .ref ld, .int (nI n), .ref lK, .ref lC, .int 0])), (tb, .inl (e2, 366, .inl (tf)))]) sz)) 1 6 (va_A ([(mo, .inr (4, [.int 0, .int 1, .ref kT, .int 1, .int 0, .int 1, .int 0, .int 0, .ref tb, .ref ld, .int (nI n), .ref lK, .ref lC, .int 0])), (tb, .inl (e2, 366, .inl (tf)))]) sz) := by
  refine Met.ofW (cc := cX4_lay) (maxL := 9) (ret := none) (by decide) rfl ?_
  intro p e s m args below meth c s₁ B hml hv
  obtain ⟨rfl, hsz, hP, hK, hD0⟩ := hv
  have hx := B.exec
  have hb := B.bytes
  have hr := B.returns
  have hts := atoms_spec (ws := wsX4_lay) B.pre
  have hown : s.vm.findClass RX4 = some m.cls := findClass_of_methodNamed B.named
  have hlocks := B.notSynchronized
  subst hsz
  have hD := hD0.self (sz := s.heap.size)
  generalize hAe : va_A ([(mo, .inr (4, [.int 0, .int 1, .ref kT, .int 1, .int 0, .int 1, .int 0, .int 0, .ref tb, .ref ld, .int (nI n), .ref lK, .ref lC, .int 0])), (tb, .inl (e2, 366, .inl (tf)))]) s.heap.size = A at hD ⊢
  have hA : ∀ q : Nat, s.heap.size ≤ q → A q := fun q h => by rw [← hAe]; exact Or.inr h
  have hS : va_S A s.heap s.heap [] := va_S.rf
  have hl := lv_entry ([.ref mo, .int 60, .int 0, .int (nI a), .int (nI b), .int 0]) (n := 9) (Nat.le_of_ble_eq_true rfl)
  rw [lg_entry_eq]
  generalize (lg_sl ([.ref mo, .int 60, .int 0, .int (nI a), .int (nI b), .int 0]) ++ List.replicate (9 - (lg_sl ([.ref mo, .int 60, .int 0, .int (nI a), .int (nI b), .int 0])).length) Slot.unset).toArray = ls at hl ⊢
  have hl : lv_has ls 9 [(0, .ref mo), (1, .int 60), (2, .int 0), (3, .int (nI a)), (4, .int (nI b)), (5, .int 0)] := hl
  have hP : va_P D vwCl ([(mo, .inr (4, [.int 0, .int 1, .ref kT, .int 1, .int 0, .int 1, .int 0, .int 0, .ref tb, .ref ld, .int (nI n), .ref lK, .ref lC, .int 0])), (tb, .inl (e2, 366, .inl (tf)))]) s.heap := hP
  generalize hRe : (headSpec _ _).room = R
  have hRf : R.frames = 1 := by rw [← hRe]; rfl
  have hRc : R.cells = 1 := by rw [← hRe]; rfl
  have hRs : R.slots = 6 := by rw [← hRe]; rfl
  have hRl : R.locals = 400 := by rw [← hRe]; rfl
  clear hRe
  refine lv_bipush (v := 6) hx hb dX4_lay_0 (by decide) ?_
  refine znewa (atype := .int) (ty := .int) (N' := 6) (a0 := (6, .inl (fun _ => 0))) hx hb (hts (.arrayClass .int) (List.mem_of_getElem? (i := 1) (by rfl))) rfl hK hP hD hS hA (fun _ => rfl) (by decide) rfl (Nat.le_of_ble_eq_true rfl) (by omega) (by omega) dX4_lay_2 (fun q_19 cy_20 H hz_21 hK hP hD hS => ?_)
  have hP : va_P D vwCl ([(mo, .inr (4, [.int 0, .int 1, .ref kT, .int 1, .int 0, .int 1, .int 0, .int 0, .ref tb, .ref ld, .int (nI n), .ref lK, .ref lC, .int 0])), (tb, .inl (e2, 366, .inl (tf))), (q_19, .inl (cy_20, 6, .inl (fun _ => 0)))]) H := hP
  have hD : va_D A ([(mo, .inr (4, [.int 0, .int 1, .ref kT, .int 1, .int 0, .int 1, .int 0, .int 0, .ref tb, .ref ld, .int (nI n), .ref lK, .ref lC, .int 0])), (tb, .inl (e2, 366, .inl (tf))), (q_19, .inl (cy_20, 6, .inl (fun _ => 0)))]) := hD
  have hS0 := hS
  have hS := hS.re
  refine lv_dup hx hb dX4_lay_4 rfl ?_
  refine lv_iconst (v := 0) hx hb dX4_lay_5 (by decide) ?_
  refine lv_iload_n hx hb dX4_lay_6 rfl (lv_at hl 2 rfl) ?_
  refine va_iast hx hb hK hP hD hS 2 1 rfl rfl (vp_in_nI (n := 0) (N := 6) (by decide) (by decide)) dX4_lay_7 (fun H locs hP hD hS => ?_)
  have hP : va_P D vwCl ([(mo, .inr (4, [.int 0, .int 1, .ref kT, .int 1, .int 0, .int 1, .int 0, .int 0, .ref tb, .ref ld, .int (nI n), .ref lK, .ref lC, .int 0])), (tb, .inl (e2, 366, .inl (tf))), (q_19, .inl (cy_20, 6, .inl (upd (fun _ => 0) 0 0)))]) H := hP
  have hD : va_D A ([(mo, .inr (4, [.int 0, .int 1, .ref kT, .int 1, .int 0, .int 1, .int 0, .int 0, .ref tb, .ref ld, .int (nI n), .ref lK, .ref lC, .int 0])), (tb, .inl (e2, 366, .inl (tf))), (q_19, .inl (cy_20, 6, .inl (upd (fun _ => 0) 0 0)))]) := hD
  refine lv_dup hx hb dX4_lay_8 rfl ?_
  refine lv_iconst (v := 1) hx hb dX4_lay_9 (by decide) ?_
  refine lv_iload_n hx hb dX4_lay_10 rfl (lv_at hl 3 rfl) ?_
  refine va_iast hx hb hK hP hD hS 2 1 rfl rfl (vp_in_nI (n := 1) (N := 6) (by decide) (by decide)) dX4_lay_11 (fun H locs hP hD hS => ?_)
  have hP : va_P D vwCl ([(mo, .inr (4, [.int 0, .int 1, .ref kT, .int 1, .int 0, .int 1, .int 0, .int 0, .ref tb, .ref ld, .int (nI n), .ref lK, .ref lC, .int 0])), (tb, .inl (e2, 366, .inl (tf))), (q_19, .inl (cy_20, 6, .inl (upd (upd (fun _ => 0) 0 0) 1 (nI a))))]) H := hP
  have hD : va_D A ([(mo, .inr (4, [.int 0, .int 1, .ref kT, .int 1, .int 0, .int 1, .int 0, .int 0, .ref tb, .ref ld, .int (nI n), .ref lK, .ref lC, .int 0])), (tb, .inl (e2, 366, .inl (tf))), (q_19, .inl (cy_20, 6, .inl (upd (upd (fun _ => 0) 0 0) 1 (nI a))))]) := hD
  refine lv_dup hx hb dX4_lay_12 rfl ?_
  refine lv_iconst (v := 2) hx hb dX4_lay_13 (by decide) ?_
  refine lv_iload hx hb dX4_lay_14 (lv_at hl 4 rfl) ?_
  refine va_iast hx hb hK hP hD hS 2 1 rfl rfl (vp_in_nI (n := 2) (N := 6) (by decide) (by decide)) dX4_lay_16 (fun H locs hP hD hS => ?_)
  have hP : va_P D vwCl ([(mo, .inr (4, [.int 0, .int 1, .ref kT, .int 1, .int 0, .int 1, .int 0, .int 0, .ref tb, .ref ld, .int (nI n), .ref lK, .ref lC, .int 0])), (tb, .inl (e2, 366, .inl (tf))), (q_19, .inl (cy_20, 6, .inl (upd (upd (upd (fun _ => 0) 0 0) 1 (nI a)) 2 (nI b))))]) H := hP
  have hD : va_D A ([(mo, .inr (4, [.int 0, .int 1, .ref kT, .int 1, .int 0, .int 1, .int 0, .int 0, .ref tb, .ref ld, .int (nI n), .ref lK, .ref lC, .int 0])), (tb, .inl (e2, 366, .inl (tf))), (q_19, .inl (cy_20, 6, .inl (upd (upd (upd (fun _ => 0) 0 0) 1 (nI a)) 2 (nI b))))]) := hD
  refine lv_dup hx hb dX4_lay_17 rfl ?_
  refine lv_iconst (v := 3) hx hb dX4_lay_18 (by decide) ?_
  refine lv_iconst (v := 0) hx hb dX4_lay_19 (by decide) ?_
  refine va_iast hx hb hK hP hD hS 2 1 rfl rfl (vp_in_nI (n := 3) (N := 6) (by decide) (by decide)) dX4_lay_20 (fun H locs hP hD hS => ?_)
  have hP : va_P D vwCl ([(mo, .inr (4, [.int 0, .int 1, .ref kT, .int 1, .int 0, .int 1, .int 0, .int 0, .ref tb, .ref ld, .int (nI n), .ref lK, .ref lC, .int 0])), (tb, .inl (e2, 366, .inl (tf))), (q_19, .inl (cy_20, 6, .inl (upd (upd (upd (upd (fun _ => 0) 0 0) 1 (nI a)) 2 (nI b)) 3 0)))]) H := hP
  have hD : va_D A ([(mo, .inr (4, [.int 0, .int 1, .ref kT, .int 1, .int 0, .int 1, .int 0, .int 0, .ref tb, .ref ld, .int (nI n), .ref lK, .ref lC, .int 0])), (tb, .inl (e2, 366, .inl (tf))), (q_19, .inl (cy_20, 6, .inl (upd (upd (upd (upd (fun _ => 0) 0 0) 1 (nI a)) 2 (nI b)) 3 0)))]) := hD
  refine lv_dup hx hb dX4_lay_21 rfl ?_
  refine lv_iconst (v := 4) hx hb dX4_lay_22 (by decide) ?_
  refine lv_iload hx hb dX4_lay_23 (lv_at hl 5 rfl) ?_
  refine lv_if_eq (tgt := 32) hx hb dX4_lay_25 (by decide) (fun c_22 => ?_) (fun c_22 => absurd (rfl) c_22)
  refine lv_iconst (v := 0) hx hb dX4_lay_32 (by decide) ?_
  refine va_iast hx hb hK hP hD hS 2 1 rfl rfl (vp_in_nI (n := 4) (N := 6) (by decide) (by decide)) dX4_lay_33 (fun H locs hP hD hS => ?_)
  have hP : va_P D vwCl ([(mo, .inr (4, [.int 0, .int 1, .ref kT, .int 1, .int 0, .int 1, .int 0, .int 0, .ref tb, .ref ld, .int (nI n), .ref lK, .ref lC, .int 0])), (tb, .inl (e2, 366, .inl (tf))), (q_19, .inl (cy_20, 6, .inl (upd (upd (upd (upd (upd (fun _ => 0) 0 0) 1 (nI a)) 2 (nI b)) 3 0) 4 0)))]) H := hP
  have hD : va_D A ([(mo, .inr (4, [.int 0, .int 1, .ref kT, .int 1, .int 0, .int 1, .int 0, .int 0, .ref tb, .ref ld, .int (nI n), .ref lK, .ref lC, .int 0])), (tb, .inl (e2, 366, .inl (tf))), (q_19, .inl (cy_20, 6, .inl (upd (upd (upd (upd (upd (fun _ => 0) 0 0) 1 (nI a)) 2 (nI b)) 3 0) 4 0)))]) := hD
  refine lv_dup hx hb dX4_lay_34 rfl ?_
  refine lv_iconst (v := 5) hx hb dX4_lay_35 (by decide) ?_
  refine lv_iconst (v := 0) hx hb dX4_lay_36 (by decide) ?_
  refine va_iast hx hb hK hP hD hS 2 1 rfl rfl (vp_in_nI (n := 5) (N := 6) (by decide) (by decide)) dX4_lay_37 (fun H locs hP hD hS => ?_)
  have hP : va_P D vwCl ([(mo, .inr (4, [.int 0, .int 1, .ref kT, .int 1, .int 0, .int 1, .int 0, .int 0, .ref tb, .ref ld, .int (nI n), .ref lK, .ref lC, .int 0])), (tb, .inl (e2, 366, .inl (tf))), (q_19, .inl (cy_20, 6, .inl (upd (upd (upd (upd (upd (upd (fun _ => 0) 0 0) 1 (nI a)) 2 (nI b)) 3 0) 4 0) 5 0)))]) H := hP
  have hD : va_D A ([(mo, .inr (4, [.int 0, .int 1, .ref kT, .int 1, .int 0, .int 1, .int 0, .int 0, .ref tb, .ref ld, .int (nI n), .ref lK, .ref lC, .int 0])), (tb, .inl (e2, 366, .inl (tf))), (q_19, .inl (cy_20, 6, .inl (upd (upd (upd (upd (upd (upd (fun _ => 0) 0 0) 1 (nI a)) 2 (nI b)) 3 0) 4 0) 5 0)))]) := hD
  refine lv_astore (lv' := [(6, .ref q_19), (0, .ref mo), (1, .int 60), (2, .int 0), (3, .int (nI a)), (4, .int (nI b)), (5, .int 0)]) hx hb dX4_lay_38 hl (by decide) rfl (fun ls hl => ?_)
  refine lv_aload hx hb dX4_lay_40 (lv_at hl 0 rfl) ?_
  refine lv_iconst (v := 0) hx hb dX4_lay_42 (by decide) ?_
  refine lv_aload_n hx hb dX4_lay_43 rfl (lv_at hl 1 rfl) ?_
  refine va_get (D := D) (ci := 4) (v := .ref tb) (C := RX4) (T := TX4) (N := 14) hx hb hts (fun _ h9 => List.mem_cons_of_mem _ (List.mem_append_right _ h9)) hown hK hP 0 rfl rfl 8 (by decide) (hts (.fieldLink RX4 23 "PalletStackModel" "table" "[I") (List.mem_of_getElem? (i := 2) (by rfl))) (fun _ h9 => h9) rfl dX4_lay_44 ?_
  refine lv_bipush (v := 6) hx hb dX4_lay_47 (by decide) ?_
  refine lv_iload_n hx hb dX4_lay_49 rfl (lv_at hl 2 rfl) ?_
  refine lv_imul hx hb dX4_lay_50 ?_
  refine lv_topi (fun v_23 ev_23 => ?_)
  obtain rfl : v_23 = 360 := ev_23.trans (by decide)
  refine lv_bipush (v := 6) hx hb dX4_lay_51 (by decide) ?_
  refine va_copyi (ty := .int) hx hb (by rw [hml]; exact hl.1.symm) hown (hts (.methodLink RX4 49 arraycopyName) (List.mem_of_getElem? (i := 3) (by rfl))) (hts (.native arraycopyName) (List.mem_of_getElem? (i := 4) (by rfl))) (hts (.static arraycopyName) (List.mem_of_getElem? (i := 5) (by rfl))) (hts (.initialized "java/lang/System") (List.mem_of_getElem? (i := 6) (by rfl))) hK hP hD hS 2 1 1 0 rfl rfl rfl rfl rfl (by decide) (by decide) (by decide) (by decide) (by decide) (fun _ _ => rfl) (by rw [hRf]; exact Nat.le_of_ble_eq_true rfl) (by rw [hRl]; exact Nat.le_of_ble_eq_true rfl) dX4_lay_53 (fun H locs hP hD hS => ?_)
  have hP : va_P D vwCl ([(mo, .inr (4, [.int 0, .int 1, .ref kT, .int 1, .int 0, .int 1, .int 0, .int 0, .ref tb, .ref ld, .int (nI n), .ref lK, .ref lC, .int 0])), (tb, .inl (e2, 366, .inl (va_cpy (upd (upd (upd (upd (upd (upd (fun _ => 0) 0 0) 1 (nI a)) 2 (nI b)) 3 0) 4 0) 5 0) (tf) 0 360 6))), (q_19, .inl (cy_20, 6, .inl (upd (upd (upd (upd (upd (upd (fun _ => 0) 0 0) 1 (nI a)) 2 (nI b)) 3 0) 4 0) 5 0)))]) H := hP
  have hD : va_D A ([(mo, .inr (4, [.int 0, .int 1, .ref kT, .int 1, .int 0, .int 1, .int 0, .int 0, .ref tb, .ref ld, .int (nI n), .ref lK, .ref lC, .int 0])), (tb, .inl (e2, 366, .inl (va_cpy (upd (upd (upd (upd (upd (upd (fun _ => 0) 0 0) 1 (nI a)) 2 (nI b)) 3 0) 4 0) 5 0) (tf) 0 360 6))), (q_19, .inl (cy_20, 6, .inl (upd (upd (upd (upd (upd (upd (fun _ => 0) 0 0) 1 (nI a)) 2 (nI b)) 3 0) 4 0) 5 0)))]) := hD
  refine lv_iconst (v := 0) hx hb dX4_lay_56 (by decide) ?_
  refine lv_istore (lv' := [(7, .int 0), (6, .ref q_19), (0, .ref mo), (1, .int 60), (2, .int 0), (3, .int (nI a)), (4, .int (nI b)), (5, .int 0)]) hx hb dX4_lay_57 hl (by decide) rfl (fun ls hl => ?_)
  refine lv_iconst (v := 0) hx hb dX4_lay_59 (by decide) ?_
  refine lv_istore (lv' := [(8, .int 0), (7, .int 0), (6, .ref q_19), (0, .ref mo), (1, .int 60), (2, .int 0), (3, .int (nI a)), (4, .int (nI b)), (5, .int 0)]) hx hb dX4_lay_60 hl (by decide) rfl (fun ls hl => ?_)
  refine lv_iload hx hb dX4_lay_62 (lv_at hl 0 rfl) ?_
  refine lv_aload_n hx hb dX4_lay_64 rfl (lv_at hl 3 rfl) ?_
  refine va_get (D := D) (ci := 4) (v := .int 0) (C := RX4) (T := TX4) (N := 14) hx hb hts (fun _ h9 => List.mem_cons_of_mem _ (List.mem_append_right _ h9)) hown hK hP 0 rfl rfl 7 (by decide) (hts (.fieldLink RX4 59 "PalletStackModel" "came" "I") (List.mem_of_getElem? (i := 7) (by rfl))) (fun _ h9 => h9) rfl dX4_lay_65 ?_
  refine lv_icmp_ge (tgt := 109) hx hb dX4_lay_68 (by decide) (fun c_24 => ?_) (fun c_24 => absurd (by decide) c_24)
  refine lv_aload_n hx hb dX4_lay_109 rfl (lv_at hl 3 rfl) ?_
  refine va_get (D := D) (ci := 4) (v := .ref tb) (C := RX4) (T := TX4) (N := 14) hx hb hts (fun _ h9 => List.mem_cons_of_mem _ (List.mem_append_right _ h9)) hown hK hP 0 rfl rfl 8 (by decide) (hts (.fieldLink RX4 23 "PalletStackModel" "table" "[I") (List.mem_of_getElem? (i := 2) (by rfl))) (fun _ h9 => h9) rfl dX4_lay_110 ?_
  refine lv_bipush (v := 6) hx hb dX4_lay_113 (by decide) ?_
  refine lv_iload_n hx hb dX4_lay_115 rfl (lv_at hl 4 rfl) ?_
  refine lv_imul hx hb dX4_lay_116 ?_
  refine lv_topi (fun v_25 ev_25 => ?_)
  obtain rfl : v_25 = 360 := ev_25.trans (by decide)
  refine lv_iconst (v := 3) hx hb dX4_lay_117 (by decide) ?_
  refine lv_iadd hx hb dX4_lay_118 ?_
  refine lv_topi (fun v_26 ev_26 => ?_)
  obtain rfl : v_26 = 363 := ev_26.trans (by decide)
  refine lv_iload hx hb dX4_lay_119 (lv_at hl 1 rfl) ?_
  refine va_iast hx hb hK hP hD hS 1 0 rfl rfl (vp_in_nI (n := 363) (N := 366) (by decide) (by decide)) dX4_lay_121 (fun H locs hP hD hS => ?_)
  have hP : va_P D vwCl ([(mo, .inr (4, [.int 0, .int 1, .ref kT, .int 1, .int 0, .int 1, .int 0, .int 0, .ref tb, .ref ld, .int (nI n), .ref lK, .ref lC, .int 0])), (tb, .inl (e2, 366, .inl (upd (va_cpy (upd (upd (upd (upd (upd (upd (fun _ => 0) 0 0) 1 (nI a)) 2 (nI b)) 3 0) 4 0) 5 0) (tf) 0 360 6) 363 0))), (q_19, .inl (cy_20, 6, .inl (upd (upd (upd (upd (upd (upd (fun _ => 0) 0 0) 1 (nI a)) 2 (nI b)) 3 0) 4 0) 5 0)))]) H := hP
  have hD : va_D A ([(mo, .inr (4, [.int 0, .int 1, .ref kT, .int 1, .int 0, .int 1, .int 0, .int 0, .ref tb, .ref ld, .int (nI n), .ref lK, .ref lC, .int 0])), (tb, .inl (e2, 366, .inl (upd (va_cpy (upd (upd (upd (upd (upd (upd (fun _ => 0) 0 0) 1 (nI a)) 2 (nI b)) 3 0) 4 0) 5 0) (tf) 0 360 6) 363 0))), (q_19, .inl (cy_20, 6, .inl (upd (upd (upd (upd (upd (upd (fun _ => 0) 0 0) 1 (nI a)) 2 (nI b)) 3 0) 4 0) 5 0)))]) := hD
  have hP := hP.sub (ws' := [(mo, .inr (4, [.int 0, .int 1, .ref kT, .int 1, .int 0, .int 1, .int 0, .int 0, .ref tb, .ref ld, .int (nI n), .ref lK, .ref lC, .int 0])), (tb, .inl (e2, 366, .inl (upd (va_cpy (upd (upd (upd (upd (upd (upd (fun _ => 0) 0 0) 1 (nI a)) 2 (nI b)) 3 0) 4 0) 5 0) (tf) 0 360 6) 363 0)))]) [0, 1] rfl
  have hD := hD.sub (ws' := [(mo, .inr (4, [.int 0, .int 1, .ref kT, .int 1, .int 0, .int 1, .int 0, .int 0, .ref tb, .ref ld, .int (nI n), .ref lK, .ref lC, .int 0])), (tb, .inl (e2, 366, .inl (upd (va_cpy (upd (upd (upd (upd (upd (upd (fun _ => 0) 0 0) 1 (nI a)) 2 (nI b)) 3 0) 4 0) 5 0) (tf) 0 360 6) 363 0)))]) [0, 1] (by decide) rfl
  have hz9 := hS.1
  have hS := hS0.tr hS
  refine W.widen (k := 1) (n := 6) (by omega) (by omega) ?_
  exact W.vret hx hb hr (fun t ht hW => ⟨⟨(upd (va_cpy (upd (upd (upd (upd (upd (upd (fun _ => 0) 0 0) 1 (nI a)) 2 (nI b)) 3 0) 4 0) 5 0) (tf) 0 360 6) 363 0), rfl, ⟨rfl, rfl⟩, ⟨(by rw [ht]; omega), by rw [ht]; exact hP, va_K.moved hW.alike (hK.sub (tys' := []) [] rfl), hD⟩⟩, hS.F ht⟩) hS.2.2 dX4_lay_122
set_option maxHeartbeats 4000000 in
set_option maxRecDepth 100000 in
theorem c_lay_1 (l : Launch) (D : zG) (sz : Nat) (mo kT tb ld lK lC n : Nat) (e2 : ClassId) (tf : Nat → Int32) (a b : Nat) : Met l yX4_lay wsX4_lay ({ frames := 1, cells := 1, slots := 6, locals := 400 }) (zPc D [(e2, .int)] ([(mo, .inr (4, [.int 0, .int 1, .ref kT, .int 1, .int 0, .int 1, .int 0, .int 0, .ref tb, .ref ld, .int (nI n), .ref lK, .ref lC, .int 0])), (tb, .inl (e2, 366, .inl (tf)))]) sz [.ref mo, .int 60, .int 0, .int (nI a), .int (nI b), .int 1]) (va_Qv (fun (u : Nat → Int32) => u 360 = 0 ∧ u 363 = 0) (zB D (va_A ([(mo, .inr (4, [.int 0, .int 1, .ref kT, .int 1, .int 0, .int 1, .int 0, .int 0, .ref tb, .ref ld, .int (nI n), .ref lK, .ref lC, .int 0])), (tb, .inl (e2, 366, .inl (tf)))]) sz) (fun _ => []) (sz + 1) (fun u => [(mo, .inr (4, [.int 0, .int 1, .ref kT, .int 1, .int 0, .int 1, .int 0, .int 0, .ref tb, .ref ld, .int (nI n), .ref lK, .ref lC, .int 0])), (tb, .inl (e2, 366, .inl (u)))])) (va_A ([(mo, .inr (4, [.int 0, .int 1, .ref kT, .int 1, .int 0, .int 1, .int 0, .int 0, .ref tb, .ref ld, .int (nI n), .ref lK, .ref lC, .int 0])), (tb, .inl (e2, 366, .inl (tf)))]) sz)) 1 6 (va_A ([(mo, .inr (4, [.int 0, .int 1, .ref kT, .int 1, .int 0, .int 1, .int 0, .int 0, .ref tb, .ref ld, .int (nI n), .ref lK, .ref lC, .int 0])), (tb, .inl (e2, 366, .inl (tf)))]) sz) := by
  refine Met.ofW (cc := cX4_lay) (maxL := 9) (ret := none) (by decide) rfl ?_
  intro p e s m args below meth c s₁ B hml hv
  obtain ⟨rfl, hsz, hP, hK, hD0⟩ := hv
  have hx := B.exec
  have hb := B.bytes
  have hr := B.returns
  have hts := atoms_spec (ws := wsX4_lay) B.pre
  have hown : s.vm.findClass RX4 = some m.cls := findClass_of_methodNamed B.named
  have hlocks := B.notSynchronized
  subst hsz
  have hD := hD0.self (sz := s.heap.size)
  generalize hAe : va_A ([(mo, .inr (4, [.int 0, .int 1, .ref kT, .int 1, .int 0, .int 1, .int 0, .int 0, .ref tb, .ref ld, .int (nI n), .ref lK, .ref lC, .int 0])), (tb, .inl (e2, 366, .inl (tf)))]) s.heap.size = A at hD ⊢
  have hA : ∀ q : Nat, s.heap.size ≤ q → A q := fun q h => by rw [← hAe]; exact Or.inr h
  have hS : va_S A s.heap s.heap [] := va_S.rf
  have hl := lv_entry ([.ref mo, .int 60, .int 0, .int (nI a), .int (nI b), .int 1]) (n := 9) (Nat.le_of_ble_eq_true rfl)
  rw [lg_entry_eq]
  generalize (lg_sl ([.ref mo, .int 60, .int 0, .int (nI a), .int (nI b), .int 1]) ++ List.replicate (9 - (lg_sl ([.ref mo, .int 60, .int 0, .int (nI a), .int (nI b), .int 1])).length) Slot.unset).toArray = ls at hl ⊢
  have hl : lv_has ls 9 [(0, .ref mo), (1, .int 60), (2, .int 0), (3, .int (nI a)), (4, .int (nI b)), (5, .int 1)] := hl
  have hP : va_P D vwCl ([(mo, .inr (4, [.int 0, .int 1, .ref kT, .int 1, .int 0, .int 1, .int 0, .int 0, .ref tb, .ref ld, .int (nI n), .ref lK, .ref lC, .int 0])), (tb, .inl (e2, 366, .inl (tf)))]) s.heap := hP
  generalize hRe : (headSpec _ _).room = R
  have hRf : R.frames = 1 := by rw [← hRe]; rfl
  have hRc : R.cells = 1 := by rw [← hRe]; rfl
  have hRs : R.slots = 6 := by rw [← hRe]; rfl
  have hRl : R.locals = 400 := by rw [← hRe]; rfl
  clear hRe
  refine lv_bipush (v := 6) hx hb dX4_lay_0 (by decide) ?_
  refine znewa (atype := .int) (ty := .int) (N' := 6) (a0 := (6, .inl (fun _ => 0))) hx hb (hts (.arrayClass .int) (List.mem_of_getElem? (i := 1) (by rfl))) rfl hK hP hD hS hA (fun _ => rfl) (by decide) rfl (Nat.le_of_ble_eq_true rfl) (by omega) (by omega) dX4_lay_2 (fun q_27 cy_28 H hz_29 hK hP hD hS => ?_)
  have hP : va_P D vwCl ([(mo, .inr (4, [.int 0, .int 1, .ref kT, .int 1, .int 0, .int 1, .int 0, .int 0, .ref tb, .ref ld, .int (nI n), .ref lK, .ref lC, .int 0])), (tb, .inl (e2, 366, .inl (tf))), (q_27, .inl (cy_28, 6, .inl (fun _ => 0)))]) H := hP
  have hD : va_D A ([(mo, .inr (4, [.int 0, .int 1, .ref kT, .int 1, .int 0, .int 1, .int 0, .int 0, .ref tb, .ref ld, .int (nI n), .ref lK, .ref lC, .int 0])), (tb, .inl (e2, 366, .inl (tf))), (q_27, .inl (cy_28, 6, .inl (fun _ => 0)))]) := hD
  have hS0 := hS
  have hS := hS.re
  refine lv_dup hx hb dX4_lay_4 rfl ?_
  refine lv_iconst (v := 0) hx hb dX4_lay_5 (by decide) ?_
  refine lv_iload_n hx hb dX4_lay_6 rfl (lv_at hl 2 rfl) ?_
  refine va_iast hx hb hK hP hD hS 2 1 rfl rfl (vp_in_nI (n := 0) (N := 6) (by decide) (by decide)) dX4_lay_7 (fun H locs hP hD hS => ?_)
  have hP : va_P D vwCl ([(mo, .inr (4, [.int 0, .int 1, .ref kT, .int 1, .int 0, .int 1, .int 0, .int 0, .ref tb, .ref ld, .int (nI n), .ref lK, .ref lC, .int 0])), (tb, .inl (e2, 366, .inl (tf))), (q_27, .inl (cy_28, 6, .inl (upd (fun _ => 0) 0 0)))]) H := hP
  have hD : va_D A ([(mo, .inr (4, [.int 0, .int 1, .ref kT, .int 1, .int 0, .int 1, .int 0, .int 0, .ref tb, .ref ld, .int (nI n), .ref lK, .ref lC, .int 0])), (tb, .inl (e2, 366, .inl (tf))), (q_27, .inl (cy_28, 6, .inl (upd (fun _ => 0) 0 0)))]) := hD
  refine lv_dup hx hb dX4_lay_8 rfl ?_
  refine lv_iconst (v := 1) hx hb dX4_lay_9 (by decide) ?_
  refine lv_iload_n hx hb dX4_lay_10 rfl (lv_at hl 3 rfl) ?_
  refine va_iast hx hb hK hP hD hS 2 1 rfl rfl (vp_in_nI (n := 1) (N := 6) (by decide) (by decide)) dX4_lay_11 (fun H locs hP hD hS => ?_)
  have hP : va_P D vwCl ([(mo, .inr (4, [.int 0, .int 1, .ref kT, .int 1, .int 0, .int 1, .int 0, .int 0, .ref tb, .ref ld, .int (nI n), .ref lK, .ref lC, .int 0])), (tb, .inl (e2, 366, .inl (tf))), (q_27, .inl (cy_28, 6, .inl (upd (upd (fun _ => 0) 0 0) 1 (nI a))))]) H := hP
  have hD : va_D A ([(mo, .inr (4, [.int 0, .int 1, .ref kT, .int 1, .int 0, .int 1, .int 0, .int 0, .ref tb, .ref ld, .int (nI n), .ref lK, .ref lC, .int 0])), (tb, .inl (e2, 366, .inl (tf))), (q_27, .inl (cy_28, 6, .inl (upd (upd (fun _ => 0) 0 0) 1 (nI a))))]) := hD
  refine lv_dup hx hb dX4_lay_12 rfl ?_
  refine lv_iconst (v := 2) hx hb dX4_lay_13 (by decide) ?_
  refine lv_iload hx hb dX4_lay_14 (lv_at hl 4 rfl) ?_
  refine va_iast hx hb hK hP hD hS 2 1 rfl rfl (vp_in_nI (n := 2) (N := 6) (by decide) (by decide)) dX4_lay_16 (fun H locs hP hD hS => ?_)
  have hP : va_P D vwCl ([(mo, .inr (4, [.int 0, .int 1, .ref kT, .int 1, .int 0, .int 1, .int 0, .int 0, .ref tb, .ref ld, .int (nI n), .ref lK, .ref lC, .int 0])), (tb, .inl (e2, 366, .inl (tf))), (q_27, .inl (cy_28, 6, .inl (upd (upd (upd (fun _ => 0) 0 0) 1 (nI a)) 2 (nI b))))]) H := hP
  have hD : va_D A ([(mo, .inr (4, [.int 0, .int 1, .ref kT, .int 1, .int 0, .int 1, .int 0, .int 0, .ref tb, .ref ld, .int (nI n), .ref lK, .ref lC, .int 0])), (tb, .inl (e2, 366, .inl (tf))), (q_27, .inl (cy_28, 6, .inl (upd (upd (upd (fun _ => 0) 0 0) 1 (nI a)) 2 (nI b))))]) := hD
  refine lv_dup hx hb dX4_lay_17 rfl ?_
  refine lv_iconst (v := 3) hx hb dX4_lay_18 (by decide) ?_
  refine lv_iconst (v := 0) hx hb dX4_lay_19 (by decide) ?_
  refine va_iast hx hb hK hP hD hS 2 1 rfl rfl (vp_in_nI (n := 3) (N := 6) (by decide) (by decide)) dX4_lay_20 (fun H locs hP hD hS => ?_)
  have hP : va_P D vwCl ([(mo, .inr (4, [.int 0, .int 1, .ref kT, .int 1, .int 0, .int 1, .int 0, .int 0, .ref tb, .ref ld, .int (nI n), .ref lK, .ref lC, .int 0])), (tb, .inl (e2, 366, .inl (tf))), (q_27, .inl (cy_28, 6, .inl (upd (upd (upd (upd (fun _ => 0) 0 0) 1 (nI a)) 2 (nI b)) 3 0)))]) H := hP
  have hD : va_D A ([(mo, .inr (4, [.int 0, .int 1, .ref kT, .int 1, .int 0, .int 1, .int 0, .int 0, .ref tb, .ref ld, .int (nI n), .ref lK, .ref lC, .int 0])), (tb, .inl (e2, 366, .inl (tf))), (q_27, .inl (cy_28, 6, .inl (upd (upd (upd (upd (fun _ => 0) 0 0) 1 (nI a)) 2 (nI b)) 3 0)))]) := hD
  refine lv_dup hx hb dX4_lay_21 rfl ?_
  refine lv_iconst (v := 4) hx hb dX4_lay_22 (by decide) ?_
  refine lv_iload hx hb dX4_lay_23 (lv_at hl 5 rfl) ?_
  refine lv_if_eq (tgt := 32) hx hb dX4_lay_25 (by decide) (fun c_30 => absurd c_30 (by decide)) (fun c_30 => ?_)
  refine lv_iconst (v := 1) hx hb dX4_lay_28 (by decide) ?_
  refine lv_goto (tgt := 33) hx hb dX4_lay_29 (by decide) ?_
  refine va_iast hx hb hK hP hD hS 2 1 rfl rfl (vp_in_nI (n := 4) (N := 6) (by decide) (by decide)) dX4_lay_33 (fun H locs hP hD hS => ?_)
  have hP : va_P D vwCl ([(mo, .inr (4, [.int 0, .int 1, .ref kT, .int 1, .int 0, .int 1, .int 0, .int 0, .ref tb, .ref ld, .int (nI n), .ref lK, .ref lC, .int 0])), (tb, .inl (e2, 366, .inl (tf))), (q_27, .inl (cy_28, 6, .inl (upd (upd (upd (upd (upd (fun _ => 0) 0 0) 1 (nI a)) 2 (nI b)) 3 0) 4 1)))]) H := hP
  have hD : va_D A ([(mo, .inr (4, [.int 0, .int 1, .ref kT, .int 1, .int 0, .int 1, .int 0, .int 0, .ref tb, .ref ld, .int (nI n), .ref lK, .ref lC, .int 0])), (tb, .inl (e2, 366, .inl (tf))), (q_27, .inl (cy_28, 6, .inl (upd (upd (upd (upd (upd (fun _ => 0) 0 0) 1 (nI a)) 2 (nI b)) 3 0) 4 1)))]) := hD
  refine lv_dup hx hb dX4_lay_34 rfl ?_
  refine lv_iconst (v := 5) hx hb dX4_lay_35 (by decide) ?_
  refine lv_iconst (v := 0) hx hb dX4_lay_36 (by decide) ?_
  refine va_iast hx hb hK hP hD hS 2 1 rfl rfl (vp_in_nI (n := 5) (N := 6) (by decide) (by decide)) dX4_lay_37 (fun H locs hP hD hS => ?_)
  have hP : va_P D vwCl ([(mo, .inr (4, [.int 0, .int 1, .ref kT, .int 1, .int 0, .int 1, .int 0, .int 0, .ref tb, .ref ld, .int (nI n), .ref lK, .ref lC, .int 0])), (tb, .inl (e2, 366, .inl (tf))), (q_27, .inl (cy_28, 6, .inl (upd (upd (upd (upd (upd (upd (fun _ => 0) 0 0) 1 (nI a)) 2 (nI b)) 3 0) 4 1) 5 0)))]) H := hP
  have hD : va_D A ([(mo, .inr (4, [.int 0, .int 1, .ref kT, .int 1, .int 0, .int 1, .int 0, .int 0, .ref tb, .ref ld, .int (nI n), .ref lK, .ref lC, .int 0])), (tb, .inl (e2, 366, .inl (tf))), (q_27, .inl (cy_28, 6, .inl (upd (upd (upd (upd (upd (upd (fun _ => 0) 0 0) 1 (nI a)) 2 (nI b)) 3 0) 4 1) 5 0)))]) := hD
  refine lv_astore (lv' := [(6, .ref q_27), (0, .ref mo), (1, .int 60), (2, .int 0), (3, .int (nI a)), (4, .int (nI b)), (5, .int 1)]) hx hb dX4_lay_38 hl (by decide) rfl (fun ls hl => ?_)
  refine lv_aload hx hb dX4_lay_40 (lv_at hl 0 rfl) ?_
  refine lv_iconst (v := 0) hx hb dX4_lay_42 (by decide) ?_
  refine lv_aload_n hx hb dX4_lay_43 rfl (lv_at hl 1 rfl) ?_
  refine va_get (D := D) (ci := 4) (v := .ref tb) (C := RX4) (T := TX4) (N := 14) hx hb hts (fun _ h9 => List.mem_cons_of_mem _ (List.mem_append_right _ h9)) hown hK hP 0 rfl rfl 8 (by decide) (hts (.fieldLink RX4 23 "PalletStackModel" "table" "[I") (List.mem_of_getElem? (i := 2) (by rfl))) (fun _ h9 => h9) rfl dX4_lay_44 ?_
  refine lv_bipush (v := 6) hx hb dX4_lay_47 (by decide) ?_
  refine lv_iload_n hx hb dX4_lay_49 rfl (lv_at hl 2 rfl) ?_
  refine lv_imul hx hb dX4_lay_50 ?_
  refine lv_topi (fun v_31 ev_31 => ?_)
  obtain rfl : v_31 = 360 := ev_31.trans (by decide)
  refine lv_bipush (v := 6) hx hb dX4_lay_51 (by decide) ?_
  refine va_copyi (ty := .int) hx hb (by rw [hml]; exact hl.1.symm) hown (hts (.methodLink RX4 49 arraycopyName) (List.mem_of_getElem? (i := 3) (by rfl))) (hts (.native arraycopyName) (List.mem_of_getElem? (i := 4) (by rfl))) (hts (.static arraycopyName) (List.mem_of_getElem? (i := 5) (by rfl))) (hts (.initialized "java/lang/System") (List.mem_of_getElem? (i := 6) (by rfl))) hK hP hD hS 2 1 1 0 rfl rfl rfl rfl rfl (by decide) (by decide) (by decide) (by decide) (by decide) (fun _ _ => rfl) (by rw [hRf]; exact Nat.le_of_ble_eq_true rfl) (by rw [hRl]; exact Nat.le_of_ble_eq_true rfl) dX4_lay_53 (fun H locs hP hD hS => ?_)
  have hP : va_P D vwCl ([(mo, .inr (4, [.int 0, .int 1, .ref kT, .int 1, .int 0, .int 1, .int 0, .int 0, .ref tb, .ref ld, .int (nI n), .ref lK, .ref lC, .int 0])), (tb, .inl (e2, 366, .inl (va_cpy (upd (upd (upd (upd (upd (upd (fun _ => 0) 0 0) 1 (nI a)) 2 (nI b)) 3 0) 4 1) 5 0) (tf) 0 360 6))), (q_27, .inl (cy_28, 6, .inl (upd (upd (upd (upd (upd (upd (fun _ => 0) 0 0) 1 (nI a)) 2 (nI b)) 3 0) 4 1) 5 0)))]) H := hP
  have hD : va_D A ([(mo, .inr (4, [.int 0, .int 1, .ref kT, .int 1, .int 0, .int 1, .int 0, .int 0, .ref tb, .ref ld, .int (nI n), .ref lK, .ref lC, .int 0])), (tb, .inl (e2, 366, .inl (va_cpy (upd (upd (upd (upd (upd (upd (fun _ => 0) 0 0) 1 (nI a)) 2 (nI b)) 3 0) 4 1) 5 0) (tf) 0 360 6))), (q_27, .inl (cy_28, 6, .inl (upd (upd (upd (upd (upd (upd (fun _ => 0) 0 0) 1 (nI a)) 2 (nI b)) 3 0) 4 1) 5 0)))]) := hD
  refine lv_iconst (v := 0) hx hb dX4_lay_56 (by decide) ?_
  refine lv_istore (lv' := [(7, .int 0), (6, .ref q_27), (0, .ref mo), (1, .int 60), (2, .int 0), (3, .int (nI a)), (4, .int (nI b)), (5, .int 1)]) hx hb dX4_lay_57 hl (by decide) rfl (fun ls hl => ?_)
  refine lv_iconst (v := 0) hx hb dX4_lay_59 (by decide) ?_
  refine lv_istore (lv' := [(8, .int 0), (7, .int 0), (6, .ref q_27), (0, .ref mo), (1, .int 60), (2, .int 0), (3, .int (nI a)), (4, .int (nI b)), (5, .int 1)]) hx hb dX4_lay_60 hl (by decide) rfl (fun ls hl => ?_)
  refine lv_iload hx hb dX4_lay_62 (lv_at hl 0 rfl) ?_
  refine lv_aload_n hx hb dX4_lay_64 rfl (lv_at hl 3 rfl) ?_
  refine va_get (D := D) (ci := 4) (v := .int 0) (C := RX4) (T := TX4) (N := 14) hx hb hts (fun _ h9 => List.mem_cons_of_mem _ (List.mem_append_right _ h9)) hown hK hP 0 rfl rfl 7 (by decide) (hts (.fieldLink RX4 59 "PalletStackModel" "came" "I") (List.mem_of_getElem? (i := 7) (by rfl))) (fun _ h9 => h9) rfl dX4_lay_65 ?_
  refine lv_icmp_ge (tgt := 109) hx hb dX4_lay_68 (by decide) (fun c_32 => ?_) (fun c_32 => absurd (by decide) c_32)
  refine lv_aload_n hx hb dX4_lay_109 rfl (lv_at hl 3 rfl) ?_
  refine va_get (D := D) (ci := 4) (v := .ref tb) (C := RX4) (T := TX4) (N := 14) hx hb hts (fun _ h9 => List.mem_cons_of_mem _ (List.mem_append_right _ h9)) hown hK hP 0 rfl rfl 8 (by decide) (hts (.fieldLink RX4 23 "PalletStackModel" "table" "[I") (List.mem_of_getElem? (i := 2) (by rfl))) (fun _ h9 => h9) rfl dX4_lay_110 ?_
  refine lv_bipush (v := 6) hx hb dX4_lay_113 (by decide) ?_
  refine lv_iload_n hx hb dX4_lay_115 rfl (lv_at hl 4 rfl) ?_
  refine lv_imul hx hb dX4_lay_116 ?_
  refine lv_topi (fun v_33 ev_33 => ?_)
  obtain rfl : v_33 = 360 := ev_33.trans (by decide)
  refine lv_iconst (v := 3) hx hb dX4_lay_117 (by decide) ?_
  refine lv_iadd hx hb dX4_lay_118 ?_
  refine lv_topi (fun v_34 ev_34 => ?_)
  obtain rfl : v_34 = 363 := ev_34.trans (by decide)
  refine lv_iload hx hb dX4_lay_119 (lv_at hl 1 rfl) ?_
  refine va_iast hx hb hK hP hD hS 1 0 rfl rfl (vp_in_nI (n := 363) (N := 366) (by decide) (by decide)) dX4_lay_121 (fun H locs hP hD hS => ?_)
  have hP : va_P D vwCl ([(mo, .inr (4, [.int 0, .int 1, .ref kT, .int 1, .int 0, .int 1, .int 0, .int 0, .ref tb, .ref ld, .int (nI n), .ref lK, .ref lC, .int 0])), (tb, .inl (e2, 366, .inl (upd (va_cpy (upd (upd (upd (upd (upd (upd (fun _ => 0) 0 0) 1 (nI a)) 2 (nI b)) 3 0) 4 1) 5 0) (tf) 0 360 6) 363 0))), (q_27, .inl (cy_28, 6, .inl (upd (upd (upd (upd (upd (upd (fun _ => 0) 0 0) 1 (nI a)) 2 (nI b)) 3 0) 4 1) 5 0)))]) H := hP
  have hD : va_D A ([(mo, .inr (4, [.int 0, .int 1, .ref kT, .int 1, .int 0, .int 1, .int 0, .int 0, .ref tb, .ref ld, .int (nI n), .ref lK, .ref lC, .int 0])), (tb, .inl (e2, 366, .inl (upd (va_cpy (upd (upd (upd (upd (upd (upd (fun _ => 0) 0 0) 1 (nI a)) 2 (nI b)) 3 0) 4 1) 5 0) (tf) 0 360 6) 363 0))), (q_27, .inl (cy_28, 6, .inl (upd (upd (upd (upd (upd (upd (fun _ => 0) 0 0) 1 (nI a)) 2 (nI b)) 3 0) 4 1) 5 0)))]) := hD
  have hP := hP.sub (ws' := [(mo, .inr (4, [.int 0, .int 1, .ref kT, .int 1, .int 0, .int 1, .int 0, .int 0, .ref tb, .ref ld, .int (nI n), .ref lK, .ref lC, .int 0])), (tb, .inl (e2, 366, .inl (upd (va_cpy (upd (upd (upd (upd (upd (upd (fun _ => 0) 0 0) 1 (nI a)) 2 (nI b)) 3 0) 4 1) 5 0) (tf) 0 360 6) 363 0)))]) [0, 1] rfl
  have hD := hD.sub (ws' := [(mo, .inr (4, [.int 0, .int 1, .ref kT, .int 1, .int 0, .int 1, .int 0, .int 0, .ref tb, .ref ld, .int (nI n), .ref lK, .ref lC, .int 0])), (tb, .inl (e2, 366, .inl (upd (va_cpy (upd (upd (upd (upd (upd (upd (fun _ => 0) 0 0) 1 (nI a)) 2 (nI b)) 3 0) 4 1) 5 0) (tf) 0 360 6) 363 0)))]) [0, 1] (by decide) rfl
  have hz9 := hS.1
  have hS := hS0.tr hS
  refine W.widen (k := 1) (n := 6) (by omega) (by omega) ?_
  exact W.vret hx hb hr (fun t ht hW => ⟨⟨(upd (va_cpy (upd (upd (upd (upd (upd (upd (fun _ => 0) 0 0) 1 (nI a)) 2 (nI b)) 3 0) 4 1) 5 0) (tf) 0 360 6) 363 0), rfl, ⟨rfl, rfl⟩, ⟨(by rw [ht]; omega), by rw [ht]; exact hP, va_K.moved hW.alike (hK.sub (tys' := []) [] rfl), hD⟩⟩, hS.F ht⟩) hS.2.2 dX4_lay_122
theorem c_lay (l : Launch) (D : zG) (sz : Nat) (mo kT tb ld lK lC n : Nat) (e2 : ClassId) (tf : Nat → Int32) (a b : Nat) (t : Int32) (ht : t = 0 ∨ t = 1) : Met l yX4_lay wsX4_lay ({ frames := 1, cells := 1, slots := 6, locals := 400 }) (zPc D [(e2, .int)] ([(mo, .inr (4, [.int 0, .int 1, .ref kT, .int 1, .int 0, .int 1, .int 0, .int 0, .ref tb, .ref ld, .int (nI n), .ref lK, .ref lC, .int 0])), (tb, .inl (e2, 366, .inl (tf)))]) sz [.ref mo, .int 60, .int 0, .int (nI a), .int (nI b), .int t]) (va_Qv (fun (u : Nat → Int32) => u 360 = 0 ∧ u 363 = 0) (zB D (va_A ([(mo, .inr (4, [.int 0, .int 1, .ref kT, .int 1, .int 0, .int 1, .int 0, .int 0, .ref tb, .ref ld, .int (nI n), .ref lK, .ref lC, .int 0])), (tb, .inl (e2, 366, .inl (tf)))]) sz) (fun _ => []) (sz + 1) (fun u => [(mo, .inr (4, [.int 0, .int 1, .ref kT, .int 1, .int 0, .int 1, .int 0, .int 0, .ref tb, .ref ld, .int (nI n), .ref lK, .ref lC, .int 0])), (tb, .inl (e2, 366, .inl (u)))])) (va_A ([(mo, .inr (4, [.int 0, .int 1, .ref kT, .int 1, .int 0, .int 1, .int 0, .int 0, .ref tb, .ref ld, .int (nI n), .ref lK, .ref lC, .int 0])), (tb, .inl (e2, 366, .inl (tf)))]) sz)) 1 6 (va_A ([(mo, .inr (4, [.int 0, .int 1, .ref kT, .int 1, .int 0, .int 1, .int 0, .int 0, .ref tb, .ref ld, .int (nI n), .ref lK, .ref lC, .int 0])), (tb, .inl (e2, 366, .inl (tf)))]) sz) := by
  rcases ht with rfl | rfl
  · exact c_lay_0 l D sz mo kT tb ld lK lC n e2 tf a b
  · exact c_lay_1 l D sz mo kT tb ld lK lC n e2 tf a b
set_option maxHeartbeats 4000000 in
set_option maxRecDepth 100000 in
theorem c_why_0 (l : Launch) (D : zG) (sz : Nat) (mo kT tb ld lK lC n : Nat) (e1 e2 : ClassId) (g : Nat → Int32) (hg : g 0 = 1 ∧ g 1 = 1 ∧ g 2 = 2 ∧ g 3 = 1 ∧ g 4 = 0 ∧ g 5 = 1) (tf : Nat → Int32) (a b : Nat) (ha : a < 12) (hb2 : b < 10) : Met l yX4_why wsX4_why ({ frames := 2, cells := 1, slots := 6, locals := 440 }) (zPc D [(e1, .int), (e2, .int)] ([(mo, .inr (4, [.int 0, .int 1, .ref kT, .int 1, .int 0, .int 1, .int 0, .int 0, .ref tb, .ref ld, .int (nI n), .ref lK, .ref lC, .int 0])), (kT, .inl (e1, 60, .inl (g))), (tb, .inl (e2, 366, .inl (tf)))]) sz [.ref mo, .int 0, .int (nI a), .int (nI b), .int 0]) (va_Qi (fun (r : Int32) (u : Nat → Int32) => r = 2) (zB D (va_A ([(mo, .inr (4, [.int 0, .int 1, .ref kT, .int 1, .int 0, .int 1, .int 0, .int 0, .ref tb, .ref ld, .int (nI n), .ref lK, .ref lC, .int 0])), (kT, .inl (e1, 60, .inl (g))), (tb, .inl (e2, 366, .inl (tf)))]) sz) (fun _ => []) (sz + 1) (fun u => [(mo, .inr (4, [.int 0, .int 1, .ref kT, .int 1, .int 0, .int 1, .int 0, .int 0, .ref tb, .ref ld, .int (nI n), .ref lK, .ref lC, .int 0])), (kT, .inl (e1, 60, .inl (g))), (tb, .inl (e2, 366, .inl (u)))])) (va_A ([(mo, .inr (4, [.int 0, .int 1, .ref kT, .int 1, .int 0, .int 1, .int 0, .int 0, .ref tb, .ref ld, .int (nI n), .ref lK, .ref lC, .int 0])), (kT, .inl (e1, 60, .inl (g))), (tb, .inl (e2, 366, .inl (tf)))]) sz)) 1 6 (va_A ([(mo, .inr (4, [.int 0, .int 1, .ref kT, .int 1, .int 0, .int 1, .int 0, .int 0, .ref tb, .ref ld, .int (nI n), .ref lK, .ref lC, .int 0])), (kT, .inl (e1, 60, .inl (g))), (tb, .inl (e2, 366, .inl (tf)))]) sz) := by
  refine Met.ofW (cc := cX4_why) (maxL := 9) (ret := (some .int)) (by decide) rfl ?_
  intro p e s m args below meth c s₁ B hml hv
  obtain ⟨rfl, hsz, hP, hK, hD0⟩ := hv
  have hx := B.exec
  have hb := B.bytes
  have hr := B.returns
  have hts := atoms_spec (ws := wsX4_why) B.pre
  have hown : s.vm.findClass RX4 = some m.cls := findClass_of_methodNamed B.named
  have hlocks := B.notSynchronized
  subst hsz
  have hD := hD0.self (sz := s.heap.size)
  generalize hAe : va_A ([(mo, .inr (4, [.int 0, .int 1, .ref kT, .int 1, .int 0, .int 1, .int 0, .int 0, .ref tb, .ref ld, .int (nI n), .ref lK, .ref lC, .int 0])), (kT, .inl (e1, 60, .inl (g))), (tb, .inl (e2, 366, .inl (tf)))]) s.heap.size = A at hD ⊢
  have hA : ∀ q : Nat, s.heap.size ≤ q → A q := fun q h => by rw [← hAe]; exact Or.inr h
  have hS : va_S A s.heap s.heap [] := va_S.rf
  have hl := lv_entry ([.ref mo, .int 0, .int (nI a), .int (nI b), .int 0]) (n := 9) (Nat.le_of_ble_eq_true rfl)
  rw [lg_entry_eq]
  generalize (lg_sl ([.ref mo, .int 0, .int (nI a), .int (nI b), .int 0]) ++ List.replicate (9 - (lg_sl ([.ref mo, .int 0, .int (nI a), .int (nI b), .int 0])).length) Slot.unset).toArray = ls at hl ⊢
  have hl : lv_has ls 9 [(0, .ref mo), (1, .int 0), (2, .int (nI a)), (3, .int (nI b)), (4, .int 0)] := hl
  have hP : va_P D vwCl ([(mo, .inr (4, [.int 0, .int 1, .ref kT, .int 1, .int 0, .int 1, .int 0, .int 0, .ref tb, .ref ld, .int (nI n), .ref lK, .ref lC, .int 0])), (kT, .inl (e1, 60, .inl (g))), (tb, .inl (e2, 366, .inl (tf)))]) s.heap := hP
  generalize hRe : (headSpec _ _).room = R
  have hRf : R.frames = 2 := by rw [← hRe]; rfl
  have hRc : R.cells = 1 := by rw [← hRe]; rfl
  have hRs : R.slots = 6 := by rw [← hRe]; rfl
  have hRl : R.locals = 440 := by rw [← hRe]; rfl
  clear hRe
  refine lv_aload_n hx hb dX4_why_0 rfl (lv_at hl 0 rfl) ?_
  refine lv_iload_n hx hb dX4_why_1 rfl (lv_at hl 1 rfl) ?_
  refine lv_iconst (v := 5) hx hb dX4_why_2 (by decide) ?_
  refine zrdV (As := [.int 0, .int 5]) (rest := []) (wc := [(mo, .inr (4, [.int 0, .int 1, .ref kT, .int 1, .int 0, .int 1, .int 0, .int 0, .ref tb, .ref ld, .int (nI n), .ref lK, .ref lC, .int 0])), (kT, .inl (e1, 60, .inl (g)))]) ⟨hx, hb, hml, hown, hts⟩ (c_kind l D _ mo kT tb ld lK lC n e1 g 5 5 rfl (by decide)) (cwV 2 hts gX4_why_X4_kind rfl rfl rfl (by decide +kernel) ⟨by rw [hRf]; exact Nat.le_of_ble_eq_true rfl, by rw [hRl]; exact Nat.le_of_ble_eq_true rfl⟩) hK hP hD [0, 1] rfl (by decide) [0] rfl (ci := 4) (q0 := 0) rfl rfl rfl hl.1 rfl (Nat.le_of_ble_eq_true rfl) dX4_why_3 ⟨by omega, by omega⟩ (fun r_35 hr_35 => ?_)
  refine lv_topi (fun v_36 ev_36 => ?_)
  obtain rfl : v_36 = 1 := ev_36.trans (hr_35.trans hg.2.2.2.2.2)
  refine lv_istore (lv' := [(5, .int 1), (0, .ref mo), (1, .int 0), (2, .int (nI a)), (3, .int (nI b)), (4, .int 0)]) hx hb dX4_why_6 hl (by decide) rfl (fun ls hl => ?_)
  refine lv_iload hx hb dX4_why_8 (lv_at hl 5 rfl) ?_
  refine lv_if_eq (tgt := 23) hx hb dX4_why_10 (by decide) (fun c_37 => ?_) (fun c_37 => absurd (rfl) c_37)
  refine lv_aload_n hx hb dX4_why_23 rfl (lv_at hl 1 rfl) ?_
  refine lv_iload_n hx hb dX4_why_24 rfl (lv_at hl 2 rfl) ?_
  refine lv_iload hx hb dX4_why_25 (lv_at hl 5 rfl) ?_
  refine lv_if_eq (tgt := 34) hx hb dX4_why_27 (by decide) (fun c_38 => ?_) (fun c_38 => absurd (rfl) c_38)
  refine lv_iconst (v := 0) hx hb dX4_why_34 (by decide) ?_
  refine zrdV (As := [.int 0, .int 0]) (rest := []) (wc := [(mo, .inr (4, [.int 0, .int 1, .ref kT, .int 1, .int 0, .int 1, .int 0, .int 0, .ref tb, .ref ld, .int (nI n), .ref lK, .ref lC, .int 0])), (kT, .inl (e1, 60, .inl (g)))]) ⟨hx, hb, hml, hown, hts⟩ (c_kind l D _ mo kT tb ld lK lC n e1 g 0 0 rfl (by decide)) (cwV 2 hts gX4_why_X4_kind rfl rfl rfl (by decide +kernel) ⟨by rw [hRf]; exact Nat.le_of_ble_eq_true rfl, by rw [hRl]; exact Nat.le_of_ble_eq_true rfl⟩) hK hP hD [0, 1] rfl (by decide) [0] rfl (ci := 4) (q0 := 0) rfl rfl rfl hl.1 rfl (Nat.le_of_ble_eq_true rfl) dX4_why_35 ⟨by omega, by omega⟩ (fun r_39 hr_39 => ?_)
  refine lv_topi (fun v_40 ev_40 => ?_)
  obtain rfl : v_40 = 1 := ev_40.trans (hr_39.trans hg.1)
  refine lv_istore (lv' := [(6, .int 1), (5, .int 1), (0, .ref mo), (1, .int 0), (2, .int (nI a)), (3, .int (nI b)), (4, .int 0)]) hx hb dX4_why_38 hl (by decide) rfl (fun ls hl => ?_)
  refine lv_aload_n hx hb dX4_why_40 rfl (lv_at hl 2 rfl) ?_
  refine lv_iload_n hx hb dX4_why_41 rfl (lv_at hl 3 rfl) ?_
  refine lv_iload hx hb dX4_why_42 (lv_at hl 6 rfl) ?_
  refine lv_if_eq (tgt := 51) hx hb dX4_why_44 (by decide) (fun c_41 => ?_) (fun c_41 => absurd (rfl) c_41)
  refine lv_iconst (v := 1) hx hb dX4_why_51 (by decide) ?_
  refine zrdV (As := [.int 0, .int 1]) (rest := []) (wc := [(mo, .inr (4, [.int 0, .int 1, .ref kT, .int 1, .int 0, .int 1, .int 0, .int 0, .ref tb, .ref ld, .int (nI n), .ref lK, .ref lC, .int 0])), (kT, .inl (e1, 60, .inl (g)))]) ⟨hx, hb, hml, hown, hts⟩ (c_kind l D _ mo kT tb ld lK lC n e1 g 1 1 rfl (by decide)) (cwV 2 hts gX4_why_X4_kind rfl rfl rfl (by decide +kernel) ⟨by rw [hRf]; exact Nat.le_of_ble_eq_true rfl, by rw [hRl]; exact Nat.le_of_ble_eq_true rfl⟩) hK hP hD [0, 1] rfl (by decide) [0] rfl (ci := 4) (q0 := 0) rfl rfl rfl hl.1 rfl (Nat.le_of_ble_eq_true rfl) dX4_why_52 ⟨by omega, by omega⟩ (fun r_42 hr_42 => ?_)
  refine lv_topi (fun v_43 ev_43 => ?_)
  obtain rfl : v_43 = 1 := ev_43.trans (hr_42.trans hg.2.1)
  refine lv_istore (lv' := [(7, .int 1), (6, .int 1), (5, .int 1), (0, .ref mo), (1, .int 0), (2, .int (nI a)), (3, .int (nI b)), (4, .int 0)]) hx hb dX4_why_55 hl (by decide) rfl (fun ls hl => ?_)
  refine lv_iload_n hx hb dX4_why_57 rfl (lv_at hl 5 rfl) ?_
  refine lv_iconst (v := 0) hx hb dX4_why_58 (by decide) ?_
  refine lv_bipush (v := 12) hx hb dX4_why_59 (by decide) ?_
  refine lv_iload hx hb dX4_why_61 (lv_at hl 1 rfl) ?_
  refine lv_isub hx hb dX4_why_63 ?_
  refine lv_topi (fun v_44 ev_44 => ?_)
  obtain rfl : v_44 = 11 := ev_44.trans (by decide)
  refine zrdS (As := [.int (nI a), .int 0, .int 11]) (rest := []) (wc := []) ⟨hx, hb, hml, hown, hts⟩ (c_isIn l D _ (nI a) 0 11) (va_cwS 3 hts gX4_why_X4_isIn rfl rfl rfl (by decide +kernel) ⟨by rw [hRf]; exact Nat.le_of_ble_eq_true rfl, by rw [hRl]; exact Nat.le_of_ble_eq_true rfl⟩) hK hP hD [] rfl (by decide) [] rfl rfl hl.1 rfl (Nat.le_of_ble_eq_true rfl) dX4_why_64 ⟨by omega, by omega⟩ (fun r_45 hr_45 => ?_)
  refine lv_topi (fun v_46 ev_46 => ?_)
  obtain rfl : v_46 = 1 := ev_46.trans (hr_45.trans (if_pos ⟨nI_pos' (by omega), (nI_leI (b := 11) (by omega) (by decide)).mpr (by omega)⟩))
  refine lv_if_eq (tgt := 83) hx hb dX4_why_67 (by decide) (fun c_47 => absurd c_47 (by decide)) (fun c_47 => ?_)
  refine lv_iload_n hx hb dX4_why_70 rfl (lv_at hl 6 rfl) ?_
  refine lv_iconst (v := 0) hx hb dX4_why_71 (by decide) ?_
  refine lv_bipush (v := 10) hx hb dX4_why_72 (by decide) ?_
  refine lv_iload hx hb dX4_why_74 (lv_at hl 0 rfl) ?_
  refine lv_isub hx hb dX4_why_76 ?_
  refine lv_topi (fun v_48 ev_48 => ?_)
  obtain rfl : v_48 = 9 := ev_48.trans (by decide)
  refine zrdS (As := [.int (nI b), .int 0, .int 9]) (rest := []) (wc := []) ⟨hx, hb, hml, hown, hts⟩ (c_isIn l D _ (nI b) 0 9) (va_cwS 3 hts gX4_why_X4_isIn rfl rfl rfl (by decide +kernel) ⟨by rw [hRf]; exact Nat.le_of_ble_eq_true rfl, by rw [hRl]; exact Nat.le_of_ble_eq_true rfl⟩) hK hP hD [] rfl (by decide) [] rfl rfl hl.1 rfl (Nat.le_of_ble_eq_true rfl) dX4_why_77 ⟨by omega, by omega⟩ (fun r_49 hr_49 => ?_)
  refine lv_topi (fun v_50 ev_50 => ?_)
  obtain rfl : v_50 = 1 := ev_50.trans (hr_49.trans (if_pos ⟨nI_pos' (by omega), (nI_leI (b := 9) (by omega) (by decide)).mpr (by omega)⟩))
  refine lv_if_ne (tgt := 85) hx hb dX4_why_80 (by decide) (fun c_51 => ?_) (fun c_51 => absurd c_51 (by decide))
  refine lv_aload_n hx hb dX4_why_85 rfl (lv_at hl 3 rfl) ?_
  refine lv_bipush (v := 60) hx hb dX4_why_86 (by decide) ?_
  refine lv_iload_n hx hb dX4_why_88 rfl (lv_at hl 4 rfl) ?_
  refine lv_iload_n hx hb dX4_why_89 rfl (lv_at hl 5 rfl) ?_
  refine lv_iload_n hx hb dX4_why_90 rfl (lv_at hl 6 rfl) ?_
  refine lv_iload hx hb dX4_why_91 (lv_at hl 7 rfl) ?_
  refine zcallvV (As := [.int 60, .int 0, .int (nI a), .int (nI b), .int 0]) (rest := []) (wc := [(mo, .inr (4, [.int 0, .int 1, .ref kT, .int 1, .int 0, .int 1, .int 0, .int 0, .ref tb, .ref ld, .int (nI n), .ref lK, .ref lC, .int 0])), (tb, .inl (e2, 366, .inl (tf)))]) (wr := [(kT, .inl (e1, 60, .inl (g)))]) ⟨hx, hb, hml, hown, hts⟩ (c_lay l D _ mo kT tb ld lK lC n e2 tf a b 0 (by decide)) (cwV 5 hts gX4_why_X4_lay rfl rfl rfl (by decide +kernel) ⟨by rw [hRf]; exact Nat.le_of_ble_eq_true rfl, by rw [hRl]; exact Nat.le_of_ble_eq_true rfl⟩) hK hP hD hS hA [0, 2] [1] rfl (by decide) rfl (by decide) (by decide) [1] rfl (ci := 4) (q0 := 0) rfl rfl rfl hl.1 rfl (Nat.le_of_ble_eq_true rfl) dX4_why_93 ⟨by omega, by omega⟩ (fun u_53 H locs hwu_53 hnu_53 hzu_53 hK hP hD hS => ?_)
  have hK : va_K D vwCl [(e1, .int), (e2, .int)] s := hK
  have hP : va_P D vwCl ([(kT, .inl (e1, 60, .inl (g))), (mo, .inr (4, [.int 0, .int 1, .ref kT, .int 1, .int 0, .int 1, .int 0, .int 0, .ref tb, .ref ld, .int (nI n), .ref lK, .ref lC, .int 0])), (tb, .inl (e2, 366, .inl (u_53)))]) H := hP
  have hD : va_D A ([(kT, .inl (e1, 60, .inl (g))), (mo, .inr (4, [.int 0, .int 1, .ref kT, .int 1, .int 0, .int 1, .int 0, .int 0, .ref tb, .ref ld, .int (nI n), .ref lK, .ref lC, .int 0])), (tb, .inl (e2, 366, .inl (u_53)))]) := hD
  have hP := hP.sub (ws' := [(mo, .inr (4, [.int 0, .int 1, .ref kT, .int 1, .int 0, .int 1, .int 0, .int 0, .ref tb, .ref ld, .int (nI n), .ref lK, .ref lC, .int 0])), (kT, .inl (e1, 60, .inl (g))), (tb, .inl (e2, 366, .inl (u_53)))]) [1, 0, 2] rfl
  have hD := hD.sub (ws' := [(mo, .inr (4, [.int 0, .int 1, .ref kT, .int 1, .int 0, .int 1, .int 0, .int 0, .ref tb, .ref ld, .int (nI n), .ref lK, .ref lC, .int 0])), (kT, .inl (e1, 60, .inl (g))), (tb, .inl (e2, 366, .inl (u_53)))]) [1, 0, 2] (by decide) rfl
  refine lv_aload_n hx hb dX4_why_96 rfl (lv_at hl 3 rfl) ?_
  refine lv_bipush (v := 60) hx hb dX4_why_97 (by decide) ?_
  refine zrdV (As := [.int 60]) (rest := []) (wc := [(mo, .inr (4, [.int 0, .int 1, .ref kT, .int 1, .int 0, .int 1, .int 0, .int 0, .ref tb, .ref ld, .int (nI n), .ref lK, .ref lC, .int 0])), (kT, .inl (e1, 60, .inl (g))), (tb, .inl (e2, 366, .inl (u_53)))]) ⟨hx, hb, hml, hown, hts⟩ (c_topOfM l D _ mo kT tb ld lK lC n e1 e2 g hg u_53 hwu_53.1 hwu_53.2) (cwV 1 hts gX4_why_X4_topOf rfl rfl rfl (by decide +kernel) ⟨by rw [hRf]; exact Nat.le_of_ble_eq_true rfl, by rw [hRl]; exact Nat.le_of_ble_eq_true rfl⟩) hK hP hD [0, 1, 2] rfl (by decide) [0, 1] rfl (ci := 4) (q0 := 0) rfl rfl rfl hl.1 rfl (Nat.le_of_ble_eq_true rfl) dX4_why_99 ⟨by omega, by omega⟩ (fun r_54 hr_54 => ?_)
  refine lv_topi (fun v_55 ev_55 => ?_)
  obtain rfl : v_55 = 2 := ev_55.trans hr_54
  refine lv_aload_n hx hb dX4_why_102 rfl (lv_at hl 3 rfl) ?_
  refine va_get (D := D) (ci := 4) (v := .int 1) (C := RX4) (T := TX4) (N := 14) hx hb hts (fun _ h9 => List.mem_cons_of_mem _ (List.mem_append_right _ h9)) hown hK hP 0 rfl rfl 3 (by decide) (hts (.fieldLink RX4 13 "PalletStackModel" "highest" "I") (List.mem_of_getElem? (i := 1) (by rfl))) (fun _ h9 => h9) rfl dX4_why_103 ?_
  refine lv_icmp_le (tgt := 111) hx hb dX4_why_106 (by decide) (fun c_56 => absurd c_56 (by decide)) (fun c_56 => ?_)
  refine lv_iconst (v := 2) hx hb dX4_why_109 (by decide) ?_
  refine W.widen (k := 1) (n := 6) (by omega) (by omega) ?_
  exact W.iret (v := 2) hx hb hr (fun t ht hW => ⟨⟨2, u_53, rfl, rfl, ⟨(by rw [ht]; exact hnu_53), by rw [ht]; exact hP, va_K.moved hW.alike (hK.sub (tys' := []) [] rfl), hD⟩⟩, hS.F ht⟩) hS.2.2 dX4_why_110
set_option maxHeartbeats 4000000 in
set_option maxRecDepth 100000 in
theorem c_why_1 (l : Launch) (D : zG) (sz : Nat) (mo kT tb ld lK lC n : Nat) (e1 e2 : ClassId) (g : Nat → Int32) (hg : g 0 = 1 ∧ g 1 = 1 ∧ g 2 = 2 ∧ g 3 = 1 ∧ g 4 = 0 ∧ g 5 = 1) (tf : Nat → Int32) (a b : Nat) (ha : a < 12) (hb2 : b < 10) : Met l yX4_why wsX4_why ({ frames := 2, cells := 1, slots := 6, locals := 440 }) (zPc D [(e1, .int), (e2, .int)] ([(mo, .inr (4, [.int 0, .int 1, .ref kT, .int 1, .int 0, .int 1, .int 0, .int 0, .ref tb, .ref ld, .int (nI n), .ref lK, .ref lC, .int 0])), (kT, .inl (e1, 60, .inl (g))), (tb, .inl (e2, 366, .inl (tf)))]) sz [.ref mo, .int 0, .int (nI a), .int (nI b), .int 1]) (va_Qi (fun (r : Int32) (u : Nat → Int32) => r = 2) (zB D (va_A ([(mo, .inr (4, [.int 0, .int 1, .ref kT, .int 1, .int 0, .int 1, .int 0, .int 0, .ref tb, .ref ld, .int (nI n), .ref lK, .ref lC, .int 0])), (kT, .inl (e1, 60, .inl (g))), (tb, .inl (e2, 366, .inl (tf)))]) sz) (fun _ => []) (sz + 1) (fun u => [(mo, .inr (4, [.int 0, .int 1, .ref kT, .int 1, .int 0, .int 1, .int 0, .int 0, .ref tb, .ref ld, .int (nI n), .ref lK, .ref lC, .int 0])), (kT, .inl (e1, 60, .inl (g))), (tb, .inl (e2, 366, .inl (u)))])) (va_A ([(mo, .inr (4, [.int 0, .int 1, .ref kT, .int 1, .int 0, .int 1, .int 0, .int 0, .ref tb, .ref ld, .int (nI n), .ref lK, .ref lC, .int 0])), (kT, .inl (e1, 60, .inl (g))), (tb, .inl (e2, 366, .inl (tf)))]) sz)) 1 6 (va_A ([(mo, .inr (4, [.int 0, .int 1, .ref kT, .int 1, .int 0, .int 1, .int 0, .int 0, .ref tb, .ref ld, .int (nI n), .ref lK, .ref lC, .int 0])), (kT, .inl (e1, 60, .inl (g))), (tb, .inl (e2, 366, .inl (tf)))]) sz) := by
  refine Met.ofW (cc := cX4_why) (maxL := 9) (ret := (some .int)) (by decide) rfl ?_
  intro p e s m args below meth c s₁ B hml hv
  obtain ⟨rfl, hsz, hP, hK, hD0⟩ := hv
  have hx := B.exec
  have hb := B.bytes
  have hr := B.returns
  have hts := atoms_spec (ws := wsX4_why) B.pre
  have hown : s.vm.findClass RX4 = some m.cls := findClass_of_methodNamed B.named
  have hlocks := B.notSynchronized
  subst hsz
  have hD := hD0.self (sz := s.heap.size)
  generalize hAe : va_A ([(mo, .inr (4, [.int 0, .int 1, .ref kT, .int 1, .int 0, .int 1, .int 0, .int 0, .ref tb, .ref ld, .int (nI n), .ref lK, .ref lC, .int 0])), (kT, .inl (e1, 60, .inl (g))), (tb, .inl (e2, 366, .inl (tf)))]) s.heap.size = A at hD ⊢
  have hA : ∀ q : Nat, s.heap.size ≤ q → A q := fun q h => by rw [← hAe]; exact Or.inr h
  have hS : va_S A s.heap s.heap [] := va_S.rf
  have hl := lv_entry ([.ref mo, .int 0, .int (nI a), .int (nI b), .int 1]) (n := 9) (Nat.le_of_ble_eq_true rfl)
  rw [lg_entry_eq]
  generalize (lg_sl ([.ref mo, .int 0, .int (nI a), .int (nI b), .int 1]) ++ List.replicate (9 - (lg_sl ([.ref mo, .int 0, .int (nI a), .int (nI b), .int 1])).length) Slot.unset).toArray = ls at hl ⊢
  have hl : lv_has ls 9 [(0, .ref mo), (1, .int 0), (2, .int (nI a)), (3, .int (nI b)), (4, .int 1)] := hl
  have hP : va_P D vwCl ([(mo, .inr (4, [.int 0, .int 1, .ref kT, .int 1, .int 0, .int 1, .int 0, .int 0, .ref tb, .ref ld, .int (nI n), .ref lK, .ref lC, .int 0])), (kT, .inl (e1, 60, .inl (g))), (tb, .inl (e2, 366, .inl (tf)))]) s.heap := hP
  generalize hRe : (headSpec _ _).room = R
  have hRf : R.frames = 2 := by rw [← hRe]; rfl
  have hRc : R.cells = 1 := by rw [← hRe]; rfl
  have hRs : R.slots = 6 := by rw [← hRe]; rfl
  have hRl : R.locals = 440 := by rw [← hRe]; rfl
  clear hRe
  refine lv_aload_n hx hb dX4_why_0 rfl (lv_at hl 0 rfl) ?_
  refine lv_iload_n hx hb dX4_why_1 rfl (lv_at hl 1 rfl) ?_
  refine lv_iconst (v := 5) hx hb dX4_why_2 (by decide) ?_
  refine zrdV (As := [.int 0, .int 5]) (rest := []) (wc := [(mo, .inr (4, [.int 0, .int 1, .ref kT, .int 1, .int 0, .int 1, .int 0, .int 0, .ref tb, .ref ld, .int (nI n), .ref lK, .ref lC, .int 0])), (kT, .inl (e1, 60, .inl (g)))]) ⟨hx, hb, hml, hown, hts⟩ (c_kind l D _ mo kT tb ld lK lC n e1 g 5 5 rfl (by decide)) (cwV 2 hts gX4_why_X4_kind rfl rfl rfl (by decide +kernel) ⟨by rw [hRf]; exact Nat.le_of_ble_eq_true rfl, by rw [hRl]; exact Nat.le_of_ble_eq_true rfl⟩) hK hP hD [0, 1] rfl (by decide) [0] rfl (ci := 4) (q0 := 0) rfl rfl rfl hl.1 rfl (Nat.le_of_ble_eq_true rfl) dX4_why_3 ⟨by omega, by omega⟩ (fun r_57 hr_57 => ?_)
  refine lv_topi (fun v_58 ev_58 => ?_)
  obtain rfl : v_58 = 1 := ev_58.trans (hr_57.trans hg.2.2.2.2.2)
  refine lv_istore (lv' := [(5, .int 1), (0, .ref mo), (1, .int 0), (2, .int (nI a)), (3, .int (nI b)), (4, .int 1)]) hx hb dX4_why_6 hl (by decide) rfl (fun ls hl => ?_)
  refine lv_iload hx hb dX4_why_8 (lv_at hl 5 rfl) ?_
  refine lv_if_eq (tgt := 23) hx hb dX4_why_10 (by decide) (fun c_59 => absurd c_59 (by decide)) (fun c_59 => ?_)
  refine lv_iload hx hb dX4_why_13 (lv_at hl 0 rfl) ?_
  refine zrdS (As := [.int 1]) (rest := []) (wc := []) ⟨hx, hb, hml, hown, hts⟩ (c_canTurn l D _) (va_cwS 1 hts gX4_why_X4_canTurn rfl rfl rfl (by decide +kernel) ⟨by rw [hRf]; exact Nat.le_of_ble_eq_true rfl, by rw [hRl]; exact Nat.le_of_ble_eq_true rfl⟩) hK hP hD [] rfl (by decide) [] rfl rfl hl.1 rfl (Nat.le_of_ble_eq_true rfl) dX4_why_15 ⟨by omega, by omega⟩ (fun r_60 hr_60 => ?_)
  refine lv_topi (fun v_61 ev_61 => ?_)
  obtain rfl : v_61 = 1 := ev_61.trans hr_60
  refine lv_if_ne (tgt := 23) hx hb dX4_why_18 (by decide) (fun c_62 => ?_) (fun c_62 => absurd c_62 (by decide))
  refine lv_aload_n hx hb dX4_why_23 rfl (lv_at hl 1 rfl) ?_
  refine lv_iload_n hx hb dX4_why_24 rfl (lv_at hl 2 rfl) ?_
  refine lv_iload hx hb dX4_why_25 (lv_at hl 5 rfl) ?_
  refine lv_if_eq (tgt := 34) hx hb dX4_why_27 (by decide) (fun c_63 => absurd c_63 (by decide)) (fun c_63 => ?_)
  refine lv_iconst (v := 1) hx hb dX4_why_30 (by decide) ?_
  refine lv_goto (tgt := 35) hx hb dX4_why_31 (by decide) ?_
  refine zrdV (As := [.int 0, .int 1]) (rest := []) (wc := [(mo, .inr (4, [.int 0, .int 1, .ref kT, .int 1, .int 0, .int 1, .int 0, .int 0, .ref tb, .ref ld, .int (nI n), .ref lK, .ref lC, .int 0])), (kT, .inl (e1, 60, .inl (g)))]) ⟨hx, hb, hml, hown, hts⟩ (c_kind l D _ mo kT tb ld lK lC n e1 g 1 1 rfl (by decide)) (cwV 2 hts gX4_why_X4_kind rfl rfl rfl (by decide +kernel) ⟨by rw [hRf]; exact Nat.le_of_ble_eq_true rfl, by rw [hRl]; exact Nat.le_of_ble_eq_true rfl⟩) hK hP hD [0, 1] rfl (by decide) [0] rfl (ci := 4) (q0 := 0) rfl rfl rfl hl.1 rfl (Nat.le_of_ble_eq_true rfl) dX4_why_35 ⟨by omega, by omega⟩ (fun r_64 hr_64 => ?_)
  refine lv_topi (fun v_65 ev_65 => ?_)
  obtain rfl : v_65 = 1 := ev_65.trans (hr_64.trans hg.2.1)
  refine lv_istore (lv' := [(6, .int 1), (5, .int 1), (0, .ref mo), (1, .int 0), (2, .int (nI a)), (3, .int (nI b)), (4, .int 1)]) hx hb dX4_why_38 hl (by decide) rfl (fun ls hl => ?_)
  refine lv_aload_n hx hb dX4_why_40 rfl (lv_at hl 2 rfl) ?_
  refine lv_iload_n hx hb dX4_why_41 rfl (lv_at hl 3 rfl) ?_
  refine lv_iload hx hb dX4_why_42 (lv_at hl 6 rfl) ?_
  refine lv_if_eq (tgt := 51) hx hb dX4_why_44 (by decide) (fun c_66 => absurd c_66 (by decide)) (fun c_66 => ?_)
  refine lv_iconst (v := 0) hx hb dX4_why_47 (by decide) ?_
  refine lv_goto (tgt := 52) hx hb dX4_why_48 (by decide) ?_
  refine zrdV (As := [.int 0, .int 0]) (rest := []) (wc := [(mo, .inr (4, [.int 0, .int 1, .ref kT, .int 1, .int 0, .int 1, .int 0, .int 0, .ref tb, .ref ld, .int (nI n), .ref lK, .ref lC, .int 0])), (kT, .inl (e1, 60, .inl (g)))]) ⟨hx, hb, hml, hown, hts⟩ (c_kind l D _ mo kT tb ld lK lC n e1 g 0 0 rfl (by decide)) (cwV 2 hts gX4_why_X4_kind rfl rfl rfl (by decide +kernel) ⟨by rw [hRf]; exact Nat.le_of_ble_eq_true rfl, by rw [hRl]; exact Nat.le_of_ble_eq_true rfl⟩) hK hP hD [0, 1] rfl (by decide) [0] rfl (ci := 4) (q0 := 0) rfl rfl rfl hl.1 rfl (Nat.le_of_ble_eq_true rfl) dX4_why_52 ⟨by omega, by omega⟩ (fun r_67 hr_67 => ?_)
  refine lv_topi (fun v_68 ev_68 => ?_)
  obtain rfl : v_68 = 1 := ev_68.trans (hr_67.trans hg.1)
  refine lv_istore (lv' := [(7, .int 1), (6, .int 1), (5, .int 1), (0, .ref mo), (1, .int 0), (2, .int (nI a)), (3, .int (nI b)), (4, .int 1)]) hx hb dX4_why_55 hl (by decide) rfl (fun ls hl => ?_)
  refine lv_iload_n hx hb dX4_why_57 rfl (lv_at hl 5 rfl) ?_
  refine lv_iconst (v := 0) hx hb dX4_why_58 (by decide) ?_
  refine lv_bipush (v := 12) hx hb dX4_why_59 (by decide) ?_
  refine lv_iload hx hb dX4_why_61 (lv_at hl 1 rfl) ?_
  refine lv_isub hx hb dX4_why_63 ?_
  refine lv_topi (fun v_69 ev_69 => ?_)
  obtain rfl : v_69 = 11 := ev_69.trans (by decide)
  refine zrdS (As := [.int (nI a), .int 0, .int 11]) (rest := []) (wc := []) ⟨hx, hb, hml, hown, hts⟩ (c_isIn l D _ (nI a) 0 11) (va_cwS 3 hts gX4_why_X4_isIn rfl rfl rfl (by decide +kernel) ⟨by rw [hRf]; exact Nat.le_of_ble_eq_true rfl, by rw [hRl]; exact Nat.le_of_ble_eq_true rfl⟩) hK hP hD [] rfl (by decide) [] rfl rfl hl.1 rfl (Nat.le_of_ble_eq_true rfl) dX4_why_64 ⟨by omega, by omega⟩ (fun r_70 hr_70 => ?_)
  refine lv_topi (fun v_71 ev_71 => ?_)
  obtain rfl : v_71 = 1 := ev_71.trans (hr_70.trans (if_pos ⟨nI_pos' (by omega), (nI_leI (b := 11) (by omega) (by decide)).mpr (by omega)⟩))
  refine lv_if_eq (tgt := 83) hx hb dX4_why_67 (by decide) (fun c_72 => absurd c_72 (by decide)) (fun c_72 => ?_)
  refine lv_iload_n hx hb dX4_why_70 rfl (lv_at hl 6 rfl) ?_
  refine lv_iconst (v := 0) hx hb dX4_why_71 (by decide) ?_
  refine lv_bipush (v := 10) hx hb dX4_why_72 (by decide) ?_
  refine lv_iload hx hb dX4_why_74 (lv_at hl 0 rfl) ?_
  refine lv_isub hx hb dX4_why_76 ?_
  refine lv_topi (fun v_73 ev_73 => ?_)
  obtain rfl : v_73 = 9 := ev_73.trans (by decide)
  refine zrdS (As := [.int (nI b), .int 0, .int 9]) (rest := []) (wc := []) ⟨hx, hb, hml, hown, hts⟩ (c_isIn l D _ (nI b) 0 9) (va_cwS 3 hts gX4_why_X4_isIn rfl rfl rfl (by decide +kernel) ⟨by rw [hRf]; exact Nat.le_of_ble_eq_true rfl, by rw [hRl]; exact Nat.le_of_ble_eq_true rfl⟩) hK hP hD [] rfl (by decide) [] rfl rfl hl.1 rfl (Nat.le_of_ble_eq_true rfl) dX4_why_77 ⟨by omega, by omega⟩ (fun r_74 hr_74 => ?_)
  refine lv_topi (fun v_75 ev_75 => ?_)
  obtain rfl : v_75 = 1 := ev_75.trans (hr_74.trans (if_pos ⟨nI_pos' (by omega), (nI_leI (b := 9) (by omega) (by decide)).mpr (by omega)⟩))
  refine lv_if_ne (tgt := 85) hx hb dX4_why_80 (by decide) (fun c_76 => ?_) (fun c_76 => absurd c_76 (by decide))
  refine lv_aload_n hx hb dX4_why_85 rfl (lv_at hl 3 rfl) ?_
  refine lv_bipush (v := 60) hx hb dX4_why_86 (by decide) ?_
  refine lv_iload_n hx hb dX4_why_88 rfl (lv_at hl 4 rfl) ?_
  refine lv_iload_n hx hb dX4_why_89 rfl (lv_at hl 5 rfl) ?_
  refine lv_iload_n hx hb dX4_why_90 rfl (lv_at hl 6 rfl) ?_
  refine lv_iload hx hb dX4_why_91 (lv_at hl 7 rfl) ?_
  refine zcallvV (As := [.int 60, .int 0, .int (nI a), .int (nI b), .int 1]) (rest := []) (wc := [(mo, .inr (4, [.int 0, .int 1, .ref kT, .int 1, .int 0, .int 1, .int 0, .int 0, .ref tb, .ref ld, .int (nI n), .ref lK, .ref lC, .int 0])), (tb, .inl (e2, 366, .inl (tf)))]) (wr := [(kT, .inl (e1, 60, .inl (g)))]) ⟨hx, hb, hml, hown, hts⟩ (c_lay l D _ mo kT tb ld lK lC n e2 tf a b 1 (by decide)) (cwV 5 hts gX4_why_X4_lay rfl rfl rfl (by decide +kernel) ⟨by rw [hRf]; exact Nat.le_of_ble_eq_true rfl, by rw [hRl]; exact Nat.le_of_ble_eq_true rfl⟩) hK hP hD hS hA [0, 2] [1] rfl (by decide) rfl (by decide) (by decide) [1] rfl (ci := 4) (q0 := 0) rfl rfl rfl hl.1 rfl (Nat.le_of_ble_eq_true rfl) dX4_why_93 ⟨by omega, by omega⟩ (fun u_78 H locs hwu_78 hnu_78 hzu_78 hK hP hD hS => ?_)
  have hK : va_K D vwCl [(e1, .int), (e2, .int)] s := hK
  have hP : va_P D vwCl ([(kT, .inl (e1, 60, .inl (g))), (mo, .inr (4, [.int 0, .int 1, .ref kT, .int 1, .int 0, .int 1, .int 0, .int 0, .ref tb, .ref ld, .int (nI n), .ref lK, .ref lC, .int 0])), (tb, .inl (e2, 366, .inl (u_78)))]) H := hP
  have hD : va_D A ([(kT, .inl (e1, 60, .inl (g))), (mo, .inr (4, [.int 0, .int 1, .ref kT, .int 1, .int 0, .int 1, .int 0, .int 0, .ref tb, .ref ld, .int (nI n), .ref lK, .ref lC, .int 0])), (tb, .inl (e2, 366, .inl (u_78)))]) := hD
  have hP := hP.sub (ws' := [(mo, .inr (4, [.int 0, .int 1, .ref kT, .int 1, .int 0, .int 1, .int 0, .int 0, .ref tb, .ref ld, .int (nI n), .ref lK, .ref lC, .int 0])), (kT, .inl (e1, 60, .inl (g))), (tb, .inl (e2, 366, .inl (u_78)))]) [1, 0, 2] rfl
  have hD := hD.sub (ws' := [(mo, .inr (4, [.int 0, .int 1, .ref kT, .int 1, .int 0, .int 1, .int 0, .int 0, .ref tb, .ref ld, .int (nI n), .ref lK, .ref lC, .int 0])), (kT, .inl (e1, 60, .inl (g))), (tb, .inl (e2, 366, .inl (u_78)))]) [1, 0, 2] (by decide) rfl
  refine lv_aload_n hx hb dX4_why_96 rfl (lv_at hl 3 rfl) ?_
  refine lv_bipush (v := 60) hx hb dX4_why_97 (by decide) ?_
  refine zrdV (As := [.int 60]) (rest := []) (wc := [(mo, .inr (4, [.int 0, .int 1, .ref kT, .int 1, .int 0, .int 1, .int 0, .int 0, .ref tb, .ref ld, .int (nI n), .ref lK, .ref lC, .int 0])), (kT, .inl (e1, 60, .inl (g))), (tb, .inl (e2, 366, .inl (u_78)))]) ⟨hx, hb, hml, hown, hts⟩ (c_topOfM l D _ mo kT tb ld lK lC n e1 e2 g hg u_78 hwu_78.1 hwu_78.2) (cwV 1 hts gX4_why_X4_topOf rfl rfl rfl (by decide +kernel) ⟨by rw [hRf]; exact Nat.le_of_ble_eq_true rfl, by rw [hRl]; exact Nat.le_of_ble_eq_true rfl⟩) hK hP hD [0, 1, 2] rfl (by decide) [0, 1] rfl (ci := 4) (q0 := 0) rfl rfl rfl hl.1 rfl (Nat.le_of_ble_eq_true rfl) dX4_why_99 ⟨by omega, by omega⟩ (fun r_79 hr_79 => ?_)
  refine lv_topi (fun v_80 ev_80 => ?_)
  obtain rfl : v_80 = 2 := ev_80.trans hr_79
  refine lv_aload_n hx hb dX4_why_102 rfl (lv_at hl 3 rfl) ?_
  refine va_get (D := D) (ci := 4) (v := .int 1) (C := RX4) (T := TX4) (N := 14) hx hb hts (fun _ h9 => List.mem_cons_of_mem _ (List.mem_append_right _ h9)) hown hK hP 0 rfl rfl 3 (by decide) (hts (.fieldLink RX4 13 "PalletStackModel" "highest" "I") (List.mem_of_getElem? (i := 1) (by rfl))) (fun _ h9 => h9) rfl dX4_why_103 ?_
  refine lv_icmp_le (tgt := 111) hx hb dX4_why_106 (by decide) (fun c_81 => absurd c_81 (by decide)) (fun c_81 => ?_)
  refine lv_iconst (v := 2) hx hb dX4_why_109 (by decide) ?_
  refine W.widen (k := 1) (n := 6) (by omega) (by omega) ?_
  exact W.iret (v := 2) hx hb hr (fun t ht hW => ⟨⟨2, u_78, rfl, rfl, ⟨(by rw [ht]; exact hnu_78), by rw [ht]; exact hP, va_K.moved hW.alike (hK.sub (tys' := []) [] rfl), hD⟩⟩, hS.F ht⟩) hS.2.2 dX4_why_110
theorem c_why (l : Launch) (D : zG) (sz : Nat) (mo kT tb ld lK lC n : Nat) (e1 e2 : ClassId) (g : Nat → Int32) (hg : g 0 = 1 ∧ g 1 = 1 ∧ g 2 = 2 ∧ g 3 = 1 ∧ g 4 = 0 ∧ g 5 = 1) (tf : Nat → Int32) (a b : Nat) (ha : a < 12) (hb2 : b < 10) (t : Int32) (ht : t = 0 ∨ t = 1) : Met l yX4_why wsX4_why ({ frames := 2, cells := 1, slots := 6, locals := 440 }) (zPc D [(e1, .int), (e2, .int)] ([(mo, .inr (4, [.int 0, .int 1, .ref kT, .int 1, .int 0, .int 1, .int 0, .int 0, .ref tb, .ref ld, .int (nI n), .ref lK, .ref lC, .int 0])), (kT, .inl (e1, 60, .inl (g))), (tb, .inl (e2, 366, .inl (tf)))]) sz [.ref mo, .int 0, .int (nI a), .int (nI b), .int t]) (va_Qi (fun (r : Int32) (u : Nat → Int32) => r = 2) (zB D (va_A ([(mo, .inr (4, [.int 0, .int 1, .ref kT, .int 1, .int 0, .int 1, .int 0, .int 0, .ref tb, .ref ld, .int (nI n), .ref lK, .ref lC, .int 0])), (kT, .inl (e1, 60, .inl (g))), (tb, .inl (e2, 366, .inl (tf)))]) sz) (fun _ => []) (sz + 1) (fun u => [(mo, .inr (4, [.int 0, .int 1, .ref kT, .int 1, .int 0, .int 1, .int 0, .int 0, .ref tb, .ref ld, .int (nI n), .ref lK, .ref lC, .int 0])), (kT, .inl (e1, 60, .inl (g))), (tb, .inl (e2, 366, .inl (u)))])) (va_A ([(mo, .inr (4, [.int 0, .int 1, .ref kT, .int 1, .int 0, .int 1, .int 0, .int 0, .ref tb, .ref ld, .int (nI n), .ref lK, .ref lC, .int 0])), (kT, .inl (e1, 60, .inl (g))), (tb, .inl (e2, 366, .inl (tf)))]) sz)) 1 6 (va_A ([(mo, .inr (4, [.int 0, .int 1, .ref kT, .int 1, .int 0, .int 1, .int 0, .int 0, .ref tb, .ref ld, .int (nI n), .ref lK, .ref lC, .int 0])), (kT, .inl (e1, 60, .inl (g))), (tb, .inl (e2, 366, .inl (tf)))]) sz) := by
  rcases ht with rfl | rfl
  · exact c_why_0 l D sz mo kT tb ld lK lC n e1 e2 g hg tf a b ha hb2
  · exact c_why_1 l D sz mo kT tb ld lK lC n e1 e2 g hg tf a b ha hb2
set_option maxHeartbeats 4000000 in
set_option maxRecDepth 100000 in
theorem c_bestFor (l : Launch) (D : zG) (sz : Nat) (mo kT tb ld lK lC n : Nat) (e1 e2 : ClassId) (g : Nat → Int32) (hg : g 0 = 1 ∧ g 1 = 1 ∧ g 2 = 2 ∧ g 3 = 1 ∧ g 4 = 0 ∧ g 5 = 1) (tf : Nat → Int32) : Met l yX4_bestFor wsX4_bestFor ({ frames := 3, cells := 240, slots := 1440, locals := 470 }) (zPc D [(e1, .int), (e2, .int)] ([(mo, .inr (4, [.int 0, .int 1, .ref kT, .int 1, .int 0, .int 1, .int 0, .int 0, .ref tb, .ref ld, .int (nI n), .ref lK, .ref lC, .int 0])), (kT, .inl (e1, 60, .inl (g))), (tb, .inl (e2, 366, .inl (tf)))]) sz [.ref mo, .int 0]) (va_Qi (fun (r : Int32) (u : Nat → Int32) => r = -1) (zB D (va_A ([(mo, .inr (4, [.int 0, .int 1, .ref kT, .int 1, .int 0, .int 1, .int 0, .int 0, .ref tb, .ref ld, .int (nI n), .ref lK, .ref lC, .int 0])), (kT, .inl (e1, 60, .inl (g))), (tb, .inl (e2, 366, .inl (tf)))]) sz) (fun _ => []) (sz + 240) (fun u => [(mo, .inr (4, [.int 0, .int 1, .ref kT, .int 1, .int 0, .int 1, .int 0, .int 0, .ref tb, .ref ld, .int (nI n), .ref lK, .ref lC, .int 0])), (kT, .inl (e1, 60, .inl (g))), (tb, .inl (e2, 366, .inl (u)))])) (va_A ([(mo, .inr (4, [.int 0, .int 1, .ref kT, .int 1, .int 0, .int 1, .int 0, .int 0, .ref tb, .ref ld, .int (nI n), .ref lK, .ref lC, .int 0])), (kT, .inl (e1, 60, .inl (g))), (tb, .inl (e2, 366, .inl (tf)))]) sz)) 240 1440 (va_A ([(mo, .inr (4, [.int 0, .int 1, .ref kT, .int 1, .int 0, .int 1, .int 0, .int 0, .ref tb, .ref ld, .int (nI n), .ref lK, .ref lC, .int 0])), (kT, .inl (e1, 60, .inl (g))), (tb, .inl (e2, 366, .inl (tf)))]) sz) := by
  refine Met.ofW (cc := cX4_bestFor) (maxL := 8) (ret := (some .int)) (by decide) rfl ?_
  intro p e s m args below meth c s₁ B hml hv
  obtain ⟨rfl, hsz, hP, hK, hD0⟩ := hv
  have hx := B.exec
  have hb := B.bytes
  have hr := B.returns
  have hts := atoms_spec (ws := wsX4_bestFor) B.pre
  have hown : s.vm.findClass RX4 = some m.cls := findClass_of_methodNamed B.named
  have hlocks := B.notSynchronized
  subst hsz
  have hD := hD0.self (sz := s.heap.size)
  generalize hAe : va_A ([(mo, .inr (4, [.int 0, .int 1, .ref kT, .int 1, .int 0, .int 1, .int 0, .int 0, .ref tb, .ref ld, .int (nI n), .ref lK, .ref lC, .int 0])), (kT, .inl (e1, 60, .inl (g))), (tb, .inl (e2, 366, .inl (tf)))]) s.heap.size = A at hD ⊢
  have hA : ∀ q : Nat, s.heap.size ≤ q → A q := fun q h => by rw [← hAe]; exact Or.inr h
  have hS : va_S A s.heap s.heap [] := va_S.rf
  have hl := lv_entry ([.ref mo, .int 0]) (n := 8) (Nat.le_of_ble_eq_true rfl)
  rw [lg_entry_eq]
  generalize (lg_sl ([.ref mo, .int 0]) ++ List.replicate (8 - (lg_sl ([.ref mo, .int 0])).length) Slot.unset).toArray = ls at hl ⊢
  have hl : lv_has ls 8 [(0, .ref mo), (1, .int 0)] := hl
  have hP : va_P D vwCl ([(mo, .inr (4, [.int 0, .int 1, .ref kT, .int 1, .int 0, .int 1, .int 0, .int 0, .ref tb, .ref ld, .int (nI n), .ref lK, .ref lC, .int 0])), (kT, .inl (e1, 60, .inl (g))), (tb, .inl (e2, 366, .inl (tf)))]) s.heap := hP
  generalize hRe : (headSpec _ _).room = R
  have hRf : R.frames = 3 := by rw [← hRe]; rfl
  have hRc : R.cells = 240 := by rw [← hRe]; rfl
  have hRs : R.slots = 1440 := by rw [← hRe]; rfl
  have hRl : R.locals = 470 := by rw [← hRe]; rfl
  clear hRe
  refine lv_iconst (v := (-1)) hx hb dX4_bestFor_0 (by decide) ?_
  refine lv_istore_n (lv' := [(2, .int (-1)), (0, .ref mo), (1, .int 0)]) hx hb dX4_bestFor_1 rfl hl (by decide) rfl (fun ls hl => ?_)
  refine lv_iconst (v := 0) hx hb dX4_bestFor_2 (by decide) ?_
  refine lv_istore_n (lv' := [(3, .int 0), (2, .int (-1)), (0, .ref mo), (1, .int 0)]) hx hb dX4_bestFor_3 rfl hl (by decide) rfl (fun ls hl => ?_)
  refine lv_iconst (v := 0) hx hb dX4_bestFor_4 (by decide) ?_
  refine lv_istore (lv' := [(4, .int 0), (3, .int 0), (2, .int (-1)), (0, .ref mo), (1, .int 0)]) hx hb dX4_bestFor_5 hl (by decide) rfl (fun ls hl => ?_)
  refine lv_iconst (v := 0) hx hb dX4_bestFor_7 (by decide) ?_
  refine lv_istore (lv' := [(5, .int 0), (4, .int 0), (3, .int 0), (2, .int (-1)), (0, .ref mo), (1, .int 0)]) hx hb dX4_bestFor_8 hl (by decide) rfl (fun ls hl => ?_)
  generalize hQe : MQ _ _ _ _ _ _ _ = Q
  have hl := lv_sub hl (l' := [(5, .int 0), (4, .int 0), (3, .int 0), (2, .int (-1)), (1, .int 0), (0, .ref mo)]) [0, 1, 2, 3, 5, 4] rfl
  have loop : ∀ (k c1 : Nat), c1 + k = 240 → ∀ (tf : Nat → Int32) (H : Heap) (locs : List Loc) (ls : Array Slot), s.heap.size + c1 ≤ H.size → va_P D vwCl ([(mo, .inr (4, [.int 0, .int 1, .ref kT, .int 1, .int 0, .int 1, .int 0, .int 0, .ref tb, .ref ld, .int (nI n), .ref lK, .ref lC, .int 0])), (kT, .inl (e1, 60, .inl (g))), (tb, .inl (e2, 366, .inl (tf)))]) H → va_D A ([(mo, .inr (4, [.int 0, .int 1, .ref kT, .int 1, .int 0, .int 1, .int 0, .int 0, .ref tb, .ref ld, .int (nI n), .ref lK, .ref lC, .int 0])), (kT, .inl (e1, 60, .inl (g))), (tb, .inl (e2, 366, .inl (tf)))]) → va_S A s.heap H locs → lv_has ls 8 [(5, .int (nI c1)), (4, .int 0), (3, .int 0), (2, .int (-1)), (1, .int 0), (0, .ref mo)] → W p l e R s m ([.ref mo, .int 0] : List Value).toArray below meth c H locs c1 (6 * c1) Q (F0 m 10 ls []) := by
    intro k
    induction k with
    | zero =>
      intro c1 hc tf H locs ls hsz hP hD hS hl
      obtain rfl : c1 = 240 := by omega
      refine lv_iload hx hb dX4_bestFor_10 (lv_at hl 0 rfl) ?_
      refine lv_sipush (v := 240) hx hb dX4_bestFor_12 (by decide) ?_
      refine lv_icmp_ge (tgt := 114) hx hb dX4_bestFor_15 (by decide) (fun c_82 => ?_) (fun c_82 => absurd (by decide) c_82)
      refine lv_iload_n hx hb dX4_bestFor_114 rfl (lv_at hl 3 rfl) ?_
      refine W.widen (k := 240) (n := 1440) (by omega) (by omega) ?_
      rw [← hQe]
      exact W.iret (v := (-1)) hx hb hr (fun t ht hW => ⟨⟨(-1), tf, rfl, rfl, ⟨(by rw [ht]; exact hsz), by rw [ht]; exact hP, va_K.moved hW.alike (hK.sub (tys' := []) [] rfl), hD⟩⟩, hS.F ht⟩) hS.2.2 dX4_bestFor_115
    | succ k ih =>
      intro c1 hc tf H locs ls hsz hP hD hS hl
      have hx1 : c1 / 2 % 12 < 12 := Nat.mod_lt _ (by decide)
      have hy1 : c1 / 2 / 12 < 10 := by omega
      refine lv_iload hx hb dX4_bestFor_10 (lv_at hl 0 rfl) ?_
      refine lv_sipush (v := 240) hx hb dX4_bestFor_12 (by decide) ?_
      refine lv_icmp_ge (tgt := 114) hx hb dX4_bestFor_15 (by decide) (fun c_83 => absurd c_83 (nI_ge (b := 240) (by omega) (by decide))) (fun c_83 => ?_)
      refine lv_iload hx hb dX4_bestFor_18 (lv_at hl 0 rfl) ?_
      refine lv_iconst (v := 2) hx hb dX4_bestFor_20 (by decide) ?_
      refine lv_idiv hx hb dX4_bestFor_21 (by decide) ?_
      refine lv_topi (fun v_84 ev_84 => ?_)
      obtain rfl : v_84 = (nI (c1 / 2)) := ev_84.trans (pk_div (d := 2) (by omega) (by decide) (by decide))
      refine lv_istore (lv' := [(6, .int (nI (c1 / 2))), (5, .int (nI c1)), (4, .int 0), (3, .int 0), (2, .int (-1)), (1, .int 0), (0, .ref mo)]) hx hb dX4_bestFor_22 hl (by decide) rfl (fun ls hl => ?_)
      refine lv_aload_n hx hb dX4_bestFor_24 rfl (lv_at hl 6 rfl) ?_
      refine lv_iload_n hx hb dX4_bestFor_25 rfl (lv_at hl 5 rfl) ?_
      refine lv_iload hx hb dX4_bestFor_26 (lv_at hl 0 rfl) ?_
      refine lv_bipush (v := 12) hx hb dX4_bestFor_28 (by decide) ?_
      refine lv_irem hx hb dX4_bestFor_30 (by decide) ?_
      refine lv_topi (fun v_85 ev_85 => ?_)
      obtain rfl : v_85 = (nI (c1 / 2 % 12)) := ev_85.trans (pk_rem (d := 12) (by omega) (by decide) (by decide))
      refine lv_iload hx hb dX4_bestFor_31 (lv_at hl 0 rfl) ?_
      refine lv_bipush (v := 12) hx hb dX4_bestFor_33 (by decide) ?_
      refine lv_idiv hx hb dX4_bestFor_35 (by decide) ?_
      refine lv_topi (fun v_86 ev_86 => ?_)
      obtain rfl : v_86 = (nI (c1 / 2 / 12)) := ev_86.trans (pk_div (d := 12) (by omega) (by decide) (by decide))
      refine lv_iload hx hb dX4_bestFor_36 (lv_at hl 1 rfl) ?_
      refine lv_iconst (v := 2) hx hb dX4_bestFor_38 (by decide) ?_
      refine lv_irem hx hb dX4_bestFor_39 (by decide) ?_
      refine lv_topi (fun v_87 ev_87 => ?_)
      obtain rfl : v_87 = (nI (c1 % 2)) := ev_87.trans (pk_rem (d := 2) (by omega) (by decide) (by decide))
      refine lv_iconst (v := 1) hx hb dX4_bestFor_40 (by decide) ?_
      rcases Nat.mod_two_eq_zero_or_one c1 with hm | hm
      · have h_b := True.intro
        refine lv_icmp_ne (tgt := 48) hx hb dX4_bestFor_41 (by decide) (fun c_88 => ?_) (fun c_88 => absurd c_88 (by rw [hm]; decide))
        refine lv_iconst (v := 0) hx hb dX4_bestFor_48 (by decide) ?_
        refine zcalliV (As := [.int 0, .int (nI (c1 / 2 % 12)), .int (nI (c1 / 2 / 12)), .int 0]) (rest := []) (wc := [(mo, .inr (4, [.int 0, .int 1, .ref kT, .int 1, .int 0, .int 1, .int 0, .int 0, .ref tb, .ref ld, .int (nI n), .ref lK, .ref lC, .int 0])), (kT, .inl (e1, 60, .inl (g))), (tb, .inl (e2, 366, .inl (tf)))]) (wr := []) ⟨hx, hb, hml, hown, hts⟩ (c_why l D _ mo kT tb ld lK lC n e1 e2 g hg tf _ _ hx1 hy1 0 (by decide)) (cwV 4 hts gX4_bestFor_X4_why rfl rfl rfl (by decide +kernel) ⟨by rw [hRf]; exact Nat.le_of_ble_eq_true rfl, by rw [hRl]; exact Nat.le_of_ble_eq_true rfl⟩) hK hP hD hS hA [0, 1, 2] [] rfl (by decide) rfl (by decide) (by decide) [0, 1] rfl (ci := 4) (q0 := 0) rfl rfl rfl hl.1 rfl (Nat.le_of_ble_eq_true rfl) dX4_bestFor_49 ⟨by omega, by omega⟩ (fun r_89 u_90 H locs hwu_90 hnu_90 hzu_90 hK hP hD hS => ?_)
        have hK : va_K D vwCl [(e1, .int), (e2, .int)] s := hK
        have hP : va_P D vwCl ([(mo, .inr (4, [.int 0, .int 1, .ref kT, .int 1, .int 0, .int 1, .int 0, .int 0, .ref tb, .ref ld, .int (nI n), .ref lK, .ref lC, .int 0])), (kT, .inl (e1, 60, .inl (g))), (tb, .inl (e2, 366, .inl (u_90)))]) H := hP
        have hD : va_D A ([(mo, .inr (4, [.int 0, .int 1, .ref kT, .int 1, .int 0, .int 1, .int 0, .int 0, .ref tb, .ref ld, .int (nI n), .ref lK, .ref lC, .int 0])), (kT, .inl (e1, 60, .inl (g))), (tb, .inl (e2, 366, .inl (u_90)))]) := hD
        refine lv_topi (fun v_91 ev_91 => ?_)
        obtain rfl : v_91 = 2 := ev_91.trans hwu_90
        refine lv_if_eq (tgt := 58) hx hb dX4_bestFor_52 (by decide) (fun c_92 => absurd c_92 (by decide)) (fun c_92 => ?_)
        refine lv_goto (tgt := 108) hx hb dX4_bestFor_55 (by decide) ?_
        refine lv_iinc (v := (nI (c1 + 1))) (lv' := [(5, .int (nI (c1 + 1))), (6, .int (nI (c1 / 2))), (4, .int 0), (3, .int 0), (2, .int (-1)), (1, .int 0), (0, .ref mo)]) hx hb dX4_bestFor_108 hl (k := 1) rfl (nI_1 c1) (by decide) rfl (fun ls hl => ?_)
        refine lv_goto (tgt := 10) hx hb dX4_bestFor_111 (by decide) ?_
        have hl := lv_sub hl (l' := [(5, .int (nI (c1 + 1))), (4, .int 0), (3, .int 0), (2, .int (-1)), (1, .int 0), (0, .ref mo)]) [0, 2, 3, 4, 5, 6] rfl
        refine W.widen (k := (c1 + 1)) (n := (6 * (c1 + 1))) (by omega) (by omega) ?_
        exact ih (c1 + 1) (by omega) u_90 H locs ls (by omega) hP hD hS hl
      · have h_b := True.intro
        refine lv_icmp_ne (tgt := 48) hx hb dX4_bestFor_41 (by decide) (fun c_93 => absurd (by rw [hm]; rfl) c_93) (fun c_93 => ?_)
        refine lv_iconst (v := 1) hx hb dX4_bestFor_44 (by decide) ?_
        refine lv_goto (tgt := 49) hx hb dX4_bestFor_45 (by decide) ?_
        refine zcalliV (As := [.int 0, .int (nI (c1 / 2 % 12)), .int (nI (c1 / 2 / 12)), .int 1]) (rest := []) (wc := [(mo, .inr (4, [.int 0, .int 1, .ref kT, .int 1, .int 0, .int 1, .int 0, .int 0, .ref tb, .ref ld, .int (nI n), .ref lK, .ref lC, .int 0])), (kT, .inl (e1, 60, .inl (g))), (tb, .inl (e2, 366, .inl (tf)))]) (wr := []) ⟨hx, hb, hml, hown, hts⟩ (c_why l D _ mo kT tb ld lK lC n e1 e2 g hg tf _ _ hx1 hy1 1 (by decide)) (cwV 4 hts gX4_bestFor_X4_why rfl rfl rfl (by decide +kernel) ⟨by rw [hRf]; exact Nat.le_of_ble_eq_true rfl, by rw [hRl]; exact Nat.le_of_ble_eq_true rfl⟩) hK hP hD hS hA [0, 1, 2] [] rfl (by decide) rfl (by decide) (by decide) [0, 1] rfl (ci := 4) (q0 := 0) rfl rfl rfl hl.1 rfl (Nat.le_of_ble_eq_true rfl) dX4_bestFor_49 ⟨by omega, by omega⟩ (fun r_94 u_95 H locs hwu_95 hnu_95 hzu_95 hK hP hD hS => ?_)
        have hK : va_K D vwCl [(e1, .int), (e2, .int)] s := hK
        have hP : va_P D vwCl ([(mo, .inr (4, [.int 0, .int 1, .ref kT, .int 1, .int 0, .int 1, .int 0, .int 0, .ref tb, .ref ld, .int (nI n), .ref lK, .ref lC, .int 0])), (kT, .inl (e1, 60, .inl (g))), (tb, .inl (e2, 366, .inl (u_95)))]) H := hP
        have hD : va_D A ([(mo, .inr (4, [.int 0, .int 1, .ref kT, .int 1, .int 0, .int 1, .int 0, .int 0, .ref tb, .ref ld, .int (nI n), .ref lK, .ref lC, .int 0])), (kT, .inl (e1, 60, .inl (g))), (tb, .inl (e2, 366, .inl (u_95)))]) := hD
        refine lv_topi (fun v_96 ev_96 => ?_)
        obtain rfl : v_96 = 2 := ev_96.trans hwu_95
        refine lv_if_eq (tgt := 58) hx hb dX4_bestFor_52 (by decide) (fun c_97 => absurd c_97 (by decide)) (fun c_97 => ?_)
        refine lv_goto (tgt := 108) hx hb dX4_bestFor_55 (by decide) ?_
        refine lv_iinc (v := (nI (c1 + 1))) (lv' := [(5, .int (nI (c1 + 1))), (6, .int (nI (c1 / 2))), (4, .int 0), (3, .int 0), (2, .int (-1)), (1, .int 0), (0, .ref mo)]) hx hb dX4_bestFor_108 hl (k := 1) rfl (nI_1 c1) (by decide) rfl (fun ls hl => ?_)
        refine lv_goto (tgt := 10) hx hb dX4_bestFor_111 (by decide) ?_
        have hl := lv_sub hl (l' := [(5, .int (nI (c1 + 1))), (4, .int 0), (3, .int 0), (2, .int (-1)), (1, .int 0), (0, .ref mo)]) [0, 2, 3, 4, 5, 6] rfl
        refine W.widen (k := (c1 + 1)) (n := (6 * (c1 + 1))) (by omega) (by omega) ?_
        exact ih (c1 + 1) (by omega) u_95 H locs ls (by omega) hP hD hS hl
  exact loop 240 0 rfl tf s.heap [] ls (Nat.le_refl _) hP hD hS hl
set_option maxHeartbeats 4000000 in
set_option maxRecDepth 100000 in
theorem c_putBest (l : Launch) (D : zG) (sz : Nat) (mo kT tb ld lK lC n : Nat) (e1 e2 : ClassId) (g : Nat → Int32) (hg : g 0 = 1 ∧ g 1 = 1 ∧ g 2 = 2 ∧ g 3 = 1 ∧ g 4 = 0 ∧ g 5 = 1) (tf : Nat → Int32) : Met l yX4_putBest wsX4_putBest ({ frames := 4, cells := 240, slots := 1440, locals := 500 }) (zPc D [(e1, .int), (e2, .int)] ([(mo, .inr (4, [.int 0, .int 1, .ref kT, .int 1, .int 0, .int 1, .int 0, .int 0, .ref tb, .ref ld, .int (nI n), .ref lK, .ref lC, .int 0])), (kT, .inl (e1, 60, .inl (g))), (tb, .inl (e2, 366, .inl (tf)))]) sz [.ref mo, .int 0]) (va_Qi (fun (r : Int32) (u : Nat → Int32) => r = 0) (zB D (va_A ([(mo, .inr (4, [.int 0, .int 1, .ref kT, .int 1, .int 0, .int 1, .int 0, .int 0, .ref tb, .ref ld, .int (nI n), .ref lK, .ref lC, .int 0])), (kT, .inl (e1, 60, .inl (g))), (tb, .inl (e2, 366, .inl (tf)))]) sz) (fun _ => []) (sz + 240) (fun u => [(mo, .inr (4, [.int 0, .int 1, .ref kT, .int 1, .int 0, .int 1, .int 0, .int 0, .ref tb, .ref ld, .int (nI n), .ref lK, .ref lC, .int 0])), (kT, .inl (e1, 60, .inl (g))), (tb, .inl (e2, 366, .inl (u)))])) (va_A ([(mo, .inr (4, [.int 0, .int 1, .ref kT, .int 1, .int 0, .int 1, .int 0, .int 0, .ref tb, .ref ld, .int (nI n), .ref lK, .ref lC, .int 0])), (kT, .inl (e1, 60, .inl (g))), (tb, .inl (e2, 366, .inl (tf)))]) sz)) 240 1440 (va_A ([(mo, .inr (4, [.int 0, .int 1, .ref kT, .int 1, .int 0, .int 1, .int 0, .int 0, .ref tb, .ref ld, .int (nI n), .ref lK, .ref lC, .int 0])), (kT, .inl (e1, 60, .inl (g))), (tb, .inl (e2, 366, .inl (tf)))]) sz) := by
  refine Met.ofW (cc := cX4_putBest) (maxL := 3) (ret := (some .boolean)) (by decide) rfl ?_
  intro p e s m args below meth c s₁ B hml hv
  obtain ⟨rfl, hsz, hP, hK, hD0⟩ := hv
  have hx := B.exec
  have hb := B.bytes
  have hr := B.returns
  have hts := atoms_spec (ws := wsX4_putBest) B.pre
  have hown : s.vm.findClass RX4 = some m.cls := findClass_of_methodNamed B.named
  have hlocks := B.notSynchronized
  subst hsz
  have hD := hD0.self (sz := s.heap.size)
  generalize hAe : va_A ([(mo, .inr (4, [.int 0, .int 1, .ref kT, .int 1, .int 0, .int 1, .int 0, .int 0, .ref tb, .ref ld, .int (nI n), .ref lK, .ref lC, .int 0])), (kT, .inl (e1, 60, .inl (g))), (tb, .inl (e2, 366, .inl (tf)))]) s.heap.size = A at hD ⊢
  have hA : ∀ q : Nat, s.heap.size ≤ q → A q := fun q h => by rw [← hAe]; exact Or.inr h
  have hS : va_S A s.heap s.heap [] := va_S.rf
  have hl := lv_entry ([.ref mo, .int 0]) (n := 3) (Nat.le_of_ble_eq_true rfl)
  rw [lg_entry_eq]
  generalize (lg_sl ([.ref mo, .int 0]) ++ List.replicate (3 - (lg_sl ([.ref mo, .int 0])).length) Slot.unset).toArray = ls at hl ⊢
  have hl : lv_has ls 3 [(0, .ref mo), (1, .int 0)] := hl
  have hP : va_P D vwCl ([(mo, .inr (4, [.int 0, .int 1, .ref kT, .int 1, .int 0, .int 1, .int 0, .int 0, .ref tb, .ref ld, .int (nI n), .ref lK, .ref lC, .int 0])), (kT, .inl (e1, 60, .inl (g))), (tb, .inl (e2, 366, .inl (tf)))]) s.heap := hP
  generalize hRe : (headSpec _ _).room = R
  have hRf : R.frames = 4 := by rw [← hRe]; rfl
  have hRc : R.cells = 240 := by rw [← hRe]; rfl
  have hRs : R.slots = 1440 := by rw [← hRe]; rfl
  have hRl : R.locals = 500 := by rw [← hRe]; rfl
  clear hRe
  refine lv_aload_n hx hb dX4_putBest_0 rfl (lv_at hl 0 rfl) ?_
  refine va_get (D := D) (ci := 4) (v := .int 0) (C := RX4) (T := TX4) (N := 14) hx hb hts (fun _ h9 => List.mem_cons_of_mem _ (List.mem_append_right _ h9)) hown hK hP 0 rfl rfl 7 (by decide) (hts (.fieldLink RX4 59 "PalletStackModel" "came" "I") (List.mem_of_getElem? (i := 1) (by rfl))) (fun _ h9 => h9) rfl dX4_putBest_1 ?_
  refine lv_bipush (v := 60) hx hb dX4_putBest_4 (by decide) ?_
  refine lv_icmp_ne (tgt := 13) hx hb dX4_putBest_6 (by decide) (fun c_98 => ?_) (fun c_98 => absurd c_98 (by decide))
  refine lv_aload_n hx hb dX4_putBest_13 rfl (lv_at hl 0 rfl) ?_
  refine lv_iload_n hx hb dX4_putBest_14 rfl (lv_at hl 1 rfl) ?_
  refine zcalliV (As := [.int 0]) (rest := []) (wc := [(mo, .inr (4, [.int 0, .int 1, .ref kT, .int 1, .int 0, .int 1, .int 0, .int 0, .ref tb, .ref ld, .int (nI n), .ref lK, .ref lC, .int 0])), (kT, .inl (e1, 60, .inl (g))), (tb, .inl (e2, 366, .inl (tf)))]) (wr := []) ⟨hx, hb, hml, hown, hts⟩ (c_bestFor l D _ mo kT tb ld lK lC n e1 e2 g hg tf) (cwV 1 hts gX4_putBest_X4_bestFor rfl rfl rfl (by decide +kernel) ⟨by rw [hRf]; exact Nat.le_of_ble_eq_true rfl, by rw [hRl]; exact Nat.le_of_ble_eq_true rfl⟩) hK hP hD hS hA [0, 1, 2] [] rfl (by decide) rfl (by decide) (by decide) [0, 1] rfl (ci := 4) (q0 := 0) rfl rfl rfl hl.1 rfl (Nat.le_of_ble_eq_true rfl) dX4_putBest_15 ⟨by omega, by omega⟩ (fun r_99 u_100 H locs hwu_100 hnu_100 hzu_100 hK hP hD hS => ?_)
  have hK : va_K D vwCl [(e1, .int), (e2, .int)] s := hK
  have hP : va_P D vwCl ([(mo, .inr (4, [.int 0, .int 1, .ref kT, .int 1, .int 0, .int 1, .int 0, .int 0, .ref tb, .ref ld, .int (nI n), .ref lK, .ref lC, .int 0])), (kT, .inl (e1, 60, .inl (g))), (tb, .inl (e2, 366, .inl (u_100)))]) H := hP
  have hD : va_D A ([(mo, .inr (4, [.int 0, .int 1, .ref kT, .int 1, .int 0, .int 1, .int 0, .int 0, .ref tb, .ref ld, .int (nI n), .ref lK, .ref lC, .int 0])), (kT, .inl (e1, 60, .inl (g))), (tb, .inl (e2, 366, .inl (u_100)))]) := hD
  refine lv_topi (fun v_101 ev_101 => ?_)
  obtain rfl : v_101 = (-1) := ev_101.trans hwu_100
  refine lv_istore_n (lv' := [(2, .int (-1)), (0, .ref mo), (1, .int 0)]) hx hb dX4_putBest_18 rfl hl (by decide) rfl (fun ls hl => ?_)
  refine lv_iload_n hx hb dX4_putBest_19 rfl (lv_at hl 0 rfl) ?_
  refine lv_iconst (v := (-1)) hx hb dX4_putBest_20 (by decide) ?_
  refine lv_icmp_ne (tgt := 26) hx hb dX4_putBest_21 (by decide) (fun c_102 => absurd (rfl) c_102) (fun c_102 => ?_)
  refine lv_iconst (v := 0) hx hb dX4_putBest_24 (by decide) ?_
  refine W.widen (k := 240) (n := 1440) (by omega) (by omega) ?_
  exact W.zret (ty := .boolean) (v := 0) hx hb hr rfl (fun t ht hW => ⟨⟨0, u_100, rfl, rfl, ⟨(by rw [ht]; exact hnu_100), by rw [ht]; exact hP, va_K.moved hW.alike (hK.sub (tys' := []) [] rfl), hD⟩⟩, hS.F ht⟩) hS.2.2 dX4_putBest_25
set_option maxHeartbeats 4000000 in
set_option maxRecDepth 100000 in
theorem c_isAhead (l : Launch) (D : zG) (sz : Nat) (mo kT tb ld lK lC n : Nat) (e1 e3 : ClassId) (g : Nat → Int32) (hg : g 0 = 1 ∧ g 1 = 1 ∧ g 2 = 2 ∧ g 3 = 1 ∧ g 4 = 0 ∧ g 5 = 1) (hk : Nat → Int32) (i j : Nat) (hi : i < 20) (hj : j < 20) (h1 : hk i = 0) (h2 : hk j = 0) : Met l yX4_isAhead wsX4_isAhead ({ frames := 1, cells := 0, slots := 0, locals := 22 }) (zPc D [(e1, .int), (e3, .int)] ([(mo, .inr (4, [.int 0, .int 1, .ref kT, .int 1, .int 0, .int 1, .int 0, .int 0, .ref tb, .ref ld, .int (nI n), .ref lK, .ref lC, .int 0])), (kT, .inl (e1, 60, .inl (g))), (lK, .inl (e3, 20, .inl (hk)))]) sz [.ref mo, .int (nI i), .int (nI j)]) (vp_Si (fun r => r = 0)) 0 0 (fun _ => False) := by
  refine Met.ofW (cc := cX4_isAhead) (maxL := 5) (ret := (some .boolean)) (by decide) rfl ?_
  intro p e s m args below meth c s₁ B hml hv
  obtain ⟨rfl, hsz, hP, hK, hD0⟩ := hv
  have hx := B.exec
  have hb := B.bytes
  have hr := B.returns
  have hts := atoms_spec (ws := wsX4_isAhead) B.pre
  have hown : s.vm.findClass RX4 = some m.cls := findClass_of_methodNamed B.named
  have hlocks := B.notSynchronized
  subst hsz
  have hD := hD0
  generalize hAe : (fun _ : Nat => True) = A at hD
  have hl := lv_entry ([.ref mo, .int (nI i), .int (nI j)]) (n := 5) (Nat.le_of_ble_eq_true rfl)
  rw [lg_entry_eq]
  generalize (lg_sl ([.ref mo, .int (nI i), .int (nI j)]) ++ List.replicate (5 - (lg_sl ([.ref mo, .int (nI i), .int (nI j)])).length) Slot.unset).toArray = ls at hl ⊢
  have hl : lv_has ls 5 [(0, .ref mo), (1, .int (nI i)), (2, .int (nI j))] := hl
  have hP : va_P D vwCl ([(mo, .inr (4, [.int 0, .int 1, .ref kT, .int 1, .int 0, .int 1, .int 0, .int 0, .ref tb, .ref ld, .int (nI n), .ref lK, .ref lC, .int 0])), (kT, .inl (e1, 60, .inl (g))), (lK, .inl (e3, 20, .inl (hk)))]) s.heap := hP
  generalize hRe : (headSpec _ _).room = R
  have hRf : R.frames = 1 := by rw [← hRe]; rfl
  have hRc : R.cells = 0 := by rw [← hRe]; rfl
  have hRs : R.slots = 0 := by rw [← hRe]; rfl
  have hRl : R.locals = 22 := by rw [← hRe]; rfl
  clear hRe
  refine lv_aload_n hx hb dX4_isAhead_0 rfl (lv_at hl 0 rfl) ?_
  refine va_get (D := D) (ci := 4) (v := .ref lK) (C := RX4) (T := TX4) (N := 14) hx hb hts (fun _ h9 => List.mem_cons_of_mem _ (List.mem_append_right _ h9)) hown hK hP 0 rfl rfl 11 (by decide) (hts (.fieldLink RX4 29 "PalletStackModel" "lineKinds" "[I") (List.mem_of_getElem? (i := 1) (by rfl))) (fun _ h9 => h9) rfl dX4_isAhead_1 ?_
  refine lv_iload_n hx hb dX4_isAhead_4 rfl (lv_at hl 1 rfl) ?_
  refine va_iald hx hb hK hP 2 1 rfl rfl (vp_in_nI (N := 20) hi (by decide)) dX4_isAhead_5 ?_
  refine lv_topi (fun v_103 ev_103 => ?_)
  obtain rfl : v_103 = 0 := ev_103.trans (by rw [nI_clamp (by omega)]; exact h1)
  refine lv_istore_n (lv' := [(3, .int 0), (0, .ref mo), (1, .int (nI i)), (2, .int (nI j))]) hx hb dX4_isAhead_6 rfl hl (by decide) rfl (fun ls hl => ?_)
  refine lv_aload_n hx hb dX4_isAhead_7 rfl (lv_at hl 1 rfl) ?_
  refine va_get (D := D) (ci := 4) (v := .ref lK) (C := RX4) (T := TX4) (N := 14) hx hb hts (fun _ h9 => List.mem_cons_of_mem _ (List.mem_append_right _ h9)) hown hK hP 0 rfl rfl 11 (by decide) (hts (.fieldLink RX4 29 "PalletStackModel" "lineKinds" "[I") (List.mem_of_getElem? (i := 1) (by rfl))) (fun _ h9 => h9) rfl dX4_isAhead_8 ?_
  refine lv_iload_n hx hb dX4_isAhead_11 rfl (lv_at hl 3 rfl) ?_
  refine va_iald hx hb hK hP 2 1 rfl rfl (vp_in_nI (N := 20) hj (by decide)) dX4_isAhead_12 ?_
  refine lv_topi (fun v_104 ev_104 => ?_)
  obtain rfl : v_104 = 0 := ev_104.trans (by rw [nI_clamp (by omega)]; exact h2)
  refine lv_istore (lv' := [(4, .int 0), (3, .int 0), (0, .ref mo), (1, .int (nI i)), (2, .int (nI j))]) hx hb dX4_isAhead_13 hl (by decide) rfl (fun ls hl => ?_)
  refine lv_aload_n hx hb dX4_isAhead_15 rfl (lv_at hl 2 rfl) ?_
  refine lv_iload_n hx hb dX4_isAhead_16 rfl (lv_at hl 1 rfl) ?_
  refine lv_iconst (v := 5) hx hb dX4_isAhead_17 (by decide) ?_
  refine zrdV (As := [.int 0, .int 5]) (rest := []) (wc := [(mo, .inr (4, [.int 0, .int 1, .ref kT, .int 1, .int 0, .int 1, .int 0, .int 0, .ref tb, .ref ld, .int (nI n), .ref lK, .ref lC, .int 0])), (kT, .inl (e1, 60, .inl (g)))]) ⟨hx, hb, hml, hown, hts⟩ (c_kind l D _ mo kT tb ld lK lC n e1 g 5 5 rfl (by decide)) (cwV 2 hts gX4_isAhead_X4_kind rfl rfl rfl (by decide +kernel) ⟨by rw [hRf]; exact Nat.le_of_ble_eq_true rfl, by rw [hRl]; exact Nat.le_of_ble_eq_true rfl⟩) hK hP hD [0, 1] rfl (by decide) [0] rfl (ci := 4) (q0 := 0) rfl rfl rfl hl.1 rfl (Nat.le_of_ble_eq_true rfl) dX4_isAhead_18 ⟨by omega, by omega⟩ (fun r_105 hr_105 => ?_)
  refine lv_topi (fun v_106 ev_106 => ?_)
  obtain rfl : v_106 = 1 := ev_106.trans (hr_105.trans hg.2.2.2.2.2)
  refine zrdS (As := [.int 1]) (rest := []) (wc := []) ⟨hx, hb, hml, hown, hts⟩ (c_needsDeck l D _) (va_cwS 1 hts gX4_isAhead_X4_needsDeck rfl rfl rfl (by decide +kernel) ⟨by rw [hRf]; exact Nat.le_of_ble_eq_true rfl, by rw [hRl]; exact Nat.le_of_ble_eq_true rfl⟩) hK hP hD [] rfl (by decide) [] rfl rfl hl.1 rfl (Nat.le_of_ble_eq_true rfl) dX4_isAhead_21 ⟨by omega, by omega⟩ (fun r_107 hr_107 => ?_)
  refine lv_topi (fun v_108 ev_108 => ?_)
  obtain rfl : v_108 = 0 := ev_108.trans hr_107
  refine lv_aload_n hx hb dX4_isAhead_24 rfl (lv_at hl 2 rfl) ?_
  refine lv_iload hx hb dX4_isAhead_25 (lv_at hl 0 rfl) ?_
  refine lv_iconst (v := 5) hx hb dX4_isAhead_27 (by decide) ?_
  refine zrdV (As := [.int 0, .int 5]) (rest := [.int 0]) (wc := [(mo, .inr (4, [.int 0, .int 1, .ref kT, .int 1, .int 0, .int 1, .int 0, .int 0, .ref tb, .ref ld, .int (nI n), .ref lK, .ref lC, .int 0])), (kT, .inl (e1, 60, .inl (g)))]) ⟨hx, hb, hml, hown, hts⟩ (c_kind l D _ mo kT tb ld lK lC n e1 g 5 5 rfl (by decide)) (cwV 2 hts gX4_isAhead_X4_kind rfl rfl rfl (by decide +kernel) ⟨by rw [hRf]; exact Nat.le_of_ble_eq_true rfl, by rw [hRl]; exact Nat.le_of_ble_eq_true rfl⟩) hK hP hD [0, 1] rfl (by decide) [0] rfl (ci := 4) (q0 := 0) rfl rfl rfl hl.1 rfl (Nat.le_of_ble_eq_true rfl) dX4_isAhead_28 ⟨by omega, by omega⟩ (fun r_109 hr_109 => ?_)
  refine lv_topi (fun v_110 ev_110 => ?_)
  obtain rfl : v_110 = 1 := ev_110.trans (hr_109.trans hg.2.2.2.2.2)
  refine zrdS (As := [.int 1]) (rest := [.int 0]) (wc := []) ⟨hx, hb, hml, hown, hts⟩ (c_needsDeck l D _) (va_cwS 1 hts gX4_isAhead_X4_needsDeck rfl rfl rfl (by decide +kernel) ⟨by rw [hRf]; exact Nat.le_of_ble_eq_true rfl, by rw [hRl]; exact Nat.le_of_ble_eq_true rfl⟩) hK hP hD [] rfl (by decide) [] rfl rfl hl.1 rfl (Nat.le_of_ble_eq_true rfl) dX4_isAhead_31 ⟨by omega, by omega⟩ (fun r_111 hr_111 => ?_)
  refine lv_topi (fun v_112 ev_112 => ?_)
  obtain rfl : v_112 = 0 := ev_112.trans hr_111
  refine lv_icmp_eq (tgt := 47) hx hb dX4_isAhead_34 (by decide) (fun c_113 => ?_) (fun c_113 => absurd (rfl) c_113)
  refine lv_aload_n hx hb dX4_isAhead_47 rfl (lv_at hl 2 rfl) ?_
  refine lv_iload_n hx hb dX4_isAhead_48 rfl (lv_at hl 1 rfl) ?_
  refine lv_iconst (v := 4) hx hb dX4_isAhead_49 (by decide) ?_
  refine zrdV (As := [.int 0, .int 4]) (rest := []) (wc := [(mo, .inr (4, [.int 0, .int 1, .ref kT, .int 1, .int 0, .int 1, .int 0, .int 0, .ref tb, .ref ld, .int (nI n), .ref lK, .ref lC, .int 0])), (kT, .inl (e1, 60, .inl (g)))]) ⟨hx, hb, hml, hown, hts⟩ (c_kind l D _ mo kT tb ld lK lC n e1 g 4 4 rfl (by decide)) (cwV 2 hts gX4_isAhead_X4_kind rfl rfl rfl (by decide +kernel) ⟨by rw [hRf]; exact Nat.le_of_ble_eq_true rfl, by rw [hRl]; exact Nat.le_of_ble_eq_true rfl⟩) hK hP hD [0, 1] rfl (by decide) [0] rfl (ci := 4) (q0 := 0) rfl rfl rfl hl.1 rfl (Nat.le_of_ble_eq_true rfl) dX4_isAhead_50 ⟨by omega, by omega⟩ (fun r_114 hr_114 => ?_)
  refine lv_topi (fun v_115 ev_115 => ?_)
  obtain rfl : v_115 = 0 := ev_115.trans (hr_114.trans hg.2.2.2.2.1)
  refine lv_aload_n hx hb dX4_isAhead_53 rfl (lv_at hl 2 rfl) ?_
  refine lv_iload hx hb dX4_isAhead_54 (lv_at hl 0 rfl) ?_
  refine lv_iconst (v := 4) hx hb dX4_isAhead_56 (by decide) ?_
  refine zrdV (As := [.int 0, .int 4]) (rest := [.int 0]) (wc := [(mo, .inr (4, [.int 0, .int 1, .ref kT, .int 1, .int 0, .int 1, .int 0, .int 0, .ref tb, .ref ld, .int (nI n), .ref lK, .ref lC, .int 0])), (kT, .inl (e1, 60, .inl (g)))]) ⟨hx, hb, hml, hown, hts⟩ (c_kind l D _ mo kT tb ld lK lC n e1 g 4 4 rfl (by decide)) (cwV 2 hts gX4_isAhead_X4_kind rfl rfl rfl (by decide +kernel) ⟨by rw [hRf]; exact Nat.le_of_ble_eq_true rfl, by rw [hRl]; exact Nat.le_of_ble_eq_true rfl⟩) hK hP hD [0, 1] rfl (by decide) [0] rfl (ci := 4) (q0 := 0) rfl rfl rfl hl.1 rfl (Nat.le_of_ble_eq_true rfl) dX4_isAhead_57 ⟨by omega, by omega⟩ (fun r_116 hr_116 => ?_)
  refine lv_topi (fun v_117 ev_117 => ?_)
  obtain rfl : v_117 = 0 := ev_117.trans (hr_116.trans hg.2.2.2.2.1)
  refine lv_icmp_eq (tgt := 85) hx hb dX4_isAhead_60 (by decide) (fun c_118 => ?_) (fun c_118 => absurd (rfl) c_118)
  refine lv_aload_n hx hb dX4_isAhead_85 rfl (lv_at hl 2 rfl) ?_
  refine lv_iload_n hx hb dX4_isAhead_86 rfl (lv_at hl 1 rfl) ?_
  refine lv_iconst (v := 3) hx hb dX4_isAhead_87 (by decide) ?_
  refine zrdV (As := [.int 0, .int 3]) (rest := []) (wc := [(mo, .inr (4, [.int 0, .int 1, .ref kT, .int 1, .int 0, .int 1, .int 0, .int 0, .ref tb, .ref ld, .int (nI n), .ref lK, .ref lC, .int 0])), (kT, .inl (e1, 60, .inl (g)))]) ⟨hx, hb, hml, hown, hts⟩ (c_kind l D _ mo kT tb ld lK lC n e1 g 3 3 rfl (by decide)) (cwV 2 hts gX4_isAhead_X4_kind rfl rfl rfl (by decide +kernel) ⟨by rw [hRf]; exact Nat.le_of_ble_eq_true rfl, by rw [hRl]; exact Nat.le_of_ble_eq_true rfl⟩) hK hP hD [0, 1] rfl (by decide) [0] rfl (ci := 4) (q0 := 0) rfl rfl rfl hl.1 rfl (Nat.le_of_ble_eq_true rfl) dX4_isAhead_88 ⟨by omega, by omega⟩ (fun r_119 hr_119 => ?_)
  refine lv_topi (fun v_120 ev_120 => ?_)
  obtain rfl : v_120 = 1 := ev_120.trans (hr_119.trans hg.2.2.2.1)
  refine lv_aload_n hx hb dX4_isAhead_91 rfl (lv_at hl 2 rfl) ?_
  refine lv_iload hx hb dX4_isAhead_92 (lv_at hl 0 rfl) ?_
  refine lv_iconst (v := 3) hx hb dX4_isAhead_94 (by decide) ?_
  refine zrdV (As := [.int 0, .int 3]) (rest := [.int 1]) (wc := [(mo, .inr (4, [.int 0, .int 1, .ref kT, .int 1, .int 0, .int 1, .int 0, .int 0, .ref tb, .ref ld, .int (nI n), .ref lK, .ref lC, .int 0])), (kT, .inl (e1, 60, .inl (g)))]) ⟨hx, hb, hml, hown, hts⟩ (c_kind l D _ mo kT tb ld lK lC n e1 g 3 3 rfl (by decide)) (cwV 2 hts gX4_isAhead_X4_kind rfl rfl rfl (by decide +kernel) ⟨by rw [hRf]; exact Nat.le_of_ble_eq_true rfl, by rw [hRl]; exact Nat.le_of_ble_eq_true rfl⟩) hK hP hD [0, 1] rfl (by decide) [0] rfl (ci := 4) (q0 := 0) rfl rfl rfl hl.1 rfl (Nat.le_of_ble_eq_true rfl) dX4_isAhead_95 ⟨by omega, by omega⟩ (fun r_121 hr_121 => ?_)
  refine lv_topi (fun v_122 ev_122 => ?_)
  obtain rfl : v_122 = 1 := ev_122.trans (hr_121.trans hg.2.2.2.1)
  refine lv_icmp_le (tgt := 105) hx hb dX4_isAhead_98 (by decide) (fun c_123 => ?_) (fun c_123 => absurd (by decide) c_123)
  refine lv_iconst (v := 0) hx hb dX4_isAhead_105 (by decide) ?_
  exact W.zret (ty := .boolean) (v := 0) hx hb hr rfl (fun t ht hW => ⟨0, rfl, rfl, ht⟩) (fun _ h => by cases h) dX4_isAhead_106
end
section
set_option maxHeartbeats 4000000 in
set_option maxRecDepth 100000 in
theorem c_stackM (l : Launch) (D : zG) (sz : Nat) (mo kT tb ld lK lC n : Nat) (e1 e2 e3 e4 : ClassId) (g : Nat → Int32) (hg : g 0 = 1 ∧ g 1 = 1 ∧ g 2 = 2 ∧ g 3 = 1 ∧ g 4 = 0 ∧ g 5 = 1) (tf : Nat → Int32) (hk hc : Nat → Int32) (hhk : ∀ i, i < n → hk i = 0) (hhc : ∀ i, i < n → hc i = 1) (hn : n ≤ 20) : Met l yX4_stack wsX4_stack ({ frames := 5, cells := (240 * n + 1), slots := (1440 * n + 20), locals := 530 }) (zPc D [(e1, .int), (e2, .int), (e3, .int), (e4, .int)] ([(mo, .inr (4, [.int 0, .int 1, .ref kT, .int 1, .int 0, .int 1, .int 0, .int 0, .ref tb, .ref ld, .int (nI n), .ref lK, .ref lC, .int 0])), (kT, .inl (e1, 60, .inl (g))), (tb, .inl (e2, 366, .inl (tf))), (lK, .inl (e3, 20, .inl (hk))), (lC, .inl (e4, 20, .inl (hc)))]) sz [.ref mo]) (va_Qi (fun (r : Int32) (u : Nat → Int32) => r = 0) (zB D (va_A ([(mo, .inr (4, [.int 0, .int 1, .ref kT, .int 1, .int 0, .int 1, .int 0, .int 0, .ref tb, .ref ld, .int (nI n), .ref lK, .ref lC, .int 0])), (kT, .inl (e1, 60, .inl (g))), (tb, .inl (e2, 366, .inl (tf))), (lK, .inl (e3, 20, .inl (hk))), (lC, .inl (e4, 20, .inl (hc)))]) sz) (fun _ => []) (sz + 240 * n) (fun u => [(mo, .inr (4, [.int 0, .int 1, .ref kT, .int 1, .int 0, .int 1, .int 0, .int 0, .ref tb, .ref ld, .int (nI n), .ref lK, .ref lC, .int 0])), (kT, .inl (e1, 60, .inl (g))), (tb, .inl (e2, 366, .inl (u))), (lK, .inl (e3, 20, .inl (hk))), (lC, .inl (e4, 20, .inl (hc)))])) (va_A ([(mo, .inr (4, [.int 0, .int 1, .ref kT, .int 1, .int 0, .int 1, .int 0, .int 0, .ref tb, .ref ld, .int (nI n), .ref lK, .ref lC, .int 0])), (kT, .inl (e1, 60, .inl (g))), (tb, .inl (e2, 366, .inl (tf))), (lK, .inl (e3, 20, .inl (hk))), (lC, .inl (e4, 20, .inl (hc)))]) sz)) (240 * n + 1) (1440 * n + 20) (va_A ([(mo, .inr (4, [.int 0, .int 1, .ref kT, .int 1, .int 0, .int 1, .int 0, .int 0, .ref tb, .ref ld, .int (nI n), .ref lK, .ref lC, .int 0])), (kT, .inl (e1, 60, .inl (g))), (tb, .inl (e2, 366, .inl (tf))), (lK, .inl (e3, 20, .inl (hk))), (lC, .inl (e4, 20, .inl (hc)))]) sz) := by
  refine Met.ofW (cc := cX4_stack) (maxL := 5) (ret := (some .int)) (by decide) rfl ?_
  intro p e s m args below meth c s₁ B hml hv
  obtain ⟨rfl, hsz, hP, hK, hD0⟩ := hv
  have hx := B.exec
  have hb := B.bytes
  have hr := B.returns
  have hts := atoms_spec (ws := wsX4_stack) B.pre
  have hown : s.vm.findClass RX4 = some m.cls := findClass_of_methodNamed B.named
  have hlocks := B.notSynchronized
  subst hsz
  have hD := hD0.self (sz := s.heap.size)
  generalize hAe : va_A ([(mo, .inr (4, [.int 0, .int 1, .ref kT, .int 1, .int 0, .int 1, .int 0, .int 0, .ref tb, .ref ld, .int (nI n), .ref lK, .ref lC, .int 0])), (kT, .inl (e1, 60, .inl (g))), (tb, .inl (e2, 366, .inl (tf))), (lK, .inl (e3, 20, .inl (hk))), (lC, .inl (e4, 20, .inl (hc)))]) s.heap.size = A at hD ⊢
  have hA : ∀ q : Nat, s.heap.size ≤ q → A q := fun q h => by rw [← hAe]; exact Or.inr h
  have hS : va_S A s.heap s.heap [] := va_S.rf
  have hl := lv_entry ([.ref mo]) (n := 5) (Nat.le_of_ble_eq_true rfl)
  rw [lg_entry_eq]
  generalize (lg_sl ([.ref mo]) ++ List.replicate (5 - (lg_sl ([.ref mo])).length) Slot.unset).toArray = ls at hl ⊢
  have hl : lv_has ls 5 [(0, .ref mo)] := hl
  have hP : va_P D vwCl ([(mo, .inr (4, [.int 0, .int 1, .ref kT, .int 1, .int 0, .int 1, .int 0, .int 0, .ref tb, .ref ld, .int (nI n), .ref lK, .ref lC, .int 0])), (kT, .inl (e1, 60, .inl (g))), (tb, .inl (e2, 366, .inl (tf))), (lK, .inl (e3, 20, .inl (hk))), (lC, .inl (e4, 20, .inl (hc)))]) s.heap := hP
  generalize hRe : (headSpec _ _).room = R
  have hRf : R.frames = 5 := by rw [← hRe]; rfl
  have hRc : R.cells = (240 * n + 1) := by rw [← hRe]; rfl
  have hRs : R.slots = (1440 * n + 20) := by rw [← hRe]; rfl
  have hRl : R.locals = 530 := by rw [← hRe]; rfl
  clear hRe
  refine lv_aload_n hx hb dX4_stack_0 rfl (lv_at hl 0 rfl) ?_
  refine lv_iconst (v := 0) hx hb dX4_stack_1 (by decide) ?_
  refine va_put (D := D) (ci := 4) (v := .int 0) (ty := .int) (C := RX4) (T := TX4) (N := 14) hx hb hts (fun _ h9 => List.mem_cons_of_mem _ (List.mem_append_right _ h9)) tyX4 tyX4_ok nmX4 hown hK hP hD hS 0 rfl rfl 0 (by decide) (hts (.fieldLink RX4 35 "PalletStackModel" "thrown" "I") (List.mem_of_getElem? (i := 1) (by rfl))) (fun _ h9 => h9) rfl (by decide +kernel) rfl rfl (Nat.le_of_ble_eq_true rfl) dX4_stack_2 (fun H locs hP hD hS => ?_)
  have hP : va_P D vwCl ([(mo, .inr (4, [.int 0, .int 1, .ref kT, .int 1, .int 0, .int 1, .int 0, .int 0, .ref tb, .ref ld, .int (nI n), .ref lK, .ref lC, .int 0])), (kT, .inl (e1, 60, .inl (g))), (tb, .inl (e2, 366, .inl (tf))), (lK, .inl (e3, 20, .inl (hk))), (lC, .inl (e4, 20, .inl (hc)))]) H := hP
  have hD : va_D A ([(mo, .inr (4, [.int 0, .int 1, .ref kT, .int 1, .int 0, .int 1, .int 0, .int 0, .ref tb, .ref ld, .int (nI n), .ref lK, .ref lC, .int 0])), (kT, .inl (e1, 60, .inl (g))), (tb, .inl (e2, 366, .inl (tf))), (lK, .inl (e3, 20, .inl (hk))), (lC, .inl (e4, 20, .inl (hc)))]) := hD
  refine lv_bipush (v := 20) hx hb dX4_stack_5 (by decide) ?_
  have hz7 := hS.1
  refine znewa (atype := .boolean) (ty := .boolean) (N' := 20) (a0 := (20, .inl (fun _ => 0))) hx hb (hts (.arrayClass .boolean) (List.mem_of_getElem? (i := 2) (by rfl))) rfl hK hP hD hS hA (fun _ => rfl) (by decide) rfl (Nat.le_of_ble_eq_true rfl) (by omega) (by omega) dX4_stack_7 (fun q_124 cy_125 H hz_126 hK hP hD hS => ?_)
  have hP : va_P D vwCl ([(mo, .inr (4, [.int 0, .int 1, .ref kT, .int 1, .int 0, .int 1, .int 0, .int 0, .ref tb, .ref ld, .int (nI n), .ref lK, .ref lC, .int 0])), (kT, .inl (e1, 60, .inl (g))), (tb, .inl (e2, 366, .inl (tf))), (lK, .inl (e3, 20, .inl (hk))), (lC, .inl (e4, 20, .inl (hc))), (q_124, .inl (cy_125, 20, .inl (fun _ => 0)))]) H := hP
  have hD : va_D A ([(mo, .inr (4, [.int 0, .int 1, .ref kT, .int 1, .int 0, .int 1, .int 0, .int 0, .ref tb, .ref ld, .int (nI n), .ref lK, .ref lC, .int 0])), (kT, .inl (e1, 60, .inl (g))), (tb, .inl (e2, 366, .inl (tf))), (lK, .inl (e3, 20, .inl (hk))), (lC, .inl (e4, 20, .inl (hc))), (q_124, .inl (cy_125, 20, .inl (fun _ => 0)))]) := hD
  have hS0 := hS
  have hS := hS.re
  refine lv_astore_n (lv' := [(1, .ref q_124), (0, .ref mo)]) hx hb dX4_stack_9 rfl hl (by decide) rfl (fun ls hl => ?_)
  refine lv_iconst (v := 0) hx hb dX4_stack_10 (by decide) ?_
  refine lv_istore_n (lv' := [(2, .int 0), (1, .ref q_124), (0, .ref mo)]) hx hb dX4_stack_11 rfl hl (by decide) rfl (fun ls hl => ?_)
  refine lv_iconst (v := 0) hx hb dX4_stack_12 (by decide) ?_
  refine lv_istore_n (lv' := [(3, .int 0), (2, .int 0), (1, .ref q_124), (0, .ref mo)]) hx hb dX4_stack_13 rfl hl (by decide) rfl (fun ls hl => ?_)
  generalize hQe : MQ _ _ _ _ _ _ _ = Q
  have outer : ∀ (k j : Nat), j + k = n → ∀ (bv : Int32) (tf za : Nat → Int32) (H : Heap) (locs : List Loc) (ls : Array Slot), ¬ bv = -1 → (∀ i, i < n → za i = if i < j then 1 else 0) → s.heap.size + 240 * j ≤ H.size → va_P D vwCl ([(mo, .inr (4, [.int 0, .int 1, .ref kT, .int 1, .int 0, .int 1, .int 0, .int 0, .ref tb, .ref ld, .int (nI n), .ref lK, .ref lC, .int 0])), (kT, .inl (e1, 60, .inl (g))), (tb, .inl (e2, 366, .inl (tf))), (lK, .inl (e3, 20, .inl (hk))), (lC, .inl (e4, 20, .inl (hc))), (q_124, .inl (cy_125, 20, .inl (za)))]) H → va_D A ([(mo, .inr (4, [.int 0, .int 1, .ref kT, .int 1, .int 0, .int 1, .int 0, .int 0, .ref tb, .ref ld, .int (nI n), .ref lK, .ref lC, .int 0])), (kT, .inl (e1, 60, .inl (g))), (tb, .inl (e2, 366, .inl (tf))), (lK, .inl (e3, 20, .inl (hk))), (lC, .inl (e4, 20, .inl (hc))), (q_124, .inl (cy_125, 20, .inl (za)))]) → va_S A s.heap H locs → lv_has ls 5 [(3, .int bv), (2, .int 0), (1, .ref q_124), (0, .ref mo)] → W p l e R s m ([.ref mo] : List Value).toArray below meth c H locs (240 * j + 1) (1440 * j + 20) Q (F0 m 14 ls []) := by
    intro k
    induction k with
    | zero =>
      intro j hj bv tf za H locs ls hbv hza hsz hP hD hS hl
      obtain rfl : n = j := by omega
      have loopA : ∀ (k2 i : Nat), i + k2 = n → i ≤ n → ∀ (ls : Array Slot), lv_has ls 5 [(4, .int (nI i)), (3, .int (-1)), (2, .int 0), (1, .ref q_124), (0, .ref mo)] → W p l e R s m ([.ref mo] : List Value).toArray below meth c H locs (240 * n + 1) (1440 * n + 20) Q (F0 m 24 ls []) := by
        intro k2
        induction k2 with
        | zero =>
          intro i hi hji ls hl
          obtain rfl : n = i := by omega
          refine lv_iload hx hb dX4_stack_24 (lv_at hl 0 rfl) ?_
          refine lv_aload_n hx hb dX4_stack_26 rfl (lv_at hl 4 rfl) ?_
          refine va_get (D := D) (ci := 4) (v := .int (nI n)) (C := RX4) (T := TX4) (N := 14) hx hb hts (fun _ h9 => List.mem_cons_of_mem _ (List.mem_append_right _ h9)) hown hK hP 0 rfl rfl 10 (by decide) (hts (.fieldLink RX4 70 "PalletStackModel" "lines" "I") (List.mem_of_getElem? (i := 3) (by rfl))) (fun _ h9 => h9) rfl dX4_stack_27 ?_
          refine lv_icmp_ge (tgt := 74) hx hb dX4_stack_30 (by decide) (fun c_127 => ?_) (fun c_127 => absurd (Int32.le_refl _) c_127)
          refine lv_iload_n hx hb dX4_stack_74 rfl (lv_at hl 1 rfl) ?_
          refine lv_iconst (v := (-1)) hx hb dX4_stack_75 (by decide) ?_
          refine lv_icmp_ne (tgt := 82) hx hb dX4_stack_76 (by decide) (fun c_128 => absurd (rfl) c_128) (fun c_128 => ?_)
          refine lv_goto (tgt := 14) hx hb dX4_stack_79 (by decide) ?_
          refine lv_iload_n hx hb dX4_stack_14 rfl (lv_at hl 1 rfl) ?_
          refine lv_iconst (v := (-1)) hx hb dX4_stack_15 (by decide) ?_
          refine lv_icmp_eq (tgt := 118) hx hb dX4_stack_16 (by decide) (fun c_129 => ?_) (fun c_129 => absurd (rfl) c_129)
          refine lv_iload_n hx hb dX4_stack_118 rfl (lv_at hl 2 rfl) ?_
          have hP := hP.sub (ws' := [(mo, .inr (4, [.int 0, .int 1, .ref kT, .int 1, .int 0, .int 1, .int 0, .int 0, .ref tb, .ref ld, .int (nI n), .ref lK, .ref lC, .int 0])), (kT, .inl (e1, 60, .inl (g))), (tb, .inl (e2, 366, .inl (tf))), (lK, .inl (e3, 20, .inl (hk))), (lC, .inl (e4, 20, .inl (hc)))]) [0, 1, 2, 3, 4] rfl
          have hD := hD.sub (ws' := [(mo, .inr (4, [.int 0, .int 1, .ref kT, .int 1, .int 0, .int 1, .int 0, .int 0, .ref tb, .ref ld, .int (nI n), .ref lK, .ref lC, .int 0])), (kT, .inl (e1, 60, .inl (g))), (tb, .inl (e2, 366, .inl (tf))), (lK, .inl (e3, 20, .inl (hk))), (lC, .inl (e4, 20, .inl (hc)))]) [0, 1, 2, 3, 4] (by decide) rfl
          rw [← hQe]
          exact W.iret (v := 0) hx hb hr (fun t ht hW => ⟨⟨0, tf, rfl, rfl, ⟨(by rw [ht]; exact hsz), by rw [ht]; exact hP, va_K.moved hW.alike (hK.sub (tys' := []) [] rfl), hD⟩⟩, hS.F ht⟩) hS.2.2 dX4_stack_119
        | succ k2 ih2 =>
          intro i hi hji ls hl
          refine lv_iload hx hb dX4_stack_24 (lv_at hl 0 rfl) ?_
          refine lv_aload_n hx hb dX4_stack_26 rfl (lv_at hl 4 rfl) ?_
          refine va_get (D := D) (ci := 4) (v := .int (nI n)) (C := RX4) (T := TX4) (N := 14) hx hb hts (fun _ h9 => List.mem_cons_of_mem _ (List.mem_append_right _ h9)) hown hK hP 0 rfl rfl 10 (by decide) (hts (.fieldLink RX4 70 "PalletStackModel" "lines" "I") (List.mem_of_getElem? (i := 3) (by rfl))) (fun _ h9 => h9) rfl dX4_stack_27 ?_
          refine lv_icmp_ge (tgt := 74) hx hb dX4_stack_30 (by decide) (fun c_130 => absurd c_130 (nI_ge (by omega) (by omega))) (fun c_130 => ?_)
          refine lv_aload_n hx hb dX4_stack_33 rfl (lv_at hl 3 rfl) ?_
          refine lv_iload hx hb dX4_stack_34 (lv_at hl 0 rfl) ?_
          refine va_zald hx hb hK hP 5 4 rfl rfl (vp_in_nI (N := 20) (by omega) (by decide)) dX4_stack_36 ?_
          refine lv_topi (fun v_131 ev_131 => ?_)
          obtain rfl : v_131 = (za i) := ev_131.trans (by rw [nI_clamp (by omega)])
          refine lv_if_ne (tgt := 68) hx hb dX4_stack_37 (by decide) (fun c_132 => ?_) (fun c_132 => absurd c_132 (by rw [hza i (by omega), if_pos (by omega)]; decide))
          refine lv_iinc (v := (nI (i + 1))) (lv' := [(4, .int (nI (i + 1))), (3, .int (-1)), (2, .int 0), (1, .ref q_124), (0, .ref mo)]) hx hb dX4_stack_68 hl (k := 0) rfl (nI_1 i) (by decide) rfl (fun ls hl => ?_)
          refine lv_goto (tgt := 24) hx hb dX4_stack_71 (by decide) ?_
          have hl := lv_sub hl (l' := [(4, .int (nI (i + 1))), (3, .int (-1)), (2, .int 0), (1, .ref q_124), (0, .ref mo)]) [0, 1, 2, 3, 4] rfl
          exact ih2 (i + 1) (by omega) (by omega) ls hl
      refine lv_iload_n hx hb dX4_stack_14 rfl (lv_at hl 0 rfl) ?_
      refine lv_iconst (v := (-1)) hx hb dX4_stack_15 (by decide) ?_
      refine lv_icmp_eq (tgt := 118) hx hb dX4_stack_16 (by decide) (fun c_133 => absurd c_133 (hbv)) (fun c_133 => ?_)
      refine lv_iconst (v := (-1)) hx hb dX4_stack_19 (by decide) ?_
      refine lv_istore_n (lv' := [(3, .int (-1)), (2, .int 0), (1, .ref q_124), (0, .ref mo)]) hx hb dX4_stack_20 rfl hl (by decide) rfl (fun ls hl => ?_)
      refine lv_iconst (v := 0) hx hb dX4_stack_21 (by decide) ?_
      refine lv_istore (lv' := [(4, .int 0), (3, .int (-1)), (2, .int 0), (1, .ref q_124), (0, .ref mo)]) hx hb dX4_stack_22 hl (by decide) rfl (fun ls hl => ?_)
      have hl := lv_sub hl (l' := [(4, .int 0), (3, .int (-1)), (2, .int 0), (1, .ref q_124), (0, .ref mo)]) [0, 1, 2, 3, 4] rfl
      exact loopA n 0 (by omega) (by omega) ls hl
    | succ k ih =>
      intro j hj bv tf za H locs ls hbv hza hsz hP hD hS hl
      have found : ∀ (ls : Array Slot), lv_has ls 5 [(4, .int (nI n)), (3, .int (nI j)), (2, .int 0), (1, .ref q_124), (0, .ref mo)] → W p l e R s m ([.ref mo] : List Value).toArray below meth c H locs (240 * j + 1) (1440 * j + 20) Q (F0 m 24 ls []) := by
        intro ls hl
        refine lv_iload hx hb dX4_stack_24 (lv_at hl 0 rfl) ?_
        refine lv_aload_n hx hb dX4_stack_26 rfl (lv_at hl 4 rfl) ?_
        refine va_get (D := D) (ci := 4) (v := .int (nI n)) (C := RX4) (T := TX4) (N := 14) hx hb hts (fun _ h9 => List.mem_cons_of_mem _ (List.mem_append_right _ h9)) hown hK hP 0 rfl rfl 10 (by decide) (hts (.fieldLink RX4 70 "PalletStackModel" "lines" "I") (List.mem_of_getElem? (i := 3) (by rfl))) (fun _ h9 => h9) rfl dX4_stack_27 ?_
        refine lv_icmp_ge (tgt := 74) hx hb dX4_stack_30 (by decide) (fun c_134 => ?_) (fun c_134 => absurd (Int32.le_refl _) c_134)
        refine lv_iload_n hx hb dX4_stack_74 rfl (lv_at hl 1 rfl) ?_
        refine lv_iconst (v := (-1)) hx hb dX4_stack_75 (by decide) ?_
        refine lv_icmp_ne (tgt := 82) hx hb dX4_stack_76 (by decide) (fun c_135 => ?_) (fun c_135 => absurd c_135 (fun h => absurd (congrArg Int32.toInt h) (by rw [nI_toInt (by omega)]; simp)))
        refine lv_aload_n hx hb dX4_stack_82 rfl (lv_at hl 4 rfl) ?_
        refine lv_aload_n hx hb dX4_stack_83 rfl (lv_at hl 4 rfl) ?_
        refine va_get (D := D) (ci := 4) (v := .ref lK) (C := RX4) (T := TX4) (N := 14) hx hb hts (fun _ h9 => List.mem_cons_of_mem _ (List.mem_append_right _ h9)) hown hK hP 0 rfl rfl 11 (by decide) (hts (.fieldLink RX4 29 "PalletStackModel" "lineKinds" "[I") (List.mem_of_getElem? (i := 5) (by rfl))) (fun _ h9 => h9) rfl dX4_stack_84 ?_
        refine lv_iload_n hx hb dX4_stack_87 rfl (lv_at hl 1 rfl) ?_
        refine va_iald hx hb hK hP 3 2 rfl rfl (vp_in_nI (N := 20) (by omega) (by decide)) dX4_stack_88 ?_
        refine lv_topi (fun v_136 ev_136 => ?_)
        obtain rfl : v_136 = 0 := ev_136.trans (by rw [nI_clamp (by omega)]; exact hhk j (by omega))
        refine zcalliV (As := [.int 0]) (rest := []) (wc := [(mo, .inr (4, [.int 0, .int 1, .ref kT, .int 1, .int 0, .int 1, .int 0, .int 0, .ref tb, .ref ld, .int (nI n), .ref lK, .ref lC, .int 0])), (kT, .inl (e1, 60, .inl (g))), (tb, .inl (e2, 366, .inl (tf)))]) (wr := [(lK, .inl (e3, 20, .inl (hk))), (lC, .inl (e4, 20, .inl (hc))), (q_124, .inl (cy_125, 20, .inl (za)))]) ⟨hx, hb, hml, hown, hts⟩ (c_putBest l D _ mo kT tb ld lK lC n e1 e2 g hg tf) (cwV 1 hts gX4_stack_X4_putBest rfl rfl rfl (by decide +kernel) ⟨by rw [hRf]; exact Nat.le_of_ble_eq_true rfl, by rw [hRl]; exact Nat.le_of_ble_eq_true rfl⟩) hK hP hD hS hA [0, 1, 2] [3, 4, 5] rfl (by decide) rfl (by decide) (by decide) [0, 1] rfl (ci := 4) (q0 := 0) rfl rfl rfl hl.1 rfl (Nat.le_of_ble_eq_true rfl) dX4_stack_89 ⟨by omega, by omega⟩ (fun r_137 u_138 H locs hwu_138 hnu_138 hzu_138 hK hP hD hS => ?_)
        have hK : va_K D vwCl [(e1, .int), (e2, .int), (e3, .int), (e4, .int), (cy_125, .boolean)] s := hK
        have hP : va_P D vwCl ([(lK, .inl (e3, 20, .inl (hk))), (lC, .inl (e4, 20, .inl (hc))), (q_124, .inl (cy_125, 20, .inl (za))), (mo, .inr (4, [.int 0, .int 1, .ref kT, .int 1, .int 0, .int 1, .int 0, .int 0, .ref tb, .ref ld, .int (nI n), .ref lK, .ref lC, .int 0])), (kT, .inl (e1, 60, .inl (g))), (tb, .inl (e2, 366, .inl (u_138)))]) H := hP
        have hD : va_D A ([(lK, .inl (e3, 20, .inl (hk))), (lC, .inl (e4, 20, .inl (hc))), (q_124, .inl (cy_125, 20, .inl (za))), (mo, .inr (4, [.int 0, .int 1, .ref kT, .int 1, .int 0, .int 1, .int 0, .int 0, .ref tb, .ref ld, .int (nI n), .ref lK, .ref lC, .int 0])), (kT, .inl (e1, 60, .inl (g))), (tb, .inl (e2, 366, .inl (u_138)))]) := hD
        have hP := hP.sub (ws' := [(mo, .inr (4, [.int 0, .int 1, .ref kT, .int 1, .int 0, .int 1, .int 0, .int 0, .ref tb, .ref ld, .int (nI n), .ref lK, .ref lC, .int 0])), (kT, .inl (e1, 60, .inl (g))), (tb, .inl (e2, 366, .inl (u_138))), (lK, .inl (e3, 20, .inl (hk))), (lC, .inl (e4, 20, .inl (hc))), (q_124, .inl (cy_125, 20, .inl (za)))]) [3, 4, 5, 0, 1, 2] rfl
        have hD := hD.sub (ws' := [(mo, .inr (4, [.int 0, .int 1, .ref kT, .int 1, .int 0, .int 1, .int 0, .int 0, .ref tb, .ref ld, .int (nI n), .ref lK, .ref lC, .int 0])), (kT, .inl (e1, 60, .inl (g))), (tb, .inl (e2, 366, .inl (u_138))), (lK, .inl (e3, 20, .inl (hk))), (lC, .inl (e4, 20, .inl (hc))), (q_124, .inl (cy_125, 20, .inl (za)))]) [3, 4, 5, 0, 1, 2] (by decide) rfl
        refine lv_topi (fun v_139 ev_139 => ?_)
        obtain rfl : v_139 = 0 := ev_139.trans hwu_138
        refine lv_if_eq (tgt := 111) hx hb dX4_stack_92 (by decide) (fun c_140 => ?_) (fun c_140 => absurd (rfl) c_140)
        refine lv_aload_n hx hb dX4_stack_111 rfl (lv_at hl 3 rfl) ?_
        refine lv_iload_n hx hb dX4_stack_112 rfl (lv_at hl 1 rfl) ?_
        refine lv_iconst (v := 1) hx hb dX4_stack_113 (by decide) ?_
        have hS1 := hS
        have hS := hS.re
        refine va_zast hx hb hK hP hD hS 5 4 rfl rfl (vp_in_nI (N := 20) (by omega) (by decide)) dX4_stack_114 (fun H locs hP hD hS => ?_)
        rw [nI_clamp (by omega)] at hP hD
        have hP : va_P D vwCl ([(mo, .inr (4, [.int 0, .int 1, .ref kT, .int 1, .int 0, .int 1, .int 0, .int 0, .ref tb, .ref ld, .int (nI n), .ref lK, .ref lC, .int 0])), (kT, .inl (e1, 60, .inl (g))), (tb, .inl (e2, 366, .inl (u_138))), (lK, .inl (e3, 20, .inl (hk))), (lC, .inl (e4, 20, .inl (hc))), (q_124, .inl (cy_125, 20, .inl (upd za j 1)))]) H := hP
        have hD : va_D A ([(mo, .inr (4, [.int 0, .int 1, .ref kT, .int 1, .int 0, .int 1, .int 0, .int 0, .ref tb, .ref ld, .int (nI n), .ref lK, .ref lC, .int 0])), (kT, .inl (e1, 60, .inl (g))), (tb, .inl (e2, 366, .inl (u_138))), (lK, .inl (e3, 20, .inl (hk))), (lC, .inl (e4, 20, .inl (hc))), (q_124, .inl (cy_125, 20, .inl (upd za j 1)))]) := hD
        have hz8 := hS.1
        have hS := hS1.tr hS
        refine lv_goto (tgt := 14) hx hb dX4_stack_115 (by decide) ?_
        have hl := lv_sub hl (l' := [(3, .int (nI j)), (2, .int 0), (1, .ref q_124), (0, .ref mo)]) [1, 2, 3, 4] rfl
        refine W.widen (k := (240 * (j + 1) + 1)) (n := (1440 * (j + 1) + 20)) (by omega) (by omega) ?_
        exact ih (j + 1) (by omega) (nI j) u_138 (upd za j 1) H locs ls (fun h => absurd (congrArg Int32.toInt h) (by rw [nI_toInt (by omega)]; simp)) (fun i hi => by
          simp only [upd]
          by_cases hij : i = j
          · rw [if_pos hij, if_pos (by omega)]
          · rw [if_neg hij, hza i hi]; by_cases hlt : i < j
            · rw [if_pos hlt, if_pos (by omega)]
            · rw [if_neg hlt, if_neg (by omega)]) (by omega) hP hD hS hl
      have loopB : ∀ (k2 i : Nat), i + k2 = n → j < i → ∀ (ls : Array Slot), lv_has ls 5 [(4, .int (nI i)), (3, .int (nI j)), (2, .int 0), (1, .ref q_124), (0, .ref mo)] → W p l e R s m ([.ref mo] : List Value).toArray below meth c H locs (240 * j + 1) (1440 * j + 20) Q (F0 m 24 ls []) := by
        intro k2
        induction k2 with
        | zero =>
          intro i hi hji ls hl
          obtain rfl : n = i := by omega
          exact found ls hl
        | succ k2 ih2 =>
          intro i hi hji ls hl
          refine lv_iload hx hb dX4_stack_24 (lv_at hl 0 rfl) ?_
          refine lv_aload_n hx hb dX4_stack_26 rfl (lv_at hl 4 rfl) ?_
          refine va_get (D := D) (ci := 4) (v := .int (nI n)) (C := RX4) (T := TX4) (N := 14) hx hb hts (fun _ h9 => List.mem_cons_of_mem _ (List.mem_append_right _ h9)) hown hK hP 0 rfl rfl 10 (by decide) (hts (.fieldLink RX4 70 "PalletStackModel" "lines" "I") (List.mem_of_getElem? (i := 3) (by rfl))) (fun _ h9 => h9) rfl dX4_stack_27 ?_
          refine lv_icmp_ge (tgt := 74) hx hb dX4_stack_30 (by decide) (fun c_141 => absurd c_141 (nI_ge (by omega) (by omega))) (fun c_141 => ?_)
          refine lv_aload_n hx hb dX4_stack_33 rfl (lv_at hl 3 rfl) ?_
          refine lv_iload hx hb dX4_stack_34 (lv_at hl 0 rfl) ?_
          refine va_zald hx hb hK hP 5 4 rfl rfl (vp_in_nI (N := 20) (by omega) (by decide)) dX4_stack_36 ?_
          refine lv_topi (fun v_142 ev_142 => ?_)
          obtain rfl : v_142 = (za i) := ev_142.trans (by rw [nI_clamp (by omega)])
          refine lv_if_ne (tgt := 68) hx hb dX4_stack_37 (by decide) (fun c_143 => absurd ((hza i (by omega)).trans (if_neg (by omega))) c_143) (fun c_143 => ?_)
          refine lv_aload_n hx hb dX4_stack_40 rfl (lv_at hl 4 rfl) ?_
          refine va_get (D := D) (ci := 4) (v := .ref lC) (C := RX4) (T := TX4) (N := 14) hx hb hts (fun _ h9 => List.mem_cons_of_mem _ (List.mem_append_right _ h9)) hown hK hP 0 rfl rfl 12 (by decide) (hts (.fieldLink RX4 32 "PalletStackModel" "lineCounts" "[I") (List.mem_of_getElem? (i := 4) (by rfl))) (fun _ h9 => h9) rfl dX4_stack_41 ?_
          refine lv_iload hx hb dX4_stack_44 (lv_at hl 0 rfl) ?_
          refine va_iald hx hb hK hP 4 3 rfl rfl (vp_in_nI (N := 20) (by omega) (by decide)) dX4_stack_46 ?_
          refine lv_topi (fun v_144 ev_144 => ?_)
          obtain rfl : v_144 = 1 := ev_144.trans (by rw [nI_clamp (by omega)]; exact hhc i (by omega))
          refine lv_if_le (tgt := 68) hx hb dX4_stack_47 (by decide) (fun c_145 => absurd c_145 (by decide)) (fun c_145 => ?_)
          refine lv_iload_n hx hb dX4_stack_50 rfl (lv_at hl 1 rfl) ?_
          refine lv_iconst (v := (-1)) hx hb dX4_stack_51 (by decide) ?_
          refine lv_icmp_eq (tgt := 65) hx hb dX4_stack_52 (by decide) (fun c_146 => absurd c_146 (fun h => absurd (congrArg Int32.toInt h) (by rw [nI_toInt (by omega)]; simp))) (fun c_146 => ?_)
          refine lv_aload_n hx hb dX4_stack_55 rfl (lv_at hl 4 rfl) ?_
          refine lv_iload hx hb dX4_stack_56 (lv_at hl 0 rfl) ?_
          refine lv_iload_n hx hb dX4_stack_58 rfl (lv_at hl 1 rfl) ?_
          refine zrdV (As := [.int (nI i), .int (nI j)]) (rest := []) (wc := [(mo, .inr (4, [.int 0, .int 1, .ref kT, .int 1, .int 0, .int 1, .int 0, .int 0, .ref tb, .ref ld, .int (nI n), .ref lK, .ref lC, .int 0])), (kT, .inl (e1, 60, .inl (g))), (lK, .inl (e3, 20, .inl (hk)))]) ⟨hx, hb, hml, hown, hts⟩ (c_isAhead l D _ mo kT tb ld lK lC n e1 e3 g hg hk i j (by omega) (by omega) (hhk i (by omega)) (hhk j (by omega))) (cwV 2 hts gX4_stack_X4_isAhead rfl rfl rfl (by decide +kernel) ⟨by rw [hRf]; exact Nat.le_of_ble_eq_true rfl, by rw [hRl]; exact Nat.le_of_ble_eq_true rfl⟩) hK hP hD [0, 1, 3] rfl (by decide) [0, 2] rfl (ci := 4) (q0 := 0) rfl rfl rfl hl.1 rfl (Nat.le_of_ble_eq_true rfl) dX4_stack_59 ⟨by omega, by omega⟩ (fun r_147 hr_147 => ?_)
          refine lv_topi (fun v_148 ev_148 => ?_)
          obtain rfl : v_148 = 0 := ev_148.trans hr_147
          refine lv_if_eq (tgt := 68) hx hb dX4_stack_62 (by decide) (fun c_149 => ?_) (fun c_149 => absurd (rfl) c_149)
          refine lv_iinc (v := (nI (i + 1))) (lv' := [(4, .int (nI (i + 1))), (3, .int (nI j)), (2, .int 0), (1, .ref q_124), (0, .ref mo)]) hx hb dX4_stack_68 hl (k := 0) rfl (nI_1 i) (by decide) rfl (fun ls hl => ?_)
          refine lv_goto (tgt := 24) hx hb dX4_stack_71 (by decide) ?_
          have hl := lv_sub hl (l' := [(4, .int (nI (i + 1))), (3, .int (nI j)), (2, .int 0), (1, .ref q_124), (0, .ref mo)]) [0, 1, 2, 3, 4] rfl
          exact ih2 (i + 1) (by omega) (by omega) ls hl
      have loopA : ∀ (k2 i : Nat), i + k2 = n → i ≤ j → ∀ (ls : Array Slot), lv_has ls 5 [(4, .int (nI i)), (3, .int (-1)), (2, .int 0), (1, .ref q_124), (0, .ref mo)] → W p l e R s m ([.ref mo] : List Value).toArray below meth c H locs (240 * j + 1) (1440 * j + 20) Q (F0 m 24 ls []) := by
        intro k2
        induction k2 with
        | zero =>
          intro i hi hji ls hl
          exact absurd hji (by omega)
        | succ k2 ih2 =>
          intro i hi hji ls hl
          refine lv_iload hx hb dX4_stack_24 (lv_at hl 0 rfl) ?_
          refine lv_aload_n hx hb dX4_stack_26 rfl (lv_at hl 4 rfl) ?_
          refine va_get (D := D) (ci := 4) (v := .int (nI n)) (C := RX4) (T := TX4) (N := 14) hx hb hts (fun _ h9 => List.mem_cons_of_mem _ (List.mem_append_right _ h9)) hown hK hP 0 rfl rfl 10 (by decide) (hts (.fieldLink RX4 70 "PalletStackModel" "lines" "I") (List.mem_of_getElem? (i := 3) (by rfl))) (fun _ h9 => h9) rfl dX4_stack_27 ?_
          refine lv_icmp_ge (tgt := 74) hx hb dX4_stack_30 (by decide) (fun c_150 => absurd c_150 (nI_ge (by omega) (by omega))) (fun c_150 => ?_)
          refine lv_aload_n hx hb dX4_stack_33 rfl (lv_at hl 3 rfl) ?_
          refine lv_iload hx hb dX4_stack_34 (lv_at hl 0 rfl) ?_
          refine va_zald hx hb hK hP 5 4 rfl rfl (vp_in_nI (N := 20) (by omega) (by decide)) dX4_stack_36 ?_
          refine lv_topi (fun v_151 ev_151 => ?_)
          obtain rfl : v_151 = (za i) := ev_151.trans (by rw [nI_clamp (by omega)])
          rcases Nat.lt_or_ge i j with hlt | hge
          · have h_b := True.intro
            refine lv_if_ne (tgt := 68) hx hb dX4_stack_37 (by decide) (fun c_152 => ?_) (fun c_152 => absurd c_152 (by rw [hza i (by omega), if_pos hlt]; decide))
            refine lv_iinc (v := (nI (i + 1))) (lv' := [(4, .int (nI (i + 1))), (3, .int (-1)), (2, .int 0), (1, .ref q_124), (0, .ref mo)]) hx hb dX4_stack_68 hl (k := 0) rfl (nI_1 i) (by decide) rfl (fun ls hl => ?_)
            refine lv_goto (tgt := 24) hx hb dX4_stack_71 (by decide) ?_
            have hl := lv_sub hl (l' := [(4, .int (nI (i + 1))), (3, .int (-1)), (2, .int 0), (1, .ref q_124), (0, .ref mo)]) [0, 1, 2, 3, 4] rfl
            exact ih2 (i + 1) (by omega) (by omega) ls hl
          · have h_b := True.intro
            obtain rfl : i = j := by omega
            refine lv_if_ne (tgt := 68) hx hb dX4_stack_37 (by decide) (fun c_153 => absurd ((hza i (by omega)).trans (if_neg (by omega))) c_153) (fun c_153 => ?_)
            refine lv_aload_n hx hb dX4_stack_40 rfl (lv_at hl 4 rfl) ?_
            refine va_get (D := D) (ci := 4) (v := .ref lC) (C := RX4) (T := TX4) (N := 14) hx hb hts (fun _ h9 => List.mem_cons_of_mem _ (List.mem_append_right _ h9)) hown hK hP 0 rfl rfl 12 (by decide) (hts (.fieldLink RX4 32 "PalletStackModel" "lineCounts" "[I") (List.mem_of_getElem? (i := 4) (by rfl))) (fun _ h9 => h9) rfl dX4_stack_41 ?_
            refine lv_iload hx hb dX4_stack_44 (lv_at hl 0 rfl) ?_
            refine va_iald hx hb hK hP 4 3 rfl rfl (vp_in_nI (N := 20) (by omega) (by decide)) dX4_stack_46 ?_
            refine lv_topi (fun v_154 ev_154 => ?_)
            obtain rfl : v_154 = 1 := ev_154.trans (by rw [nI_clamp (by omega)]; exact hhc i (by omega))
            refine lv_if_le (tgt := 68) hx hb dX4_stack_47 (by decide) (fun c_155 => absurd c_155 (by decide)) (fun c_155 => ?_)
            refine lv_iload_n hx hb dX4_stack_50 rfl (lv_at hl 1 rfl) ?_
            refine lv_iconst (v := (-1)) hx hb dX4_stack_51 (by decide) ?_
            refine lv_icmp_eq (tgt := 65) hx hb dX4_stack_52 (by decide) (fun c_156 => ?_) (fun c_156 => absurd (rfl) c_156)
            refine lv_iload hx hb dX4_stack_65 (lv_at hl 0 rfl) ?_
            refine lv_istore_n (lv' := [(3, .int (nI i)), (4, .int (nI i)), (2, .int 0), (1, .ref q_124), (0, .ref mo)]) hx hb dX4_stack_67 rfl hl (by decide) rfl (fun ls hl => ?_)
            refine lv_iinc (v := (nI (i + 1))) (lv' := [(4, .int (nI (i + 1))), (3, .int (nI i)), (2, .int 0), (1, .ref q_124), (0, .ref mo)]) hx hb dX4_stack_68 hl (k := 1) rfl (nI_1 i) (by decide) rfl (fun ls hl => ?_)
            refine lv_goto (tgt := 24) hx hb dX4_stack_71 (by decide) ?_
            have hl := lv_sub hl (l' := [(4, .int (nI (i + 1))), (3, .int (nI i)), (2, .int 0), (1, .ref q_124), (0, .ref mo)]) [0, 1, 2, 3, 4] rfl
            exact loopB k2 (i + 1) (by omega) (by omega) ls hl
      refine lv_iload_n hx hb dX4_stack_14 rfl (lv_at hl 0 rfl) ?_
      refine lv_iconst (v := (-1)) hx hb dX4_stack_15 (by decide) ?_
      refine lv_icmp_eq (tgt := 118) hx hb dX4_stack_16 (by decide) (fun c_157 => absurd c_157 (hbv)) (fun c_157 => ?_)
      refine lv_iconst (v := (-1)) hx hb dX4_stack_19 (by decide) ?_
      refine lv_istore_n (lv' := [(3, .int (-1)), (2, .int 0), (1, .ref q_124), (0, .ref mo)]) hx hb dX4_stack_20 rfl hl (by decide) rfl (fun ls hl => ?_)
      refine lv_iconst (v := 0) hx hb dX4_stack_21 (by decide) ?_
      refine lv_istore (lv' := [(4, .int 0), (3, .int (-1)), (2, .int 0), (1, .ref q_124), (0, .ref mo)]) hx hb dX4_stack_22 hl (by decide) rfl (fun ls hl => ?_)
      have hl := lv_sub hl (l' := [(4, .int 0), (3, .int (-1)), (2, .int 0), (1, .ref q_124), (0, .ref mo)]) [0, 1, 2, 3, 4] rfl
      exact loopA n 0 (by omega) (by omega) ls hl
  have hl := lv_sub hl (l' := [(3, .int 0), (2, .int 0), (1, .ref q_124), (0, .ref mo)]) [0, 1, 2, 3] rfl
  exact outer n 0 (by omega) 0 tf (fun _ => 0) H locs ls (by decide) (fun i _ => rfl) (by omega) hP hD (hS0.tr hS) hl
set_option maxHeartbeats 4000000 in
set_option maxRecDepth 100000 in
theorem c_M_init (l : Launch) (D : zG) (sz : Nat) (mo : Nat) : Met l yX4_init wsX4_init ({ frames := 1, cells := 5, slots := 527, locals := 16 }) (zPc D [] ([(mo, .inr (4, [.int 0, .int 0, .null, .int 0, .int 0, .int 0, .int 0, .int 0, .null, .null, .int 0, .null, .null, .int 0]))]) sz [.ref mo]) (va_Qv (fun (u : (Nat → Nat) × (Nat → ClassId)) => True) (zB D (va_A ([(mo, .inr (4, [.int 0, .int 0, .null, .int 0, .int 0, .int 0, .int 0, .int 0, .null, .null, .int 0, .null, .null, .int 0]))]) sz) (fun u => [((u.2 0), .int), ((u.2 1), .int), ((u.2 2), .int), ((u.2 3), .int)]) 0 (fun u => [(mo, .inr (4, [.int 0, .int 0, .ref (u.1 0), .int 20, .int 60, .int 2000, .int 0, .int 0, .ref (u.1 1), .ref (u.1 2), .int 0, .ref (u.1 3), .ref (u.1 4), .int 0])), ((u.1 0), .inl ((u.2 0), 60, .inl (fun _ => 0))), ((u.1 1), .inl ((u.2 1), 366, .inl (fun _ => 0))), ((u.1 3), .inl ((u.2 2), 20, .inl (fun _ => 0))), ((u.1 4), .inl ((u.2 3), 20, .inl (fun _ => 0)))])) (va_A ([(mo, .inr (4, [.int 0, .int 0, .null, .int 0, .int 0, .int 0, .int 0, .int 0, .null, .null, .int 0, .null, .null, .int 0]))]) sz)) 5 527 (va_A ([(mo, .inr (4, [.int 0, .int 0, .null, .int 0, .int 0, .int 0, .int 0, .int 0, .null, .null, .int 0, .null, .null, .int 0]))]) sz) := by
  refine Met.ofW (cc := cX4_init) (maxL := 1) (ret := none) (by decide) rfl ?_
  intro p e s m args below meth c s₁ B hml hv
  obtain ⟨rfl, hsz, hP, hK, hD0⟩ := hv
  have hx := B.exec
  have hb := B.bytes
  have hr := B.returns
  have hts := atoms_spec (ws := wsX4_init) B.pre
  have hown : s.vm.findClass RX4 = some m.cls := findClass_of_methodNamed B.named
  have hlocks := B.notSynchronized
  have hin : meth.name = "<init>" := (name_of_methodNamed B.named B.method).1
  subst hsz
  have hD := hD0.self (sz := s.heap.size)
  generalize hAe : va_A ([(mo, .inr (4, [.int 0, .int 0, .null, .int 0, .int 0, .int 0, .int 0, .int 0, .null, .null, .int 0, .null, .null, .int 0]))]) s.heap.size = A at hD ⊢
  have hA : ∀ q : Nat, s.heap.size ≤ q → A q := fun q h => by rw [← hAe]; exact Or.inr h
  have hS : va_S A s.heap s.heap [] := va_S.rf
  have hl := lv_entry ([.ref mo]) (n := 1) (Nat.le_of_ble_eq_true rfl)
  rw [lg_entry_eq]
  generalize (lg_sl ([.ref mo]) ++ List.replicate (1 - (lg_sl ([.ref mo])).length) Slot.unset).toArray = ls at hl ⊢
  have hl : lv_has ls 1 [(0, .ref mo)] := hl
  have hP : va_P D vwCl ([(mo, .inr (4, [.int 0, .int 0, .null, .int 0, .int 0, .int 0, .int 0, .int 0, .null, .null, .int 0, .null, .null, .int 0]))]) s.heap := hP
  generalize hRe : (headSpec _ _).room = R
  have hRf : R.frames = 1 := by rw [← hRe]; rfl
  have hRc : R.cells = 5 := by rw [← hRe]; rfl
  have hRs : R.slots = 527 := by rw [← hRe]; rfl
  have hRl : R.locals = 16 := by rw [← hRe]; rfl
  clear hRe
  refine lv_aload_n hx hb dX4_init_0 rfl (lv_at hl 0 rfl) ?_
  refine W.objInit hx hb hown (hts (.methodLink RX4 1 objectInit) (List.mem_of_getElem? (i := 1) (by rfl))) (hts (.instanceMethod objectInit) (List.mem_of_getElem? (i := 2) (by rfl))) (hts (.code objectInit ⟨#[0xb1]⟩ 1 none) (List.mem_of_getElem? (i := 3) (by rfl))) rfl (by rw [hml]; exact hl.1) rfl dX4_init_1 (by rw [hRf]; exact Nat.le_of_ble_eq_true rfl) (by rw [hRl]; exact Nat.le_of_ble_eq_true rfl) ?_
  refine W.eq (g2 := F0 m 4 ls []) rfl ?_
  refine lv_aload_n hx hb dX4_init_4 rfl (lv_at hl 0 rfl) ?_
  refine lv_bipush (v := 60) hx hb dX4_init_5 (by decide) ?_
  refine znewa (atype := .int) (ty := .int) (N' := 60) (a0 := (60, .inl (fun _ => 0))) hx hb (hts (.arrayClass .int) (List.mem_of_getElem? (i := 4) (by rfl))) rfl hK hP hD hS hA (fun _ => rfl) (by decide) rfl (Nat.le_of_ble_eq_true rfl) (by omega) (by omega) dX4_init_7 (fun q_158 cy_159 H hz_160 hK hP hD hS => ?_)
  have hP : va_P D vwCl ([(mo, .inr (4, [.int 0, .int 0, .null, .int 0, .int 0, .int 0, .int 0, .int 0, .null, .null, .int 0, .null, .null, .int 0])), (q_158, .inl (cy_159, 60, .inl (fun _ => 0)))]) H := hP
  have hD : va_D A ([(mo, .inr (4, [.int 0, .int 0, .null, .int 0, .int 0, .int 0, .int 0, .int 0, .null, .null, .int 0, .null, .null, .int 0])), (q_158, .inl (cy_159, 60, .inl (fun _ => 0)))]) := hD
  refine va_putF (D := D) (ci := 4) (v := .ref q_158) (ty := .array .int) (C := RX4) (T := TX4) (N := 14) hx hb hts (fun _ h9 => List.mem_cons_of_mem _ (List.mem_append_right _ h9)) tyX4 tyX4_ok nmX4 hown hK hP hD hS 0 rfl rfl 2 (by decide) (hts (.fieldLink RX4 9 "PalletStackModel" "kindTable" "[I") (List.mem_of_getElem? (i := 5) (by rfl))) (fun _ h9 => h9) rfl hin rfl (by decide +kernel) rfl rfl (Nat.le_of_ble_eq_true rfl) dX4_init_9 (fun H locs hP hD hS => ?_)
  have hP : va_P D vwCl ([(mo, .inr (4, [.int 0, .int 0, .ref q_158, .int 0, .int 0, .int 0, .int 0, .int 0, .null, .null, .int 0, .null, .null, .int 0])), (q_158, .inl (cy_159, 60, .inl (fun _ => 0)))]) H := hP
  have hD : va_D A ([(mo, .inr (4, [.int 0, .int 0, .ref q_158, .int 0, .int 0, .int 0, .int 0, .int 0, .null, .null, .int 0, .null, .null, .int 0])), (q_158, .inl (cy_159, 60, .inl (fun _ => 0)))]) := hD
  refine lv_aload_n hx hb dX4_init_12 rfl (lv_at hl 0 rfl) ?_
  refine lv_bipush (v := 20) hx hb dX4_init_13 (by decide) ?_
  refine va_put (D := D) (ci := 4) (v := .int 20) (ty := .int) (C := RX4) (T := TX4) (N := 14) hx hb hts (fun _ h9 => List.mem_cons_of_mem _ (List.mem_append_right _ h9)) tyX4 tyX4_ok nmX4 hown hK hP hD hS 0 rfl rfl 3 (by decide) (hts (.fieldLink RX4 13 "PalletStackModel" "highest" "I") (List.mem_of_getElem? (i := 6) (by rfl))) (fun _ h9 => h9) rfl (by decide +kernel) rfl rfl (Nat.le_of_ble_eq_true rfl) dX4_init_15 (fun H locs hP hD hS => ?_)
  have hP : va_P D vwCl ([(mo, .inr (4, [.int 0, .int 0, .ref q_158, .int 20, .int 0, .int 0, .int 0, .int 0, .null, .null, .int 0, .null, .null, .int 0])), (q_158, .inl (cy_159, 60, .inl (fun _ => 0)))]) H := hP
  have hD : va_D A ([(mo, .inr (4, [.int 0, .int 0, .ref q_158, .int 20, .int 0, .int 0, .int 0, .int 0, .null, .null, .int 0, .null, .null, .int 0])), (q_158, .inl (cy_159, 60, .inl (fun _ => 0)))]) := hD
  refine lv_aload_n hx hb dX4_init_18 rfl (lv_at hl 0 rfl) ?_
  refine lv_bipush (v := 60) hx hb dX4_init_19 (by decide) ?_
  refine va_put (D := D) (ci := 4) (v := .int 60) (ty := .int) (C := RX4) (T := TX4) (N := 14) hx hb hts (fun _ h9 => List.mem_cons_of_mem _ (List.mem_append_right _ h9)) tyX4 tyX4_ok nmX4 hown hK hP hD hS 0 rfl rfl 4 (by decide) (hts (.fieldLink RX4 17 "PalletStackModel" "support" "I") (List.mem_of_getElem? (i := 7) (by rfl))) (fun _ h9 => h9) rfl (by decide +kernel) rfl rfl (Nat.le_of_ble_eq_true rfl) dX4_init_21 (fun H locs hP hD hS => ?_)
  have hP : va_P D vwCl ([(mo, .inr (4, [.int 0, .int 0, .ref q_158, .int 20, .int 60, .int 0, .int 0, .int 0, .null, .null, .int 0, .null, .null, .int 0])), (q_158, .inl (cy_159, 60, .inl (fun _ => 0)))]) H := hP
  have hD : va_D A ([(mo, .inr (4, [.int 0, .int 0, .ref q_158, .int 20, .int 60, .int 0, .int 0, .int 0, .null, .null, .int 0, .null, .null, .int 0])), (q_158, .inl (cy_159, 60, .inl (fun _ => 0)))]) := hD
  refine lv_aload_n hx hb dX4_init_24 rfl (lv_at hl 0 rfl) ?_
  refine lv_sipush (v := 2000) hx hb dX4_init_25 (by decide) ?_
  refine va_put (D := D) (ci := 4) (v := .int 2000) (ty := .int) (C := RX4) (T := TX4) (N := 14) hx hb hts (fun _ h9 => List.mem_cons_of_mem _ (List.mem_append_right _ h9)) tyX4 tyX4_ok nmX4 hown hK hP hD hS 0 rfl rfl 5 (by decide) (hts (.fieldLink RX4 20 "PalletStackModel" "limit" "I") (List.mem_of_getElem? (i := 8) (by rfl))) (fun _ h9 => h9) rfl (by decide +kernel) rfl rfl (Nat.le_of_ble_eq_true rfl) dX4_init_28 (fun H locs hP hD hS => ?_)
  have hP : va_P D vwCl ([(mo, .inr (4, [.int 0, .int 0, .ref q_158, .int 20, .int 60, .int 2000, .int 0, .int 0, .null, .null, .int 0, .null, .null, .int 0])), (q_158, .inl (cy_159, 60, .inl (fun _ => 0)))]) H := hP
  have hD : va_D A ([(mo, .inr (4, [.int 0, .int 0, .ref q_158, .int 20, .int 60, .int 2000, .int 0, .int 0, .null, .null, .int 0, .null, .null, .int 0])), (q_158, .inl (cy_159, 60, .inl (fun _ => 0)))]) := hD
  refine lv_aload_n hx hb dX4_init_31 rfl (lv_at hl 0 rfl) ?_
  refine lv_sipush (v := 366) hx hb dX4_init_32 (by decide) ?_
  refine znewa (atype := .int) (ty := .int) (N' := 366) (a0 := (366, .inl (fun _ => 0))) hx hb (hts (.arrayClass .int) (List.mem_of_getElem? (i := 4) (by rfl))) rfl hK hP hD hS hA (fun _ => rfl) (by decide) rfl (Nat.le_of_ble_eq_true rfl) (by omega) (by omega) dX4_init_35 (fun q_161 cy_162 H hz_163 hK hP hD hS => ?_)
  have hP : va_P D vwCl ([(mo, .inr (4, [.int 0, .int 0, .ref q_158, .int 20, .int 60, .int 2000, .int 0, .int 0, .null, .null, .int 0, .null, .null, .int 0])), (q_158, .inl (cy_159, 60, .inl (fun _ => 0))), (q_161, .inl (cy_162, 366, .inl (fun _ => 0)))]) H := hP
  have hD : va_D A ([(mo, .inr (4, [.int 0, .int 0, .ref q_158, .int 20, .int 60, .int 2000, .int 0, .int 0, .null, .null, .int 0, .null, .null, .int 0])), (q_158, .inl (cy_159, 60, .inl (fun _ => 0))), (q_161, .inl (cy_162, 366, .inl (fun _ => 0)))]) := hD
  refine va_putF (D := D) (ci := 4) (v := .ref q_161) (ty := .array .int) (C := RX4) (T := TX4) (N := 14) hx hb hts (fun _ h9 => List.mem_cons_of_mem _ (List.mem_append_right _ h9)) tyX4 tyX4_ok nmX4 hown hK hP hD hS 0 rfl rfl 8 (by decide) (hts (.fieldLink RX4 23 "PalletStackModel" "table" "[I") (List.mem_of_getElem? (i := 9) (by rfl))) (fun _ h9 => h9) rfl hin rfl (by decide +kernel) rfl rfl (Nat.le_of_ble_eq_true rfl) dX4_init_37 (fun H locs hP hD hS => ?_)
  have hP : va_P D vwCl ([(mo, .inr (4, [.int 0, .int 0, .ref q_158, .int 20, .int 60, .int 2000, .int 0, .int 0, .ref q_161, .null, .int 0, .null, .null, .int 0])), (q_158, .inl (cy_159, 60, .inl (fun _ => 0))), (q_161, .inl (cy_162, 366, .inl (fun _ => 0)))]) H := hP
  have hD : va_D A ([(mo, .inr (4, [.int 0, .int 0, .ref q_158, .int 20, .int 60, .int 2000, .int 0, .int 0, .ref q_161, .null, .int 0, .null, .null, .int 0])), (q_158, .inl (cy_159, 60, .inl (fun _ => 0))), (q_161, .inl (cy_162, 366, .inl (fun _ => 0)))]) := hD
  refine lv_aload_n hx hb dX4_init_40 rfl (lv_at hl 0 rfl) ?_
  refine lv_bipush (v := 61) hx hb dX4_init_41 (by decide) ?_
  refine znewa (atype := .int) (ty := .int) (N' := 61) (a0 := (61, .inl (fun _ => 0))) hx hb (hts (.arrayClass .int) (List.mem_of_getElem? (i := 4) (by rfl))) rfl hK hP hD hS hA (fun _ => rfl) (by decide) rfl (Nat.le_of_ble_eq_true rfl) (by omega) (by omega) dX4_init_43 (fun q_164 cy_165 H hz_166 hK hP hD hS => ?_)
  have hP : va_P D vwCl ([(mo, .inr (4, [.int 0, .int 0, .ref q_158, .int 20, .int 60, .int 2000, .int 0, .int 0, .ref q_161, .null, .int 0, .null, .null, .int 0])), (q_158, .inl (cy_159, 60, .inl (fun _ => 0))), (q_161, .inl (cy_162, 366, .inl (fun _ => 0))), (q_164, .inl (cy_165, 61, .inl (fun _ => 0)))]) H := hP
  have hD : va_D A ([(mo, .inr (4, [.int 0, .int 0, .ref q_158, .int 20, .int 60, .int 2000, .int 0, .int 0, .ref q_161, .null, .int 0, .null, .null, .int 0])), (q_158, .inl (cy_159, 60, .inl (fun _ => 0))), (q_161, .inl (cy_162, 366, .inl (fun _ => 0))), (q_164, .inl (cy_165, 61, .inl (fun _ => 0)))]) := hD
  refine va_putF (D := D) (ci := 4) (v := .ref q_164) (ty := .array .int) (C := RX4) (T := TX4) (N := 14) hx hb hts (fun _ h9 => List.mem_cons_of_mem _ (List.mem_append_right _ h9)) tyX4 tyX4_ok nmX4 hown hK hP hD hS 0 rfl rfl 9 (by decide) (hts (.fieldLink RX4 26 "PalletStackModel" "loads" "[I") (List.mem_of_getElem? (i := 10) (by rfl))) (fun _ h9 => h9) rfl hin rfl (by decide +kernel) rfl rfl (Nat.le_of_ble_eq_true rfl) dX4_init_45 (fun H locs hP hD hS => ?_)
  have hP : va_P D vwCl ([(mo, .inr (4, [.int 0, .int 0, .ref q_158, .int 20, .int 60, .int 2000, .int 0, .int 0, .ref q_161, .ref q_164, .int 0, .null, .null, .int 0])), (q_158, .inl (cy_159, 60, .inl (fun _ => 0))), (q_161, .inl (cy_162, 366, .inl (fun _ => 0))), (q_164, .inl (cy_165, 61, .inl (fun _ => 0)))]) H := hP
  have hD : va_D A ([(mo, .inr (4, [.int 0, .int 0, .ref q_158, .int 20, .int 60, .int 2000, .int 0, .int 0, .ref q_161, .ref q_164, .int 0, .null, .null, .int 0])), (q_158, .inl (cy_159, 60, .inl (fun _ => 0))), (q_161, .inl (cy_162, 366, .inl (fun _ => 0))), (q_164, .inl (cy_165, 61, .inl (fun _ => 0)))]) := hD
  refine lv_aload_n hx hb dX4_init_48 rfl (lv_at hl 0 rfl) ?_
  refine lv_bipush (v := 20) hx hb dX4_init_49 (by decide) ?_
  refine znewa (atype := .int) (ty := .int) (N' := 20) (a0 := (20, .inl (fun _ => 0))) hx hb (hts (.arrayClass .int) (List.mem_of_getElem? (i := 4) (by rfl))) rfl hK hP hD hS hA (fun _ => rfl) (by decide) rfl (Nat.le_of_ble_eq_true rfl) (by omega) (by omega) dX4_init_51 (fun q_167 cy_168 H hz_169 hK hP hD hS => ?_)
  have hP : va_P D vwCl ([(mo, .inr (4, [.int 0, .int 0, .ref q_158, .int 20, .int 60, .int 2000, .int 0, .int 0, .ref q_161, .ref q_164, .int 0, .null, .null, .int 0])), (q_158, .inl (cy_159, 60, .inl (fun _ => 0))), (q_161, .inl (cy_162, 366, .inl (fun _ => 0))), (q_164, .inl (cy_165, 61, .inl (fun _ => 0))), (q_167, .inl (cy_168, 20, .inl (fun _ => 0)))]) H := hP
  have hD : va_D A ([(mo, .inr (4, [.int 0, .int 0, .ref q_158, .int 20, .int 60, .int 2000, .int 0, .int 0, .ref q_161, .ref q_164, .int 0, .null, .null, .int 0])), (q_158, .inl (cy_159, 60, .inl (fun _ => 0))), (q_161, .inl (cy_162, 366, .inl (fun _ => 0))), (q_164, .inl (cy_165, 61, .inl (fun _ => 0))), (q_167, .inl (cy_168, 20, .inl (fun _ => 0)))]) := hD
  refine va_putF (D := D) (ci := 4) (v := .ref q_167) (ty := .array .int) (C := RX4) (T := TX4) (N := 14) hx hb hts (fun _ h9 => List.mem_cons_of_mem _ (List.mem_append_right _ h9)) tyX4 tyX4_ok nmX4 hown hK hP hD hS 0 rfl rfl 11 (by decide) (hts (.fieldLink RX4 29 "PalletStackModel" "lineKinds" "[I") (List.mem_of_getElem? (i := 11) (by rfl))) (fun _ h9 => h9) rfl hin rfl (by decide +kernel) rfl rfl (Nat.le_of_ble_eq_true rfl) dX4_init_53 (fun H locs hP hD hS => ?_)
  have hP : va_P D vwCl ([(mo, .inr (4, [.int 0, .int 0, .ref q_158, .int 20, .int 60, .int 2000, .int 0, .int 0, .ref q_161, .ref q_164, .int 0, .ref q_167, .null, .int 0])), (q_158, .inl (cy_159, 60, .inl (fun _ => 0))), (q_161, .inl (cy_162, 366, .inl (fun _ => 0))), (q_164, .inl (cy_165, 61, .inl (fun _ => 0))), (q_167, .inl (cy_168, 20, .inl (fun _ => 0)))]) H := hP
  have hD : va_D A ([(mo, .inr (4, [.int 0, .int 0, .ref q_158, .int 20, .int 60, .int 2000, .int 0, .int 0, .ref q_161, .ref q_164, .int 0, .ref q_167, .null, .int 0])), (q_158, .inl (cy_159, 60, .inl (fun _ => 0))), (q_161, .inl (cy_162, 366, .inl (fun _ => 0))), (q_164, .inl (cy_165, 61, .inl (fun _ => 0))), (q_167, .inl (cy_168, 20, .inl (fun _ => 0)))]) := hD
  refine lv_aload_n hx hb dX4_init_56 rfl (lv_at hl 0 rfl) ?_
  refine lv_bipush (v := 20) hx hb dX4_init_57 (by decide) ?_
  refine znewa (atype := .int) (ty := .int) (N' := 20) (a0 := (20, .inl (fun _ => 0))) hx hb (hts (.arrayClass .int) (List.mem_of_getElem? (i := 4) (by rfl))) rfl hK hP hD hS hA (fun _ => rfl) (by decide) rfl (Nat.le_of_ble_eq_true rfl) (by omega) (by omega) dX4_init_59 (fun q_170 cy_171 H hz_172 hK hP hD hS => ?_)
  have hP : va_P D vwCl ([(mo, .inr (4, [.int 0, .int 0, .ref q_158, .int 20, .int 60, .int 2000, .int 0, .int 0, .ref q_161, .ref q_164, .int 0, .ref q_167, .null, .int 0])), (q_158, .inl (cy_159, 60, .inl (fun _ => 0))), (q_161, .inl (cy_162, 366, .inl (fun _ => 0))), (q_164, .inl (cy_165, 61, .inl (fun _ => 0))), (q_167, .inl (cy_168, 20, .inl (fun _ => 0))), (q_170, .inl (cy_171, 20, .inl (fun _ => 0)))]) H := hP
  have hD : va_D A ([(mo, .inr (4, [.int 0, .int 0, .ref q_158, .int 20, .int 60, .int 2000, .int 0, .int 0, .ref q_161, .ref q_164, .int 0, .ref q_167, .null, .int 0])), (q_158, .inl (cy_159, 60, .inl (fun _ => 0))), (q_161, .inl (cy_162, 366, .inl (fun _ => 0))), (q_164, .inl (cy_165, 61, .inl (fun _ => 0))), (q_167, .inl (cy_168, 20, .inl (fun _ => 0))), (q_170, .inl (cy_171, 20, .inl (fun _ => 0)))]) := hD
  refine va_putF (D := D) (ci := 4) (v := .ref q_170) (ty := .array .int) (C := RX4) (T := TX4) (N := 14) hx hb hts (fun _ h9 => List.mem_cons_of_mem _ (List.mem_append_right _ h9)) tyX4 tyX4_ok nmX4 hown hK hP hD hS 0 rfl rfl 12 (by decide) (hts (.fieldLink RX4 32 "PalletStackModel" "lineCounts" "[I") (List.mem_of_getElem? (i := 12) (by rfl))) (fun _ h9 => h9) rfl hin rfl (by decide +kernel) rfl rfl (Nat.le_of_ble_eq_true rfl) dX4_init_61 (fun H locs hP hD hS => ?_)
  have hP : va_P D vwCl ([(mo, .inr (4, [.int 0, .int 0, .ref q_158, .int 20, .int 60, .int 2000, .int 0, .int 0, .ref q_161, .ref q_164, .int 0, .ref q_167, .ref q_170, .int 0])), (q_158, .inl (cy_159, 60, .inl (fun _ => 0))), (q_161, .inl (cy_162, 366, .inl (fun _ => 0))), (q_164, .inl (cy_165, 61, .inl (fun _ => 0))), (q_167, .inl (cy_168, 20, .inl (fun _ => 0))), (q_170, .inl (cy_171, 20, .inl (fun _ => 0)))]) H := hP
  have hD : va_D A ([(mo, .inr (4, [.int 0, .int 0, .ref q_158, .int 20, .int 60, .int 2000, .int 0, .int 0, .ref q_161, .ref q_164, .int 0, .ref q_167, .ref q_170, .int 0])), (q_158, .inl (cy_159, 60, .inl (fun _ => 0))), (q_161, .inl (cy_162, 366, .inl (fun _ => 0))), (q_164, .inl (cy_165, 61, .inl (fun _ => 0))), (q_167, .inl (cy_168, 20, .inl (fun _ => 0))), (q_170, .inl (cy_171, 20, .inl (fun _ => 0)))]) := hD
  have hP := hP.sub (ws' := [(mo, .inr (4, [.int 0, .int 0, .ref q_158, .int 20, .int 60, .int 2000, .int 0, .int 0, .ref q_161, .ref q_164, .int 0, .ref q_167, .ref q_170, .int 0])), (q_158, .inl (cy_159, 60, .inl (fun _ => 0))), (q_161, .inl (cy_162, 366, .inl (fun _ => 0))), (q_167, .inl (cy_168, 20, .inl (fun _ => 0))), (q_170, .inl (cy_171, 20, .inl (fun _ => 0)))]) [0, 1, 2, 4, 5] rfl
  have hD := hD.sub (ws' := [(mo, .inr (4, [.int 0, .int 0, .ref q_158, .int 20, .int 60, .int 2000, .int 0, .int 0, .ref q_161, .ref q_164, .int 0, .ref q_167, .ref q_170, .int 0])), (q_158, .inl (cy_159, 60, .inl (fun _ => 0))), (q_161, .inl (cy_162, 366, .inl (fun _ => 0))), (q_167, .inl (cy_168, 20, .inl (fun _ => 0))), (q_170, .inl (cy_171, 20, .inl (fun _ => 0)))]) [0, 1, 2, 4, 5] (by decide) rfl
  refine W.widen (k := 5) (n := 527) (by omega) (by omega) ?_
  exact W.vret hx hb hr (fun t ht hW => ⟨⟨(fun i => [q_158, q_161, q_164, q_167, q_170].getD i 0, fun i => [cy_159, cy_162, cy_168, cy_171].getD i 0), rfl, True.intro, ⟨Nat.zero_le _, by rw [ht]; exact hP, va_K.moved hW.alike (hK.sub (tys' := [(cy_159, .int), (cy_162, .int), (cy_168, .int), (cy_171, .int)]) [0, 1, 3, 4] rfl), hD⟩⟩, hS.F ht⟩) hS.2.2 dX4_init_64
set_option maxHeartbeats 4000000 in
set_option maxRecDepth 100000 in
theorem c_addKindM (l : Launch) (D : zG) (sz : Nat) (mo kT tb ld lK lC n : Nat) (e1 : ClassId) : Met l yX4_addKind wsX4_addKind ({ frames := 1, cells := 1, slots := 6, locals := 60 }) (zPc D [(e1, .int)] ([(mo, .inr (4, [.int 0, .int 0, .ref kT, .int 20, .int 60, .int 2000, .int 0, .int 0, .ref tb, .ref ld, .int 0, .ref lK, .ref lC, .int 0])), (kT, .inl (e1, 60, .inl (fun _ => 0)))]) sz [.ref mo, .int 1, .int 1, .int 2, .int 1, .int 0, .int 1]) (va_Qi (fun (r : Int32) (u : Nat → Int32) => r = 0 ∧ (u 0 = 1 ∧ u 1 = 1 ∧ u 2 = 2 ∧ u 3 = 1 ∧ u 4 = 0 ∧ u 5 = 1)) (zB D (va_A ([(mo, .inr (4, [.int 0, .int 0, .ref kT, .int 20, .int 60, .int 2000, .int 0, .int 0, .ref tb, .ref ld, .int 0, .ref lK, .ref lC, .int 0])), (kT, .inl (e1, 60, .inl (fun _ => 0)))]) sz) (fun _ => [(e1, .int)]) 0 (fun u => [(mo, .inr (4, [.int 0, .int 1, .ref kT, .int 20, .int 60, .int 2000, .int 0, .int 0, .ref tb, .ref ld, .int 0, .ref lK, .ref lC, .int 0])), (kT, .inl (e1, 60, .inl (u)))])) (va_A ([(mo, .inr (4, [.int 0, .int 0, .ref kT, .int 20, .int 60, .int 2000, .int 0, .int 0, .ref tb, .ref ld, .int 0, .ref lK, .ref lC, .int 0])), (kT, .inl (e1, 60, .inl (fun _ => 0)))]) sz)) 1 6 (va_A ([(mo, .inr (4, [.int 0, .int 0, .ref kT, .int 20, .int 60, .int 2000, .int 0, .int 0, .ref tb, .ref ld, .int 0, .ref lK, .ref lC, .int 0])), (kT, .inl (e1, 60, .inl (fun _ => 0)))]) sz) := by
  refine Met.ofW (cc := cX4_addKind) (maxL := 8) (ret := (some .int)) (by decide) rfl ?_
  intro p e s m args below meth c s₁ B hml hv
  obtain ⟨rfl, hsz, hP, hK, hD0⟩ := hv
  have hx := B.exec
  have hb := B.bytes
  have hr := B.returns
  have hts := atoms_spec (ws := wsX4_addKind) B.pre
  have hown : s.vm.findClass RX4 = some m.cls := findClass_of_methodNamed B.named
  have hlocks := B.notSynchronized
  subst hsz
  have hD := hD0.self (sz := s.heap.size)
  generalize hAe : va_A ([(mo, .inr (4, [.int 0, .int 0, .ref kT, .int 20, .int 60, .int 2000, .int 0, .int 0, .ref tb, .ref ld, .int 0, .ref lK, .ref lC, .int 0])), (kT, .inl (e1, 60, .inl (fun _ => 0)))]) s.heap.size = A at hD ⊢
  have hA : ∀ q : Nat, s.heap.size ≤ q → A q := fun q h => by rw [← hAe]; exact Or.inr h
  have hS : va_S A s.heap s.heap [] := va_S.rf
  have hl := lv_entry ([.ref mo, .int 1, .int 1, .int 2, .int 1, .int 0, .int 1]) (n := 8) (Nat.le_of_ble_eq_true rfl)
  rw [lg_entry_eq]
  generalize (lg_sl ([.ref mo, .int 1, .int 1, .int 2, .int 1, .int 0, .int 1]) ++ List.replicate (8 - (lg_sl ([.ref mo, .int 1, .int 1, .int 2, .int 1, .int 0, .int 1])).length) Slot.unset).toArray = ls at hl ⊢
  have hl : lv_has ls 8 [(0, .ref mo), (1, .int 1), (2, .int 1), (3, .int 2), (4, .int 1), (5, .int 0), (6, .int 1)] := hl
  have hP : va_P D vwCl ([(mo, .inr (4, [.int 0, .int 0, .ref kT, .int 20, .int 60, .int 2000, .int 0, .int 0, .ref tb, .ref ld, .int 0, .ref lK, .ref lC, .int 0])), (kT, .inl (e1, 60, .inl (fun _ => 0)))]) s.heap := hP
  generalize hRe : (headSpec _ _).room = R
  have hRf : R.frames = 1 := by rw [← hRe]; rfl
  have hRc : R.cells = 1 := by rw [← hRe]; rfl
  have hRs : R.slots = 6 := by rw [← hRe]; rfl
  have hRl : R.locals = 60 := by rw [← hRe]; rfl
  clear hRe
  refine lv_aload_n hx hb dX4_addKind_0 rfl (lv_at hl 0 rfl) ?_
  refine lv_iconst (v := 0) hx hb dX4_addKind_1 (by decide) ?_
  refine va_put (D := D) (ci := 4) (v := .int 0) (ty := .int) (C := RX4) (T := TX4) (N := 14) hx hb hts (fun _ h9 => List.mem_cons_of_mem _ (List.mem_append_right _ h9)) tyX4 tyX4_ok nmX4 hown hK hP hD hS 0 rfl rfl 0 (by decide) (hts (.fieldLink RX4 35 "PalletStackModel" "thrown" "I") (List.mem_of_getElem? (i := 1) (by rfl))) (fun _ h9 => h9) rfl (by decide +kernel) rfl rfl (Nat.le_of_ble_eq_true rfl) dX4_addKind_2 (fun H locs hP hD hS => ?_)
  have hP : va_P D vwCl ([(mo, .inr (4, [.int 0, .int 0, .ref kT, .int 20, .int 60, .int 2000, .int 0, .int 0, .ref tb, .ref ld, .int 0, .ref lK, .ref lC, .int 0])), (kT, .inl (e1, 60, .inl (fun _ => 0)))]) H := hP
  have hD : va_D A ([(mo, .inr (4, [.int 0, .int 0, .ref kT, .int 20, .int 60, .int 2000, .int 0, .int 0, .ref tb, .ref ld, .int 0, .ref lK, .ref lC, .int 0])), (kT, .inl (e1, 60, .inl (fun _ => 0)))]) := hD
  refine lv_iload_n hx hb dX4_addKind_5 rfl (lv_at hl 1 rfl) ?_
  refine lv_iconst (v := 1) hx hb dX4_addKind_6 (by decide) ?_
  refine lv_bipush (v := 6) hx hb dX4_addKind_7 (by decide) ?_
  refine zrdS (As := [.int 1, .int 1, .int 6]) (rest := []) (wc := []) ⟨hx, hb, hml, hown, hts⟩ (c_isIn l D _ 1 1 6) (va_cwS 3 hts gX4_addKind_X4_isIn rfl rfl rfl (by decide +kernel) ⟨by rw [hRf]; exact Nat.le_of_ble_eq_true rfl, by rw [hRl]; exact Nat.le_of_ble_eq_true rfl⟩) hK hP hD [] rfl (by decide) [] rfl rfl hl.1 rfl (Nat.le_of_ble_eq_true rfl) dX4_addKind_9 ⟨by omega, by omega⟩ (fun r_173 hr_173 => ?_)
  refine lv_topi (fun v_174 ev_174 => ?_)
  obtain rfl : v_174 = 1 := ev_174.trans (hr_173.trans (by decide))
  refine lv_if_eq (tgt := 69) hx hb dX4_addKind_12 (by decide) (fun c_175 => absurd c_175 (by decide)) (fun c_175 => ?_)
  refine lv_iload_n hx hb dX4_addKind_15 rfl (lv_at hl 2 rfl) ?_
  refine lv_iconst (v := 1) hx hb dX4_addKind_16 (by decide) ?_
  refine lv_bipush (v := 6) hx hb dX4_addKind_17 (by decide) ?_
  refine zrdS (As := [.int 1, .int 1, .int 6]) (rest := []) (wc := []) ⟨hx, hb, hml, hown, hts⟩ (c_isIn l D _ 1 1 6) (va_cwS 3 hts gX4_addKind_X4_isIn rfl rfl rfl (by decide +kernel) ⟨by rw [hRf]; exact Nat.le_of_ble_eq_true rfl, by rw [hRl]; exact Nat.le_of_ble_eq_true rfl⟩) hK hP hD [] rfl (by decide) [] rfl rfl hl.1 rfl (Nat.le_of_ble_eq_true rfl) dX4_addKind_19 ⟨by omega, by omega⟩ (fun r_176 hr_176 => ?_)
  refine lv_topi (fun v_177 ev_177 => ?_)
  obtain rfl : v_177 = 1 := ev_177.trans (hr_176.trans (by decide))
  refine lv_if_eq (tgt := 69) hx hb dX4_addKind_22 (by decide) (fun c_178 => absurd c_178 (by decide)) (fun c_178 => ?_)
  refine lv_iload_n hx hb dX4_addKind_25 rfl (lv_at hl 3 rfl) ?_
  refine lv_iconst (v := 1) hx hb dX4_addKind_26 (by decide) ?_
  refine lv_bipush (v := 8) hx hb dX4_addKind_27 (by decide) ?_
  refine zrdS (As := [.int 2, .int 1, .int 8]) (rest := []) (wc := []) ⟨hx, hb, hml, hown, hts⟩ (c_isIn l D _ 2 1 8) (va_cwS 3 hts gX4_addKind_X4_isIn rfl rfl rfl (by decide +kernel) ⟨by rw [hRf]; exact Nat.le_of_ble_eq_true rfl, by rw [hRl]; exact Nat.le_of_ble_eq_true rfl⟩) hK hP hD [] rfl (by decide) [] rfl rfl hl.1 rfl (Nat.le_of_ble_eq_true rfl) dX4_addKind_29 ⟨by omega, by omega⟩ (fun r_179 hr_179 => ?_)
  refine lv_topi (fun v_180 ev_180 => ?_)
  obtain rfl : v_180 = 1 := ev_180.trans (hr_179.trans (by decide))
  refine lv_if_eq (tgt := 69) hx hb dX4_addKind_32 (by decide) (fun c_181 => absurd c_181 (by decide)) (fun c_181 => ?_)
  refine lv_iload hx hb dX4_addKind_35 (lv_at hl 4 rfl) ?_
  refine lv_iconst (v := 1) hx hb dX4_addKind_37 (by decide) ?_
  refine lv_sipush (v := 500) hx hb dX4_addKind_38 (by decide) ?_
  refine zrdS (As := [.int 1, .int 1, .int 500]) (rest := []) (wc := []) ⟨hx, hb, hml, hown, hts⟩ (c_isIn l D _ 1 1 500) (va_cwS 3 hts gX4_addKind_X4_isIn rfl rfl rfl (by decide +kernel) ⟨by rw [hRf]; exact Nat.le_of_ble_eq_true rfl, by rw [hRl]; exact Nat.le_of_ble_eq_true rfl⟩) hK hP hD [] rfl (by decide) [] rfl rfl hl.1 rfl (Nat.le_of_ble_eq_true rfl) dX4_addKind_41 ⟨by omega, by omega⟩ (fun r_182 hr_182 => ?_)
  refine lv_topi (fun v_183 ev_183 => ?_)
  obtain rfl : v_183 = 1 := ev_183.trans (hr_182.trans (by decide))
  refine lv_if_eq (tgt := 69) hx hb dX4_addKind_44 (by decide) (fun c_184 => absurd c_184 (by decide)) (fun c_184 => ?_)
  refine lv_iload hx hb dX4_addKind_47 (lv_at hl 5 rfl) ?_
  refine lv_iconst (v := 0) hx hb dX4_addKind_49 (by decide) ?_
  refine lv_sipush (v := 5000) hx hb dX4_addKind_50 (by decide) ?_
  refine zrdS (As := [.int 0, .int 0, .int 5000]) (rest := []) (wc := []) ⟨hx, hb, hml, hown, hts⟩ (c_isIn l D _ 0 0 5000) (va_cwS 3 hts gX4_addKind_X4_isIn rfl rfl rfl (by decide +kernel) ⟨by rw [hRf]; exact Nat.le_of_ble_eq_true rfl, by rw [hRl]; exact Nat.le_of_ble_eq_true rfl⟩) hK hP hD [] rfl (by decide) [] rfl rfl hl.1 rfl (Nat.le_of_ble_eq_true rfl) dX4_addKind_53 ⟨by omega, by omega⟩ (fun r_185 hr_185 => ?_)
  refine lv_topi (fun v_186 ev_186 => ?_)
  obtain rfl : v_186 = 1 := ev_186.trans (hr_185.trans (by decide))
  refine lv_if_eq (tgt := 69) hx hb dX4_addKind_56 (by decide) (fun c_187 => absurd c_187 (by decide)) (fun c_187 => ?_)
  refine lv_iload hx hb dX4_addKind_59 (lv_at hl 6 rfl) ?_
  refine lv_iconst (v := 0) hx hb dX4_addKind_61 (by decide) ?_
  refine lv_iconst (v := 3) hx hb dX4_addKind_62 (by decide) ?_
  refine zrdS (As := [.int 1, .int 0, .int 3]) (rest := []) (wc := []) ⟨hx, hb, hml, hown, hts⟩ (c_isIn l D _ 1 0 3) (va_cwS 3 hts gX4_addKind_X4_isIn rfl rfl rfl (by decide +kernel) ⟨by rw [hRf]; exact Nat.le_of_ble_eq_true rfl, by rw [hRl]; exact Nat.le_of_ble_eq_true rfl⟩) hK hP hD [] rfl (by decide) [] rfl rfl hl.1 rfl (Nat.le_of_ble_eq_true rfl) dX4_addKind_63 ⟨by omega, by omega⟩ (fun r_188 hr_188 => ?_)
  refine lv_topi (fun v_189 ev_189 => ?_)
  obtain rfl : v_189 = 1 := ev_189.trans (hr_188.trans (by decide))
  refine lv_if_ne (tgt := 75) hx hb dX4_addKind_66 (by decide) (fun c_190 => ?_) (fun c_190 => absurd c_190 (by decide))
  refine lv_aload_n hx hb dX4_addKind_75 rfl (lv_at hl 0 rfl) ?_
  refine va_get (D := D) (ci := 4) (v := .int 0) (C := RX4) (T := TX4) (N := 14) hx hb hts (fun _ h9 => List.mem_cons_of_mem _ (List.mem_append_right _ h9)) hown hK hP 0 rfl rfl 1 (by decide) (hts (.fieldLink RX4 38 "PalletStackModel" "kinds" "I") (List.mem_of_getElem? (i := 2) (by rfl))) (fun _ h9 => h9) rfl dX4_addKind_76 ?_
  refine lv_bipush (v := 10) hx hb dX4_addKind_79 (by decide) ?_
  refine lv_icmp_ne (tgt := 90) hx hb dX4_addKind_81 (by decide) (fun c_191 => ?_) (fun c_191 => absurd c_191 (by decide))
  refine lv_bipush (v := 6) hx hb dX4_addKind_90 (by decide) ?_
  refine znewa (atype := .int) (ty := .int) (N' := 6) (a0 := (6, .inl (fun _ => 0))) hx hb (hts (.arrayClass .int) (List.mem_of_getElem? (i := 3) (by rfl))) rfl hK hP hD hS hA (fun _ => rfl) (by decide) rfl (Nat.le_of_ble_eq_true rfl) (by omega) (by omega) dX4_addKind_92 (fun q_192 cy_193 H hz_194 hK hP hD hS => ?_)
  have hP : va_P D vwCl ([(mo, .inr (4, [.int 0, .int 0, .ref kT, .int 20, .int 60, .int 2000, .int 0, .int 0, .ref tb, .ref ld, .int 0, .ref lK, .ref lC, .int 0])), (kT, .inl (e1, 60, .inl (fun _ => 0))), (q_192, .inl (cy_193, 6, .inl (fun _ => 0)))]) H := hP
  have hD : va_D A ([(mo, .inr (4, [.int 0, .int 0, .ref kT, .int 20, .int 60, .int 2000, .int 0, .int 0, .ref tb, .ref ld, .int 0, .ref lK, .ref lC, .int 0])), (kT, .inl (e1, 60, .inl (fun _ => 0))), (q_192, .inl (cy_193, 6, .inl (fun _ => 0)))]) := hD
  refine lv_dup hx hb dX4_addKind_94 rfl ?_
  refine lv_iconst (v := 0) hx hb dX4_addKind_95 (by decide) ?_
  refine lv_iload_n hx hb dX4_addKind_96 rfl (lv_at hl 1 rfl) ?_
  refine va_iast hx hb hK hP hD hS 2 1 rfl rfl (vp_in_nI (n := 0) (N := 6) (by decide) (by decide)) dX4_addKind_97 (fun H locs hP hD hS => ?_)
  have hP : va_P D vwCl ([(mo, .inr (4, [.int 0, .int 0, .ref kT, .int 20, .int 60, .int 2000, .int 0, .int 0, .ref tb, .ref ld, .int 0, .ref lK, .ref lC, .int 0])), (kT, .inl (e1, 60, .inl (fun _ => 0))), (q_192, .inl (cy_193, 6, .inl (upd (fun _ => 0) 0 1)))]) H := hP
  have hD : va_D A ([(mo, .inr (4, [.int 0, .int 0, .ref kT, .int 20, .int 60, .int 2000, .int 0, .int 0, .ref tb, .ref ld, .int 0, .ref lK, .ref lC, .int 0])), (kT, .inl (e1, 60, .inl (fun _ => 0))), (q_192, .inl (cy_193, 6, .inl (upd (fun _ => 0) 0 1)))]) := hD
  refine lv_dup hx hb dX4_addKind_98 rfl ?_
  refine lv_iconst (v := 1) hx hb dX4_addKind_99 (by decide) ?_
  refine lv_iload_n hx hb dX4_addKind_100 rfl (lv_at hl 2 rfl) ?_
  refine va_iast hx hb hK hP hD hS 2 1 rfl rfl (vp_in_nI (n := 1) (N := 6) (by decide) (by decide)) dX4_addKind_101 (fun H locs hP hD hS => ?_)
  have hP : va_P D vwCl ([(mo, .inr (4, [.int 0, .int 0, .ref kT, .int 20, .int 60, .int 2000, .int 0, .int 0, .ref tb, .ref ld, .int 0, .ref lK, .ref lC, .int 0])), (kT, .inl (e1, 60, .inl (fun _ => 0))), (q_192, .inl (cy_193, 6, .inl (upd (upd (fun _ => 0) 0 1) 1 1)))]) H := hP
  have hD : va_D A ([(mo, .inr (4, [.int 0, .int 0, .ref kT, .int 20, .int 60, .int 2000, .int 0, .int 0, .ref tb, .ref ld, .int 0, .ref lK, .ref lC, .int 0])), (kT, .inl (e1, 60, .inl (fun _ => 0))), (q_192, .inl (cy_193, 6, .inl (upd (upd (fun _ => 0) 0 1) 1 1)))]) := hD
  refine lv_dup hx hb dX4_addKind_102 rfl ?_
  refine lv_iconst (v := 2) hx hb dX4_addKind_103 (by decide) ?_
  refine lv_iload_n hx hb dX4_addKind_104 rfl (lv_at hl 3 rfl) ?_
  refine va_iast hx hb hK hP hD hS 2 1 rfl rfl (vp_in_nI (n := 2) (N := 6) (by decide) (by decide)) dX4_addKind_105 (fun H locs hP hD hS => ?_)
  have hP : va_P D vwCl ([(mo, .inr (4, [.int 0, .int 0, .ref kT, .int 20, .int 60, .int 2000, .int 0, .int 0, .ref tb, .ref ld, .int 0, .ref lK, .ref lC, .int 0])), (kT, .inl (e1, 60, .inl (fun _ => 0))), (q_192, .inl (cy_193, 6, .inl (upd (upd (upd (fun _ => 0) 0 1) 1 1) 2 2)))]) H := hP
  have hD : va_D A ([(mo, .inr (4, [.int 0, .int 0, .ref kT, .int 20, .int 60, .int 2000, .int 0, .int 0, .ref tb, .ref ld, .int 0, .ref lK, .ref lC, .int 0])), (kT, .inl (e1, 60, .inl (fun _ => 0))), (q_192, .inl (cy_193, 6, .inl (upd (upd (upd (fun _ => 0) 0 1) 1 1) 2 2)))]) := hD
  refine lv_dup hx hb dX4_addKind_106 rfl ?_
  refine lv_iconst (v := 3) hx hb dX4_addKind_107 (by decide) ?_
  refine lv_iload hx hb dX4_addKind_108 (lv_at hl 4 rfl) ?_
  refine va_iast hx hb hK hP hD hS 2 1 rfl rfl (vp_in_nI (n := 3) (N := 6) (by decide) (by decide)) dX4_addKind_110 (fun H locs hP hD hS => ?_)
  have hP : va_P D vwCl ([(mo, .inr (4, [.int 0, .int 0, .ref kT, .int 20, .int 60, .int 2000, .int 0, .int 0, .ref tb, .ref ld, .int 0, .ref lK, .ref lC, .int 0])), (kT, .inl (e1, 60, .inl (fun _ => 0))), (q_192, .inl (cy_193, 6, .inl (upd (upd (upd (upd (fun _ => 0) 0 1) 1 1) 2 2) 3 1)))]) H := hP
  have hD : va_D A ([(mo, .inr (4, [.int 0, .int 0, .ref kT, .int 20, .int 60, .int 2000, .int 0, .int 0, .ref tb, .ref ld, .int 0, .ref lK, .ref lC, .int 0])), (kT, .inl (e1, 60, .inl (fun _ => 0))), (q_192, .inl (cy_193, 6, .inl (upd (upd (upd (upd (fun _ => 0) 0 1) 1 1) 2 2) 3 1)))]) := hD
  refine lv_dup hx hb dX4_addKind_111 rfl ?_
  refine lv_iconst (v := 4) hx hb dX4_addKind_112 (by decide) ?_
  refine lv_iload hx hb dX4_addKind_113 (lv_at hl 5 rfl) ?_
  refine va_iast hx hb hK hP hD hS 2 1 rfl rfl (vp_in_nI (n := 4) (N := 6) (by decide) (by decide)) dX4_addKind_115 (fun H locs hP hD hS => ?_)
  have hP : va_P D vwCl ([(mo, .inr (4, [.int 0, .int 0, .ref kT, .int 20, .int 60, .int 2000, .int 0, .int 0, .ref tb, .ref ld, .int 0, .ref lK, .ref lC, .int 0])), (kT, .inl (e1, 60, .inl (fun _ => 0))), (q_192, .inl (cy_193, 6, .inl (upd (upd (upd (upd (upd (fun _ => 0) 0 1) 1 1) 2 2) 3 1) 4 0)))]) H := hP
  have hD : va_D A ([(mo, .inr (4, [.int 0, .int 0, .ref kT, .int 20, .int 60, .int 2000, .int 0, .int 0, .ref tb, .ref ld, .int 0, .ref lK, .ref lC, .int 0])), (kT, .inl (e1, 60, .inl (fun _ => 0))), (q_192, .inl (cy_193, 6, .inl (upd (upd (upd (upd (upd (fun _ => 0) 0 1) 1 1) 2 2) 3 1) 4 0)))]) := hD
  refine lv_dup hx hb dX4_addKind_116 rfl ?_
  refine lv_iconst (v := 5) hx hb dX4_addKind_117 (by decide) ?_
  refine lv_iload hx hb dX4_addKind_118 (lv_at hl 6 rfl) ?_
  refine va_iast hx hb hK hP hD hS 2 1 rfl rfl (vp_in_nI (n := 5) (N := 6) (by decide) (by decide)) dX4_addKind_120 (fun H locs hP hD hS => ?_)
  have hP : va_P D vwCl ([(mo, .inr (4, [.int 0, .int 0, .ref kT, .int 20, .int 60, .int 2000, .int 0, .int 0, .ref tb, .ref ld, .int 0, .ref lK, .ref lC, .int 0])), (kT, .inl (e1, 60, .inl (fun _ => 0))), (q_192, .inl (cy_193, 6, .inl (upd (upd (upd (upd (upd (upd (fun _ => 0) 0 1) 1 1) 2 2) 3 1) 4 0) 5 1)))]) H := hP
  have hD : va_D A ([(mo, .inr (4, [.int 0, .int 0, .ref kT, .int 20, .int 60, .int 2000, .int 0, .int 0, .ref tb, .ref ld, .int 0, .ref lK, .ref lC, .int 0])), (kT, .inl (e1, 60, .inl (fun _ => 0))), (q_192, .inl (cy_193, 6, .inl (upd (upd (upd (upd (upd (upd (fun _ => 0) 0 1) 1 1) 2 2) 3 1) 4 0) 5 1)))]) := hD
  refine lv_astore (lv' := [(7, .ref q_192), (0, .ref mo), (1, .int 1), (2, .int 1), (3, .int 2), (4, .int 1), (5, .int 0), (6, .int 1)]) hx hb dX4_addKind_121 hl (by decide) rfl (fun ls hl => ?_)
  refine lv_aload hx hb dX4_addKind_123 (lv_at hl 0 rfl) ?_
  refine lv_iconst (v := 0) hx hb dX4_addKind_125 (by decide) ?_
  refine lv_aload_n hx hb dX4_addKind_126 rfl (lv_at hl 1 rfl) ?_
  refine va_get (D := D) (ci := 4) (v := .ref kT) (C := RX4) (T := TX4) (N := 14) hx hb hts (fun _ h9 => List.mem_cons_of_mem _ (List.mem_append_right _ h9)) hown hK hP 0 rfl rfl 2 (by decide) (hts (.fieldLink RX4 9 "PalletStackModel" "kindTable" "[I") (List.mem_of_getElem? (i := 4) (by rfl))) (fun _ h9 => h9) rfl dX4_addKind_127 ?_
  refine lv_bipush (v := 6) hx hb dX4_addKind_130 (by decide) ?_
  refine lv_aload_n hx hb dX4_addKind_132 rfl (lv_at hl 1 rfl) ?_
  refine va_get (D := D) (ci := 4) (v := .int 0) (C := RX4) (T := TX4) (N := 14) hx hb hts (fun _ h9 => List.mem_cons_of_mem _ (List.mem_append_right _ h9)) hown hK hP 0 rfl rfl 1 (by decide) (hts (.fieldLink RX4 38 "PalletStackModel" "kinds" "I") (List.mem_of_getElem? (i := 2) (by rfl))) (fun _ h9 => h9) rfl dX4_addKind_133 ?_
  refine lv_imul hx hb dX4_addKind_136 ?_
  refine lv_topi (fun v_195 ev_195 => ?_)
  obtain rfl : v_195 = 0 := ev_195.trans (by decide)
  refine lv_bipush (v := 6) hx hb dX4_addKind_137 (by decide) ?_
  refine va_copyi (ty := .int) hx hb (by rw [hml]; exact hl.1.symm) hown (hts (.methodLink RX4 49 arraycopyName) (List.mem_of_getElem? (i := 5) (by rfl))) (hts (.native arraycopyName) (List.mem_of_getElem? (i := 6) (by rfl))) (hts (.static arraycopyName) (List.mem_of_getElem? (i := 7) (by rfl))) (hts (.initialized "java/lang/System") (List.mem_of_getElem? (i := 8) (by rfl))) hK hP hD hS 2 1 1 0 rfl rfl rfl rfl rfl (by decide) (by decide) (by decide) (by decide) (by decide) (fun _ _ => rfl) (by rw [hRf]; exact Nat.le_of_ble_eq_true rfl) (by rw [hRl]; exact Nat.le_of_ble_eq_true rfl) dX4_addKind_139 (fun H locs hP hD hS => ?_)
  have hP : va_P D vwCl ([(mo, .inr (4, [.int 0, .int 0, .ref kT, .int 20, .int 60, .int 2000, .int 0, .int 0, .ref tb, .ref ld, .int 0, .ref lK, .ref lC, .int 0])), (kT, .inl (e1, 60, .inl (va_cpy (upd (upd (upd (upd (upd (upd (fun _ => 0) 0 1) 1 1) 2 2) 3 1) 4 0) 5 1) (fun _ => 0) 0 0 6))), (q_192, .inl (cy_193, 6, .inl (upd (upd (upd (upd (upd (upd (fun _ => 0) 0 1) 1 1) 2 2) 3 1) 4 0) 5 1)))]) H := hP
  have hD : va_D A ([(mo, .inr (4, [.int 0, .int 0, .ref kT, .int 20, .int 60, .int 2000, .int 0, .int 0, .ref tb, .ref ld, .int 0, .ref lK, .ref lC, .int 0])), (kT, .inl (e1, 60, .inl (va_cpy (upd (upd (upd (upd (upd (upd (fun _ => 0) 0 1) 1 1) 2 2) 3 1) 4 0) 5 1) (fun _ => 0) 0 0 6))), (q_192, .inl (cy_193, 6, .inl (upd (upd (upd (upd (upd (upd (fun _ => 0) 0 1) 1 1) 2 2) 3 1) 4 0) 5 1)))]) := hD
  refine lv_aload_n hx hb dX4_addKind_142 rfl (lv_at hl 1 rfl) ?_
  refine lv_dup hx hb dX4_addKind_143 rfl ?_
  refine va_get (D := D) (ci := 4) (v := .int 0) (C := RX4) (T := TX4) (N := 14) hx hb hts (fun _ h9 => List.mem_cons_of_mem _ (List.mem_append_right _ h9)) hown hK hP 0 rfl rfl 1 (by decide) (hts (.fieldLink RX4 38 "PalletStackModel" "kinds" "I") (List.mem_of_getElem? (i := 2) (by rfl))) (fun _ h9 => h9) rfl dX4_addKind_144 ?_
  refine lv_iconst (v := 1) hx hb dX4_addKind_147 (by decide) ?_
  refine lv_iadd hx hb dX4_addKind_148 ?_
  refine lv_topi (fun v_196 ev_196 => ?_)
  obtain rfl : v_196 = 1 := ev_196.trans (by decide)
  refine va_put (D := D) (ci := 4) (v := .int 1) (ty := .int) (C := RX4) (T := TX4) (N := 14) hx hb hts (fun _ h9 => List.mem_cons_of_mem _ (List.mem_append_right _ h9)) tyX4 tyX4_ok nmX4 hown hK hP hD hS 0 rfl rfl 1 (by decide) (hts (.fieldLink RX4 38 "PalletStackModel" "kinds" "I") (List.mem_of_getElem? (i := 2) (by rfl))) (fun _ h9 => h9) rfl (by decide +kernel) rfl rfl (Nat.le_of_ble_eq_true rfl) dX4_addKind_149 (fun H locs hP hD hS => ?_)
  have hP : va_P D vwCl ([(mo, .inr (4, [.int 0, .int 1, .ref kT, .int 20, .int 60, .int 2000, .int 0, .int 0, .ref tb, .ref ld, .int 0, .ref lK, .ref lC, .int 0])), (kT, .inl (e1, 60, .inl (va_cpy (upd (upd (upd (upd (upd (upd (fun _ => 0) 0 1) 1 1) 2 2) 3 1) 4 0) 5 1) (fun _ => 0) 0 0 6))), (q_192, .inl (cy_193, 6, .inl (upd (upd (upd (upd (upd (upd (fun _ => 0) 0 1) 1 1) 2 2) 3 1) 4 0) 5 1)))]) H := hP
  have hD : va_D A ([(mo, .inr (4, [.int 0, .int 1, .ref kT, .int 20, .int 60, .int 2000, .int 0, .int 0, .ref tb, .ref ld, .int 0, .ref lK, .ref lC, .int 0])), (kT, .inl (e1, 60, .inl (va_cpy (upd (upd (upd (upd (upd (upd (fun _ => 0) 0 1) 1 1) 2 2) 3 1) 4 0) 5 1) (fun _ => 0) 0 0 6))), (q_192, .inl (cy_193, 6, .inl (upd (upd (upd (upd (upd (upd (fun _ => 0) 0 1) 1 1) 2 2) 3 1) 4 0) 5 1)))]) := hD
  refine lv_aload_n hx hb dX4_addKind_152 rfl (lv_at hl 1 rfl) ?_
  refine va_get (D := D) (ci := 4) (v := .int 1) (C := RX4) (T := TX4) (N := 14) hx hb hts (fun _ h9 => List.mem_cons_of_mem _ (List.mem_append_right _ h9)) hown hK hP 0 rfl rfl 1 (by decide) (hts (.fieldLink RX4 38 "PalletStackModel" "kinds" "I") (List.mem_of_getElem? (i := 2) (by rfl))) (fun _ h9 => h9) rfl dX4_addKind_153 ?_
  refine lv_iconst (v := 1) hx hb dX4_addKind_156 (by decide) ?_
  refine lv_isub hx hb dX4_addKind_157 ?_
  refine lv_topi (fun v_197 ev_197 => ?_)
  obtain rfl : v_197 = 0 := ev_197.trans (by decide)
  have hP := hP.sub (ws' := [(mo, .inr (4, [.int 0, .int 1, .ref kT, .int 20, .int 60, .int 2000, .int 0, .int 0, .ref tb, .ref ld, .int 0, .ref lK, .ref lC, .int 0])), (kT, .inl (e1, 60, .inl (va_cpy (upd (upd (upd (upd (upd (upd (fun _ => 0) 0 1) 1 1) 2 2) 3 1) 4 0) 5 1) (fun _ => 0) 0 0 6)))]) [0, 1] rfl
  have hD := hD.sub (ws' := [(mo, .inr (4, [.int 0, .int 1, .ref kT, .int 20, .int 60, .int 2000, .int 0, .int 0, .ref tb, .ref ld, .int 0, .ref lK, .ref lC, .int 0])), (kT, .inl (e1, 60, .inl (va_cpy (upd (upd (upd (upd (upd (upd (fun _ => 0) 0 1) 1 1) 2 2) 3 1) 4 0) 5 1) (fun _ => 0) 0 0 6)))]) [0, 1] (by decide) rfl
  refine W.widen (k := 1) (n := 6) (by omega) (by omega) ?_
  exact W.iret (v := 0) hx hb hr (fun t ht hW => ⟨⟨0, (va_cpy (upd (upd (upd (upd (upd (upd (fun _ => 0) 0 1) 1 1) 2 2) 3 1) 4 0) 5 1) (fun _ => 0) 0 0 6), rfl, ⟨rfl, rfl, rfl, rfl, rfl, rfl, rfl⟩, ⟨Nat.zero_le _, by rw [ht]; exact hP, va_K.moved hW.alike (hK.sub (tys' := [(e1, .int)]) [0] rfl), hD⟩⟩, hS.F ht⟩) hS.2.2 dX4_addKind_158
set_option maxHeartbeats 4000000 in
set_option maxRecDepth 100000 in
theorem c_setRulesM (l : Launch) (D : zG) (sz : Nat) (mo kT tb ld lK lC n : Nat) : Met l yX4_setRules wsX4_setRules ({ frames := 1, cells := 0, slots := 0, locals := 30 }) (zPc D [] ([(mo, .inr (4, [.int 0, .int 1, .ref kT, .int 20, .int 60, .int 2000, .int 0, .int 0, .ref tb, .ref ld, .int 0, .ref lK, .ref lC, .int 0]))]) sz [.ref mo, .int 1, .int 0, .int 1, .int 0]) (va_Qi (fun (r : Int32) (u : Unit) => r = 20) (zB D (va_A ([(mo, .inr (4, [.int 0, .int 1, .ref kT, .int 20, .int 60, .int 2000, .int 0, .int 0, .ref tb, .ref ld, .int 0, .ref lK, .ref lC, .int 0]))]) sz) (fun _ => []) 0 (fun _ => [(mo, .inr (4, [.int 0, .int 1, .ref kT, .int 1, .int 0, .int 1, .int 0, .int 0, .ref tb, .ref ld, .int 0, .ref lK, .ref lC, .int 0]))])) (va_A ([(mo, .inr (4, [.int 0, .int 1, .ref kT, .int 20, .int 60, .int 2000, .int 0, .int 0, .ref tb, .ref ld, .int 0, .ref lK, .ref lC, .int 0]))]) sz)) 0 0 (va_A ([(mo, .inr (4, [.int 0, .int 1, .ref kT, .int 20, .int 60, .int 2000, .int 0, .int 0, .ref tb, .ref ld, .int 0, .ref lK, .ref lC, .int 0]))]) sz) := by
  refine Met.ofW (cc := cX4_setRules) (maxL := 6) (ret := (some .int)) (by decide) rfl ?_
  intro p e s m args below meth c s₁ B hml hv
  obtain ⟨rfl, hsz, hP, hK, hD0⟩ := hv
  have hx := B.exec
  have hb := B.bytes
  have hr := B.returns
  have hts := atoms_spec (ws := wsX4_setRules) B.pre
  have hown : s.vm.findClass RX4 = some m.cls := findClass_of_methodNamed B.named
  have hlocks := B.notSynchronized
  subst hsz
  have hD := hD0.self (sz := s.heap.size)
  generalize hAe : va_A ([(mo, .inr (4, [.int 0, .int 1, .ref kT, .int 20, .int 60, .int 2000, .int 0, .int 0, .ref tb, .ref ld, .int 0, .ref lK, .ref lC, .int 0]))]) s.heap.size = A at hD ⊢
  have hA : ∀ q : Nat, s.heap.size ≤ q → A q := fun q h => by rw [← hAe]; exact Or.inr h
  have hS : va_S A s.heap s.heap [] := va_S.rf
  have hl := lv_entry ([.ref mo, .int 1, .int 0, .int 1, .int 0]) (n := 6) (Nat.le_of_ble_eq_true rfl)
  rw [lg_entry_eq]
  generalize (lg_sl ([.ref mo, .int 1, .int 0, .int 1, .int 0]) ++ List.replicate (6 - (lg_sl ([.ref mo, .int 1, .int 0, .int 1, .int 0])).length) Slot.unset).toArray = ls at hl ⊢
  have hl : lv_has ls 6 [(0, .ref mo), (1, .int 1), (2, .int 0), (3, .int 1), (4, .int 0)] := hl
  have hP : va_P D vwCl ([(mo, .inr (4, [.int 0, .int 1, .ref kT, .int 20, .int 60, .int 2000, .int 0, .int 0, .ref tb, .ref ld, .int 0, .ref lK, .ref lC, .int 0]))]) s.heap := hP
  generalize hRe : (headSpec _ _).room = R
  have hRf : R.frames = 1 := by rw [← hRe]; rfl
  have hRc : R.cells = 0 := by rw [← hRe]; rfl
  have hRs : R.slots = 0 := by rw [← hRe]; rfl
  have hRl : R.locals = 30 := by rw [← hRe]; rfl
  clear hRe
  refine lv_aload_n hx hb dX4_setRules_0 rfl (lv_at hl 0 rfl) ?_
  refine lv_iconst (v := 0) hx hb dX4_setRules_1 (by decide) ?_
  refine va_put (D := D) (ci := 4) (v := .int 0) (ty := .int) (C := RX4) (T := TX4) (N := 14) hx hb hts (fun _ h9 => List.mem_cons_of_mem _ (List.mem_append_right _ h9)) tyX4 tyX4_ok nmX4 hown hK hP hD hS 0 rfl rfl 0 (by decide) (hts (.fieldLink RX4 35 "PalletStackModel" "thrown" "I") (List.mem_of_getElem? (i := 1) (by rfl))) (fun _ h9 => h9) rfl (by decide +kernel) rfl rfl (Nat.le_of_ble_eq_true rfl) dX4_setRules_2 (fun H locs hP hD hS => ?_)
  have hP : va_P D vwCl ([(mo, .inr (4, [.int 0, .int 1, .ref kT, .int 20, .int 60, .int 2000, .int 0, .int 0, .ref tb, .ref ld, .int 0, .ref lK, .ref lC, .int 0]))]) H := hP
  have hD : va_D A ([(mo, .inr (4, [.int 0, .int 1, .ref kT, .int 20, .int 60, .int 2000, .int 0, .int 0, .ref tb, .ref ld, .int 0, .ref lK, .ref lC, .int 0]))]) := hD
  refine lv_iload_n hx hb dX4_setRules_5 rfl (lv_at hl 1 rfl) ?_
  refine lv_iconst (v := 1) hx hb dX4_setRules_6 (by decide) ?_
  refine lv_bipush (v := 40) hx hb dX4_setRules_7 (by decide) ?_
  refine zrdS (As := [.int 1, .int 1, .int 40]) (rest := []) (wc := []) ⟨hx, hb, hml, hown, hts⟩ (c_isIn l D _ 1 1 40) (va_cwS 3 hts gX4_setRules_X4_isIn rfl rfl rfl (by decide +kernel) ⟨by rw [hRf]; exact Nat.le_of_ble_eq_true rfl, by rw [hRl]; exact Nat.le_of_ble_eq_true rfl⟩) hK hP hD [] rfl (by decide) [] rfl rfl hl.1 rfl (Nat.le_of_ble_eq_true rfl) dX4_setRules_9 ⟨by omega, by omega⟩ (fun r_198 hr_198 => ?_)
  refine lv_topi (fun v_199 ev_199 => ?_)
  obtain rfl : v_199 = 1 := ev_199.trans (hr_198.trans (by decide))
  refine lv_if_eq (tgt := 36) hx hb dX4_setRules_12 (by decide) (fun c_200 => absurd c_200 (by decide)) (fun c_200 => ?_)
  refine lv_iload_n hx hb dX4_setRules_15 rfl (lv_at hl 2 rfl) ?_
  refine lv_iconst (v := 0) hx hb dX4_setRules_16 (by decide) ?_
  refine lv_bipush (v := 100) hx hb dX4_setRules_17 (by decide) ?_
  refine zrdS (As := [.int 0, .int 0, .int 100]) (rest := []) (wc := []) ⟨hx, hb, hml, hown, hts⟩ (c_isIn l D _ 0 0 100) (va_cwS 3 hts gX4_setRules_X4_isIn rfl rfl rfl (by decide +kernel) ⟨by rw [hRf]; exact Nat.le_of_ble_eq_true rfl, by rw [hRl]; exact Nat.le_of_ble_eq_true rfl⟩) hK hP hD [] rfl (by decide) [] rfl rfl hl.1 rfl (Nat.le_of_ble_eq_true rfl) dX4_setRules_19 ⟨by omega, by omega⟩ (fun r_201 hr_201 => ?_)
  refine lv_topi (fun v_202 ev_202 => ?_)
  obtain rfl : v_202 = 1 := ev_202.trans (hr_201.trans (by decide))
  refine lv_if_eq (tgt := 36) hx hb dX4_setRules_22 (by decide) (fun c_203 => absurd c_203 (by decide)) (fun c_203 => ?_)
  refine lv_iload_n hx hb dX4_setRules_25 rfl (lv_at hl 3 rfl) ?_
  refine lv_iconst (v := 1) hx hb dX4_setRules_26 (by decide) ?_
  refine lv_sipush (v := 20000) hx hb dX4_setRules_27 (by decide) ?_
  refine zrdS (As := [.int 1, .int 1, .int 20000]) (rest := []) (wc := []) ⟨hx, hb, hml, hown, hts⟩ (c_isIn l D _ 1 1 20000) (va_cwS 3 hts gX4_setRules_X4_isIn rfl rfl rfl (by decide +kernel) ⟨by rw [hRf]; exact Nat.le_of_ble_eq_true rfl, by rw [hRl]; exact Nat.le_of_ble_eq_true rfl⟩) hK hP hD [] rfl (by decide) [] rfl rfl hl.1 rfl (Nat.le_of_ble_eq_true rfl) dX4_setRules_30 ⟨by omega, by omega⟩ (fun r_204 hr_204 => ?_)
  refine lv_topi (fun v_205 ev_205 => ?_)
  obtain rfl : v_205 = 1 := ev_205.trans (hr_204.trans (by decide))
  refine lv_if_ne (tgt := 42) hx hb dX4_setRules_33 (by decide) (fun c_206 => ?_) (fun c_206 => absurd c_206 (by decide))
  refine lv_aload_n hx hb dX4_setRules_42 rfl (lv_at hl 0 rfl) ?_
  refine va_get (D := D) (ci := 4) (v := .int 20) (C := RX4) (T := TX4) (N := 14) hx hb hts (fun _ h9 => List.mem_cons_of_mem _ (List.mem_append_right _ h9)) hown hK hP 0 rfl rfl 3 (by decide) (hts (.fieldLink RX4 13 "PalletStackModel" "highest" "I") (List.mem_of_getElem? (i := 2) (by rfl))) (fun _ h9 => h9) rfl dX4_setRules_43 ?_
  refine lv_istore (lv' := [(5, .int 20), (0, .ref mo), (1, .int 1), (2, .int 0), (3, .int 1), (4, .int 0)]) hx hb dX4_setRules_46 hl (by decide) rfl (fun ls hl => ?_)
  refine lv_aload_n hx hb dX4_setRules_48 rfl (lv_at hl 1 rfl) ?_
  refine lv_iload_n hx hb dX4_setRules_49 rfl (lv_at hl 2 rfl) ?_
  refine va_put (D := D) (ci := 4) (v := .int 1) (ty := .int) (C := RX4) (T := TX4) (N := 14) hx hb hts (fun _ h9 => List.mem_cons_of_mem _ (List.mem_append_right _ h9)) tyX4 tyX4_ok nmX4 hown hK hP hD hS 0 rfl rfl 3 (by decide) (hts (.fieldLink RX4 13 "PalletStackModel" "highest" "I") (List.mem_of_getElem? (i := 2) (by rfl))) (fun _ h9 => h9) rfl (by decide +kernel) rfl rfl (Nat.le_of_ble_eq_true rfl) dX4_setRules_50 (fun H locs hP hD hS => ?_)
  have hP : va_P D vwCl ([(mo, .inr (4, [.int 0, .int 1, .ref kT, .int 1, .int 60, .int 2000, .int 0, .int 0, .ref tb, .ref ld, .int 0, .ref lK, .ref lC, .int 0]))]) H := hP
  have hD : va_D A ([(mo, .inr (4, [.int 0, .int 1, .ref kT, .int 1, .int 60, .int 2000, .int 0, .int 0, .ref tb, .ref ld, .int 0, .ref lK, .ref lC, .int 0]))]) := hD
  refine lv_aload_n hx hb dX4_setRules_53 rfl (lv_at hl 1 rfl) ?_
  refine lv_iload_n hx hb dX4_setRules_54 rfl (lv_at hl 3 rfl) ?_
  refine va_put (D := D) (ci := 4) (v := .int 0) (ty := .int) (C := RX4) (T := TX4) (N := 14) hx hb hts (fun _ h9 => List.mem_cons_of_mem _ (List.mem_append_right _ h9)) tyX4 tyX4_ok nmX4 hown hK hP hD hS 0 rfl rfl 4 (by decide) (hts (.fieldLink RX4 17 "PalletStackModel" "support" "I") (List.mem_of_getElem? (i := 3) (by rfl))) (fun _ h9 => h9) rfl (by decide +kernel) rfl rfl (Nat.le_of_ble_eq_true rfl) dX4_setRules_55 (fun H locs hP hD hS => ?_)
  have hP : va_P D vwCl ([(mo, .inr (4, [.int 0, .int 1, .ref kT, .int 1, .int 0, .int 2000, .int 0, .int 0, .ref tb, .ref ld, .int 0, .ref lK, .ref lC, .int 0]))]) H := hP
  have hD : va_D A ([(mo, .inr (4, [.int 0, .int 1, .ref kT, .int 1, .int 0, .int 2000, .int 0, .int 0, .ref tb, .ref ld, .int 0, .ref lK, .ref lC, .int 0]))]) := hD
  refine lv_aload_n hx hb dX4_setRules_58 rfl (lv_at hl 1 rfl) ?_
  refine lv_iload_n hx hb dX4_setRules_59 rfl (lv_at hl 4 rfl) ?_
  refine va_put (D := D) (ci := 4) (v := .int 1) (ty := .int) (C := RX4) (T := TX4) (N := 14) hx hb hts (fun _ h9 => List.mem_cons_of_mem _ (List.mem_append_right _ h9)) tyX4 tyX4_ok nmX4 hown hK hP hD hS 0 rfl rfl 5 (by decide) (hts (.fieldLink RX4 20 "PalletStackModel" "limit" "I") (List.mem_of_getElem? (i := 4) (by rfl))) (fun _ h9 => h9) rfl (by decide +kernel) rfl rfl (Nat.le_of_ble_eq_true rfl) dX4_setRules_60 (fun H locs hP hD hS => ?_)
  have hP : va_P D vwCl ([(mo, .inr (4, [.int 0, .int 1, .ref kT, .int 1, .int 0, .int 1, .int 0, .int 0, .ref tb, .ref ld, .int 0, .ref lK, .ref lC, .int 0]))]) H := hP
  have hD : va_D A ([(mo, .inr (4, [.int 0, .int 1, .ref kT, .int 1, .int 0, .int 1, .int 0, .int 0, .ref tb, .ref ld, .int 0, .ref lK, .ref lC, .int 0]))]) := hD
  refine lv_aload_n hx hb dX4_setRules_63 rfl (lv_at hl 1 rfl) ?_
  refine lv_iload hx hb dX4_setRules_64 (lv_at hl 5 rfl) ?_
  refine va_put (D := D) (ci := 4) (v := .int 0) (ty := .boolean) (C := RX4) (T := TX4) (N := 14) hx hb hts (fun _ h9 => List.mem_cons_of_mem _ (List.mem_append_right _ h9)) tyX4 tyX4_ok nmX4 hown hK hP hD hS 0 rfl rfl 6 (by decide) (hts (.fieldLink RX4 55 "PalletStackModel" "areCorners" "Z") (List.mem_of_getElem? (i := 5) (by rfl))) (fun _ h9 => h9) rfl (by decide +kernel) rfl rfl (Nat.le_of_ble_eq_true rfl) dX4_setRules_66 (fun H locs hP hD hS => ?_)
  have hP : va_P D vwCl ([(mo, .inr (4, [.int 0, .int 1, .ref kT, .int 1, .int 0, .int 1, .int 0, .int 0, .ref tb, .ref ld, .int 0, .ref lK, .ref lC, .int 0]))]) H := hP
  have hD : va_D A ([(mo, .inr (4, [.int 0, .int 1, .ref kT, .int 1, .int 0, .int 1, .int 0, .int 0, .ref tb, .ref ld, .int 0, .ref lK, .ref lC, .int 0]))]) := hD
  refine lv_iload hx hb dX4_setRules_69 (lv_at hl 0 rfl) ?_
  exact W.iret (v := 20) hx hb hr (fun t ht hW => ⟨⟨20, (), rfl, rfl, ⟨Nat.zero_le _, by rw [ht]; exact hP, va_K.moved hW.alike (hK.sub (tys' := []) [] rfl), hD⟩⟩, hS.F ht⟩) hS.2.2 dX4_setRules_71
set_option maxHeartbeats 4000000 in
set_option maxRecDepth 100000 in
theorem c_thrown (l : Launch) (D : zG) (sz : Nat) (mo : Nat) (fs : List Value) (hfs : fs[0]? = some (.int 0)) : Met l yX4_thrown wsX4_thrown ({ frames := 0, cells := 0, slots := 0, locals := 0 }) (zPc D [] ([(mo, .inr (4, fs))]) sz [.ref mo]) (vp_Si (fun r => r = 0)) 0 0 (fun _ => False) := by
  refine Met.ofW (cc := cX4_thrown) (maxL := 1) (ret := (some .int)) (by decide) rfl ?_
  intro p e s m args below meth c s₁ B hml hv
  obtain ⟨rfl, hsz, hP, hK, hD0⟩ := hv
  have hx := B.exec
  have hb := B.bytes
  have hr := B.returns
  have hts := atoms_spec (ws := wsX4_thrown) B.pre
  have hown : s.vm.findClass RX4 = some m.cls := findClass_of_methodNamed B.named
  have hlocks := B.notSynchronized
  subst hsz
  have hD := hD0
  generalize hAe : (fun _ : Nat => True) = A at hD
  have hl := lv_entry ([.ref mo]) (n := 1) (Nat.le_of_ble_eq_true rfl)
  rw [lg_entry_eq]
  generalize (lg_sl ([.ref mo]) ++ List.replicate (1 - (lg_sl ([.ref mo])).length) Slot.unset).toArray = ls at hl ⊢
  have hl : lv_has ls 1 [(0, .ref mo)] := hl
  have hP : va_P D vwCl ([(mo, .inr (4, fs))]) s.heap := hP
  generalize hRe : (headSpec _ _).room = R
  have hRf : R.frames = 0 := by rw [← hRe]; rfl
  have hRc : R.cells = 0 := by rw [← hRe]; rfl
  have hRs : R.slots = 0 := by rw [← hRe]; rfl
  have hRl : R.locals = 0 := by rw [← hRe]; rfl
  clear hRe
  refine lv_aload_n hx hb dX4_thrown_0 rfl (lv_at hl 0 rfl) ?_
  refine va_get (D := D) (ci := 4) (v := .int 0) (C := RX4) (T := TX4) (N := 14) hx hb hts (fun _ h9 => List.mem_cons_of_mem _ (List.mem_append_right _ h9)) hown hK hP 0 rfl rfl 0 (by decide) (hts (.fieldLink RX4 35 "PalletStackModel" "thrown" "I") (List.mem_of_getElem? (i := 1) (by rfl))) (fun _ h9 => h9) hfs dX4_thrown_1 ?_
  exact W.iret (v := 0) hx hb hr (fun t ht hW => ⟨0, rfl, rfl, ht⟩) (fun _ h => by cases h) dX4_thrown_4
set_option maxHeartbeats 4000000 in
set_option maxRecDepth 100000 in
theorem c_isKind (l : Launch) (D : zG) (sz : Nat) (mo kT tb ld lK lC n : Nat) : Met l yX4_isKind wsX4_isKind ({ frames := 1, cells := 0, slots := 0, locals := 25 }) (zPc D [] ([(mo, .inr (4, [.int 0, .int 1, .ref kT, .int 1, .int 0, .int 1, .int 0, .int 0, .ref tb, .ref ld, .int (nI n), .ref lK, .ref lC, .int 0]))]) sz [.ref mo, .int 0]) (vp_Si (fun r => r = 1)) 0 0 (fun _ => False) := by
  refine Met.ofW (cc := cX4_isKind) (maxL := 2) (ret := (some .boolean)) (by decide) rfl ?_
  intro p e s m args below meth c s₁ B hml hv
  obtain ⟨rfl, hsz, hP, hK, hD0⟩ := hv
  have hx := B.exec
  have hb := B.bytes
  have hr := B.returns
  have hts := atoms_spec (ws := wsX4_isKind) B.pre
  have hown : s.vm.findClass RX4 = some m.cls := findClass_of_methodNamed B.named
  have hlocks := B.notSynchronized
  subst hsz
  have hD := hD0
  generalize hAe : (fun _ : Nat => True) = A at hD
  have hl := lv_entry ([.ref mo, .int 0]) (n := 2) (Nat.le_of_ble_eq_true rfl)
  rw [lg_entry_eq]
  generalize (lg_sl ([.ref mo, .int 0]) ++ List.replicate (2 - (lg_sl ([.ref mo, .int 0])).length) Slot.unset).toArray = ls at hl ⊢
  have hl : lv_has ls 2 [(0, .ref mo), (1, .int 0)] := hl
  have hP : va_P D vwCl ([(mo, .inr (4, [.int 0, .int 1, .ref kT, .int 1, .int 0, .int 1, .int 0, .int 0, .ref tb, .ref ld, .int (nI n), .ref lK, .ref lC, .int 0]))]) s.heap := hP
  generalize hRe : (headSpec _ _).room = R
  have hRf : R.frames = 1 := by rw [← hRe]; rfl
  have hRc : R.cells = 0 := by rw [← hRe]; rfl
  have hRs : R.slots = 0 := by rw [← hRe]; rfl
  have hRl : R.locals = 25 := by rw [← hRe]; rfl
  clear hRe
  refine lv_iload_n hx hb dX4_isKind_0 rfl (lv_at hl 1 rfl) ?_
  refine lv_iconst (v := 0) hx hb dX4_isKind_1 (by decide) ?_
  refine lv_aload_n hx hb dX4_isKind_2 rfl (lv_at hl 0 rfl) ?_
  refine va_get (D := D) (ci := 4) (v := .int 1) (C := RX4) (T := TX4) (N := 14) hx hb hts (fun _ h9 => List.mem_cons_of_mem _ (List.mem_append_right _ h9)) hown hK hP 0 rfl rfl 1 (by decide) (hts (.fieldLink RX4 38 "PalletStackModel" "kinds" "I") (List.mem_of_getElem? (i := 1) (by rfl))) (fun _ h9 => h9) rfl dX4_isKind_3 ?_
  refine lv_iconst (v := 1) hx hb dX4_isKind_6 (by decide) ?_
  refine lv_isub hx hb dX4_isKind_7 ?_
  refine lv_topi (fun v_207 ev_207 => ?_)
  obtain rfl : v_207 = 0 := ev_207.trans (by decide)
  refine zrdS (As := [.int 0, .int 0, .int 0]) (rest := []) (wc := []) ⟨hx, hb, hml, hown, hts⟩ (c_isIn l D _ 0 0 0) (va_cwS 3 hts gX4_isKind_X4_isIn rfl rfl rfl (by decide +kernel) ⟨by rw [hRf]; exact Nat.le_of_ble_eq_true rfl, by rw [hRl]; exact Nat.le_of_ble_eq_true rfl⟩) hK hP hD [] rfl (by decide) [] rfl rfl hl.1 rfl (Nat.le_of_ble_eq_true rfl) dX4_isKind_8 ⟨by omega, by omega⟩ (fun r_208 hr_208 => ?_)
  refine lv_topi (fun v_209 ev_209 => ?_)
  obtain rfl : v_209 = 1 := ev_209.trans (hr_208.trans (by decide))
  exact W.zret (ty := .boolean) (v := 1) hx hb hr rfl (fun t ht hW => ⟨1, rfl, rfl, ht⟩) (fun _ h => by cases h) dX4_isKind_11
set_option maxHeartbeats 4000000 in
set_option maxRecDepth 100000 in
theorem c_addLineM (l : Launch) (D : zG) (sz : Nat) (mo kT tb ld lK lC n : Nat) (e3 e4 : ClassId) (hk hc : Nat → Int32) (hhk : ∀ i, i < n → hk i = 0) (hhc : ∀ i, i < n → hc i = 1) (hn : n < 20) : Met l yX4_addLine wsX4_addLine ({ frames := 2, cells := 0, slots := 0, locals := 50 }) (zPc D [(e3, .int), (e4, .int)] ([(mo, .inr (4, [.int 0, .int 1, .ref kT, .int 1, .int 0, .int 1, .int 0, .int 0, .ref tb, .ref ld, .int (nI n), .ref lK, .ref lC, .int 0])), (lK, .inl (e3, 20, .inl (hk))), (lC, .inl (e4, 20, .inl (hc)))]) sz [.ref mo, .int 0, .int 1]) (va_Qi (fun (r : Int32) (u : (Nat → Int32) × (Nat → Int32)) => r = nI n ∧ (∀ i, i < n + 1 → u.1 i = 0) ∧ (∀ i, i < n + 1 → u.2 i = 1)) (zB D (va_A ([(mo, .inr (4, [.int 0, .int 1, .ref kT, .int 1, .int 0, .int 1, .int 0, .int 0, .ref tb, .ref ld, .int (nI n), .ref lK, .ref lC, .int 0])), (lK, .inl (e3, 20, .inl (hk))), (lC, .inl (e4, 20, .inl (hc)))]) sz) (fun _ => [(e3, .int), (e4, .int)]) 0 (fun u => [(mo, .inr (4, [.int 0, .int 1, .ref kT, .int 1, .int 0, .int 1, .int 0, .int 0, .ref tb, .ref ld, .int (nI (n + 1)), .ref lK, .ref lC, .int 0])), (lK, .inl (e3, 20, .inl (u.1))), (lC, .inl (e4, 20, .inl (u.2)))])) (va_A ([(mo, .inr (4, [.int 0, .int 1, .ref kT, .int 1, .int 0, .int 1, .int 0, .int 0, .ref tb, .ref ld, .int (nI n), .ref lK, .ref lC, .int 0])), (lK, .inl (e3, 20, .inl (hk))), (lC, .inl (e4, 20, .inl (hc)))]) sz)) 0 0 (va_A ([(mo, .inr (4, [.int 0, .int 1, .ref kT, .int 1, .int 0, .int 1, .int 0, .int 0, .ref tb, .ref ld, .int (nI n), .ref lK, .ref lC, .int 0])), (lK, .inl (e3, 20, .inl (hk))), (lC, .inl (e4, 20, .inl (hc)))]) sz) := by
  refine Met.ofW (cc := cX4_addLine) (maxL := 3) (ret := (some .int)) (by decide) rfl ?_
  intro p e s m args below meth c s₁ B hml hv
  obtain ⟨rfl, hsz, hP, hK, hD0⟩ := hv
  have hx := B.exec
  have hb := B.bytes
  have hr := B.returns
  have hts := atoms_spec (ws := wsX4_addLine) B.pre
  have hown : s.vm.findClass RX4 = some m.cls := findClass_of_methodNamed B.named
  have hlocks := B.notSynchronized
  subst hsz
  have hD := hD0.self (sz := s.heap.size)
  generalize hAe : va_A ([(mo, .inr (4, [.int 0, .int 1, .ref kT, .int 1, .int 0, .int 1, .int 0, .int 0, .ref tb, .ref ld, .int (nI n), .ref lK, .ref lC, .int 0])), (lK, .inl (e3, 20, .inl (hk))), (lC, .inl (e4, 20, .inl (hc)))]) s.heap.size = A at hD ⊢
  have hA : ∀ q : Nat, s.heap.size ≤ q → A q := fun q h => by rw [← hAe]; exact Or.inr h
  have hS : va_S A s.heap s.heap [] := va_S.rf
  have hl := lv_entry ([.ref mo, .int 0, .int 1]) (n := 3) (Nat.le_of_ble_eq_true rfl)
  rw [lg_entry_eq]
  generalize (lg_sl ([.ref mo, .int 0, .int 1]) ++ List.replicate (3 - (lg_sl ([.ref mo, .int 0, .int 1])).length) Slot.unset).toArray = ls at hl ⊢
  have hl : lv_has ls 3 [(0, .ref mo), (1, .int 0), (2, .int 1)] := hl
  have hP : va_P D vwCl ([(mo, .inr (4, [.int 0, .int 1, .ref kT, .int 1, .int 0, .int 1, .int 0, .int 0, .ref tb, .ref ld, .int (nI n), .ref lK, .ref lC, .int 0])), (lK, .inl (e3, 20, .inl (hk))), (lC, .inl (e4, 20, .inl (hc)))]) s.heap := hP
  generalize hRe : (headSpec _ _).room = R
  have hRf : R.frames = 2 := by rw [← hRe]; rfl
  have hRc : R.cells = 0 := by rw [← hRe]; rfl
  have hRs : R.slots = 0 := by rw [← hRe]; rfl
  have hRl : R.locals = 50 := by rw [← hRe]; rfl
  clear hRe
  refine lv_aload_n hx hb dX4_addLine_0 rfl (lv_at hl 0 rfl) ?_
  refine lv_iconst (v := 0) hx hb dX4_addLine_1 (by decide) ?_
  refine va_put (D := D) (ci := 4) (v := .int 0) (ty := .int) (C := RX4) (T := TX4) (N := 14) hx hb hts (fun _ h9 => List.mem_cons_of_mem _ (List.mem_append_right _ h9)) tyX4 tyX4_ok nmX4 hown hK hP hD hS 0 rfl rfl 0 (by decide) (hts (.fieldLink RX4 35 "PalletStackModel" "thrown" "I") (List.mem_of_getElem? (i := 1) (by rfl))) (fun _ h9 => h9) rfl (by decide +kernel) rfl rfl (Nat.le_of_ble_eq_true rfl) dX4_addLine_2 (fun H locs hP hD hS => ?_)
  have hP : va_P D vwCl ([(mo, .inr (4, [.int 0, .int 1, .ref kT, .int 1, .int 0, .int 1, .int 0, .int 0, .ref tb, .ref ld, .int (nI n), .ref lK, .ref lC, .int 0])), (lK, .inl (e3, 20, .inl (hk))), (lC, .inl (e4, 20, .inl (hc)))]) H := hP
  have hD : va_D A ([(mo, .inr (4, [.int 0, .int 1, .ref kT, .int 1, .int 0, .int 1, .int 0, .int 0, .ref tb, .ref ld, .int (nI n), .ref lK, .ref lC, .int 0])), (lK, .inl (e3, 20, .inl (hk))), (lC, .inl (e4, 20, .inl (hc)))]) := hD
  refine lv_aload_n hx hb dX4_addLine_5 rfl (lv_at hl 0 rfl) ?_
  refine lv_iload_n hx hb dX4_addLine_6 rfl (lv_at hl 1 rfl) ?_
  refine zrdV (As := [.int 0]) (rest := []) (wc := [(mo, .inr (4, [.int 0, .int 1, .ref kT, .int 1, .int 0, .int 1, .int 0, .int 0, .ref tb, .ref ld, .int (nI n), .ref lK, .ref lC, .int 0]))]) ⟨hx, hb, hml, hown, hts⟩ (c_isKind l D _ mo kT tb ld lK lC n) (cwV 1 hts gX4_addLine_X4_isKind rfl rfl rfl (by decide +kernel) ⟨by rw [hRf]; exact Nat.le_of_ble_eq_true rfl, by rw [hRl]; exact Nat.le_of_ble_eq_true rfl⟩) hK hP hD [0] rfl (by decide) [] rfl (ci := 4) (q0 := 0) rfl rfl rfl hl.1 rfl (Nat.le_of_ble_eq_true rfl) dX4_addLine_7 ⟨by omega, by omega⟩ (fun r_210 hr_210 => ?_)
  refine lv_topi (fun v_211 ev_211 => ?_)
  obtain rfl : v_211 = 1 := ev_211.trans hr_210
  refine lv_if_ne (tgt := 19) hx hb dX4_addLine_10 (by decide) (fun c_212 => ?_) (fun c_212 => absurd c_212 (by decide))
  refine lv_iload_n hx hb dX4_addLine_19 rfl (lv_at hl 2 rfl) ?_
  refine lv_iconst (v := 1) hx hb dX4_addLine_20 (by decide) ?_
  refine lv_bipush (v := 20) hx hb dX4_addLine_21 (by decide) ?_
  refine zrdS (As := [.int 1, .int 1, .int 20]) (rest := []) (wc := []) ⟨hx, hb, hml, hown, hts⟩ (c_isIn l D _ 1 1 20) (va_cwS 3 hts gX4_addLine_X4_isIn rfl rfl rfl (by decide +kernel) ⟨by rw [hRf]; exact Nat.le_of_ble_eq_true rfl, by rw [hRl]; exact Nat.le_of_ble_eq_true rfl⟩) hK hP hD [] rfl (by decide) [] rfl rfl hl.1 rfl (Nat.le_of_ble_eq_true rfl) dX4_addLine_23 ⟨by omega, by omega⟩ (fun r_213 hr_213 => ?_)
  refine lv_topi (fun v_214 ev_214 => ?_)
  obtain rfl : v_214 = 1 := ev_214.trans (hr_213.trans (by decide))
  refine lv_if_ne (tgt := 35) hx hb dX4_addLine_26 (by decide) (fun c_215 => ?_) (fun c_215 => absurd c_215 (by decide))
  refine lv_aload_n hx hb dX4_addLine_35 rfl (lv_at hl 0 rfl) ?_
  refine va_get (D := D) (ci := 4) (v := .int (nI n)) (C := RX4) (T := TX4) (N := 14) hx hb hts (fun _ h9 => List.mem_cons_of_mem _ (List.mem_append_right _ h9)) hown hK hP 0 rfl rfl 10 (by decide) (hts (.fieldLink RX4 70 "PalletStackModel" "lines" "I") (List.mem_of_getElem? (i := 2) (by rfl))) (fun _ h9 => h9) rfl dX4_addLine_36 ?_
  refine lv_bipush (v := 20) hx hb dX4_addLine_39 (by decide) ?_
  refine lv_icmp_ne (tgt := 50) hx hb dX4_addLine_41 (by decide) (fun c_216 => ?_) (fun c_216 => absurd c_216 (fun h => absurd (congrArg Int32.toInt h) (by rw [nI_toInt (by omega)]; simp; omega)))
  refine lv_aload_n hx hb dX4_addLine_50 rfl (lv_at hl 0 rfl) ?_
  refine va_get (D := D) (ci := 4) (v := .ref lK) (C := RX4) (T := TX4) (N := 14) hx hb hts (fun _ h9 => List.mem_cons_of_mem _ (List.mem_append_right _ h9)) hown hK hP 0 rfl rfl 11 (by decide) (hts (.fieldLink RX4 29 "PalletStackModel" "lineKinds" "[I") (List.mem_of_getElem? (i := 3) (by rfl))) (fun _ h9 => h9) rfl dX4_addLine_51 ?_
  refine lv_aload_n hx hb dX4_addLine_54 rfl (lv_at hl 0 rfl) ?_
  refine va_get (D := D) (ci := 4) (v := .int (nI n)) (C := RX4) (T := TX4) (N := 14) hx hb hts (fun _ h9 => List.mem_cons_of_mem _ (List.mem_append_right _ h9)) hown hK hP 0 rfl rfl 10 (by decide) (hts (.fieldLink RX4 70 "PalletStackModel" "lines" "I") (List.mem_of_getElem? (i := 2) (by rfl))) (fun _ h9 => h9) rfl dX4_addLine_55 ?_
  refine lv_iload_n hx hb dX4_addLine_58 rfl (lv_at hl 1 rfl) ?_
  refine va_iast hx hb hK hP hD hS 1 0 rfl rfl (vp_in_nI (N := 20) (by omega) (by decide)) dX4_addLine_59 (fun H locs hP hD hS => ?_)
  rw [nI_clamp (by omega)] at hP hD
  have hP : va_P D vwCl ([(mo, .inr (4, [.int 0, .int 1, .ref kT, .int 1, .int 0, .int 1, .int 0, .int 0, .ref tb, .ref ld, .int (nI n), .ref lK, .ref lC, .int 0])), (lK, .inl (e3, 20, .inl (upd hk n 0))), (lC, .inl (e4, 20, .inl (hc)))]) H := hP
  have hD : va_D A ([(mo, .inr (4, [.int 0, .int 1, .ref kT, .int 1, .int 0, .int 1, .int 0, .int 0, .ref tb, .ref ld, .int (nI n), .ref lK, .ref lC, .int 0])), (lK, .inl (e3, 20, .inl (upd hk n 0))), (lC, .inl (e4, 20, .inl (hc)))]) := hD
  refine lv_aload_n hx hb dX4_addLine_60 rfl (lv_at hl 0 rfl) ?_
  refine va_get (D := D) (ci := 4) (v := .ref lC) (C := RX4) (T := TX4) (N := 14) hx hb hts (fun _ h9 => List.mem_cons_of_mem _ (List.mem_append_right _ h9)) hown hK hP 0 rfl rfl 12 (by decide) (hts (.fieldLink RX4 32 "PalletStackModel" "lineCounts" "[I") (List.mem_of_getElem? (i := 4) (by rfl))) (fun _ h9 => h9) rfl dX4_addLine_61 ?_
  refine lv_aload_n hx hb dX4_addLine_64 rfl (lv_at hl 0 rfl) ?_
  refine va_get (D := D) (ci := 4) (v := .int (nI n)) (C := RX4) (T := TX4) (N := 14) hx hb hts (fun _ h9 => List.mem_cons_of_mem _ (List.mem_append_right _ h9)) hown hK hP 0 rfl rfl 10 (by decide) (hts (.fieldLink RX4 70 "PalletStackModel" "lines" "I") (List.mem_of_getElem? (i := 2) (by rfl))) (fun _ h9 => h9) rfl dX4_addLine_65 ?_
  refine lv_iload_n hx hb dX4_addLine_68 rfl (lv_at hl 2 rfl) ?_
  refine va_iast hx hb hK hP hD hS 2 1 rfl rfl (vp_in_nI (N := 20) (by omega) (by decide)) dX4_addLine_69 (fun H locs hP hD hS => ?_)
  rw [nI_clamp (by omega)] at hP hD
  have hP : va_P D vwCl ([(mo, .inr (4, [.int 0, .int 1, .ref kT, .int 1, .int 0, .int 1, .int 0, .int 0, .ref tb, .ref ld, .int (nI n), .ref lK, .ref lC, .int 0])), (lK, .inl (e3, 20, .inl (upd hk n 0))), (lC, .inl (e4, 20, .inl (upd hc n 1)))]) H := hP
  have hD : va_D A ([(mo, .inr (4, [.int 0, .int 1, .ref kT, .int 1, .int 0, .int 1, .int 0, .int 0, .ref tb, .ref ld, .int (nI n), .ref lK, .ref lC, .int 0])), (lK, .inl (e3, 20, .inl (upd hk n 0))), (lC, .inl (e4, 20, .inl (upd hc n 1)))]) := hD
  refine lv_aload_n hx hb dX4_addLine_70 rfl (lv_at hl 0 rfl) ?_
  refine lv_dup hx hb dX4_addLine_71 rfl ?_
  refine va_get (D := D) (ci := 4) (v := .int (nI n)) (C := RX4) (T := TX4) (N := 14) hx hb hts (fun _ h9 => List.mem_cons_of_mem _ (List.mem_append_right _ h9)) hown hK hP 0 rfl rfl 10 (by decide) (hts (.fieldLink RX4 70 "PalletStackModel" "lines" "I") (List.mem_of_getElem? (i := 2) (by rfl))) (fun _ h9 => h9) rfl dX4_addLine_72 ?_
  refine lv_iconst (v := 1) hx hb dX4_addLine_75 (by decide) ?_
  refine lv_iadd hx hb dX4_addLine_76 ?_
  refine lv_topi (fun v_217 ev_217 => ?_)
  obtain rfl : v_217 = (nI (n + 1)) := ev_217.trans (nI_1 n)
  refine va_put (D := D) (ci := 4) (v := .int (nI (n + 1))) (ty := .int) (C := RX4) (T := TX4) (N := 14) hx hb hts (fun _ h9 => List.mem_cons_of_mem _ (List.mem_append_right _ h9)) tyX4 tyX4_ok nmX4 hown hK hP hD hS 0 rfl rfl 10 (by decide) (hts (.fieldLink RX4 70 "PalletStackModel" "lines" "I") (List.mem_of_getElem? (i := 2) (by rfl))) (fun _ h9 => h9) rfl (by decide +kernel) rfl rfl (Nat.le_of_ble_eq_true rfl) dX4_addLine_77 (fun H locs hP hD hS => ?_)
  have hP : va_P D vwCl ([(mo, .inr (4, [.int 0, .int 1, .ref kT, .int 1, .int 0, .int 1, .int 0, .int 0, .ref tb, .ref ld, .int (nI (n + 1)), .ref lK, .ref lC, .int 0])), (lK, .inl (e3, 20, .inl (upd hk n 0))), (lC, .inl (e4, 20, .inl (upd hc n 1)))]) H := hP
  have hD : va_D A ([(mo, .inr (4, [.int 0, .int 1, .ref kT, .int 1, .int 0, .int 1, .int 0, .int 0, .ref tb, .ref ld, .int (nI (n + 1)), .ref lK, .ref lC, .int 0])), (lK, .inl (e3, 20, .inl (upd hk n 0))), (lC, .inl (e4, 20, .inl (upd hc n 1)))]) := hD
  refine lv_aload_n hx hb dX4_addLine_80 rfl (lv_at hl 0 rfl) ?_
  refine va_get (D := D) (ci := 4) (v := .int (nI (n + 1))) (C := RX4) (T := TX4) (N := 14) hx hb hts (fun _ h9 => List.mem_cons_of_mem _ (List.mem_append_right _ h9)) hown hK hP 0 rfl rfl 10 (by decide) (hts (.fieldLink RX4 70 "PalletStackModel" "lines" "I") (List.mem_of_getElem? (i := 2) (by rfl))) (fun _ h9 => h9) rfl dX4_addLine_81 ?_
  refine lv_iconst (v := 1) hx hb dX4_addLine_84 (by decide) ?_
  refine lv_isub hx hb dX4_addLine_85 ?_
  refine lv_topi (fun v_218 ev_218 => ?_)
  obtain rfl : v_218 = (nI n) := ev_218.trans (nI_pred n)
  exact W.iret (v := (nI n)) hx hb hr (fun t ht hW => ⟨⟨(nI n), (upd hk n 0, upd hc n 1), rfl, ⟨rfl, fun i hi => by simp only [upd]; exact if h : i = n then if_pos h else (if_neg h).trans (hhk i (by omega)), fun i hi => by simp only [upd]; exact if h : i = n then if_pos h else (if_neg h).trans (hhc i (by omega))⟩, ⟨Nat.zero_le _, by rw [ht]; exact hP, va_K.moved hW.alike (hK.sub (tys' := [(e3, .int), (e4, .int)]) [0, 1] rfl), hD⟩⟩, hS.F ht⟩) hS.2.2 dX4_addLine_86
end
