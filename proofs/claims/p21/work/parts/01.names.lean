-- ===== PART A: goes FIRST, ahead of the names: the tables' words, and 'selects' of the private methods out of them =====
/-- a private method of a class that the tables say can be made, by its rows of tables_1 -/
def lw_okq (q : MethodName × Nat) : Prop := (q.1.cls ≠ "java/lang/invoke/MethodHandle" ∧ q.1.cls ≠ "java/lang/invoke/VarHandle") ∧ Cond.instantiable q.1.cls q.2 ∈ tables_1 ∧ Cond.privateMethod q.1 ∈ tables_1 ∧ Cond.instanceMethod q.1 ∈ tables_1
theorem lw_p0 : lw_okq (⟨"PalletStack", "lineOf", "(I)LPalletStack$Line;"⟩, 14) := ⟨⟨by decide +kernel, by decide +kernel⟩, List.mem_of_getElem? (i := 15) (by decide +kernel), List.mem_of_getElem? (i := 154) (by decide +kernel), List.mem_of_getElem? (i := 155) (by decide +kernel)⟩
theorem lw_p1 : lw_okq (⟨"PalletStack", "nextLine", "()LPalletStack$Line;"⟩, 14) := ⟨⟨by decide +kernel, by decide +kernel⟩, List.mem_of_getElem? (i := 15) (by decide +kernel), List.mem_of_getElem? (i := 161) (by decide +kernel), List.mem_of_getElem? (i := 162) (by decide +kernel)⟩
theorem lw_p2 : lw_okq (⟨"PalletStack", "putAtBest", "(LPalletStack$Kind;)Z"⟩, 14) := ⟨⟨by decide +kernel, by decide +kernel⟩, List.mem_of_getElem? (i := 15) (by decide +kernel), List.mem_of_getElem? (i := 169) (by decide +kernel), List.mem_of_getElem? (i := 170) (by decide +kernel)⟩
theorem lw_p3 : lw_okq (⟨"PalletStack", "bestPlace", "(LPalletStack$Kind;)I"⟩, 14) := ⟨⟨by decide +kernel, by decide +kernel⟩, List.mem_of_getElem? (i := 15) (by decide +kernel), List.mem_of_getElem? (i := 173) (by decide +kernel), List.mem_of_getElem? (i := 174) (by decide +kernel)⟩
theorem lw_p4 : lw_okq (⟨"PalletStack", "letDown", "(LPalletStack$Kind;IIZ)V"⟩, 14) := ⟨⟨by decide +kernel, by decide +kernel⟩, List.mem_of_getElem? (i := 15) (by decide +kernel), List.mem_of_getElem? (i := 189) (by decide +kernel), List.mem_of_getElem? (i := 190) (by decide +kernel)⟩
theorem lw_p5 : lw_okq (⟨"PalletStack", "topOf", "(II)I"⟩, 14) := ⟨⟨by decide +kernel, by decide +kernel⟩, List.mem_of_getElem? (i := 15) (by decide +kernel), List.mem_of_getElem? (i := 197) (by decide +kernel), List.mem_of_getElem? (i := 198) (by decide +kernel)⟩
theorem lw_p6 : lw_okq (⟨"PalletStack", "brokenRule", "(LPalletStack$Kind;)I"⟩, 14) := ⟨⟨by decide +kernel, by decide +kernel⟩, List.mem_of_getElem? (i := 15) (by decide +kernel), List.mem_of_getElem? (i := 201) (by decide +kernel), List.mem_of_getElem? (i := 202) (by decide +kernel)⟩
theorem lw_p7 : lw_okq (⟨"PalletStack", "hasGroundAtCorners", "()Z"⟩, 14) := ⟨⟨by decide +kernel, by decide +kernel⟩, List.mem_of_getElem? (i := 15) (by decide +kernel), List.mem_of_getElem? (i := 209) (by decide +kernel), List.mem_of_getElem? (i := 210) (by decide +kernel)⟩
theorem lw_p8 : lw_okq (⟨"PalletStack", "isGround", "(II)Z"⟩, 14) := ⟨⟨by decide +kernel, by decide +kernel⟩, List.mem_of_getElem? (i := 15) (by decide +kernel), List.mem_of_getElem? (i := 213) (by decide +kernel), List.mem_of_getElem? (i := 214) (by decide +kernel)⟩
theorem lw_p9 : lw_okq (⟨"PalletStack", "findSupports", "()V"⟩, 14) := ⟨⟨by decide +kernel, by decide +kernel⟩, List.mem_of_getElem? (i := 15) (by decide +kernel), List.mem_of_getElem? (i := 217) (by decide +kernel), List.mem_of_getElem? (i := 218) (by decide +kernel)⟩
theorem lw_p10 : lw_okq (⟨"PalletStack", "itemOf", "(I)LPalletStack$Item;"⟩, 14) := ⟨⟨by decide +kernel, by decide +kernel⟩, List.mem_of_getElem? (i := 15) (by decide +kernel), List.mem_of_getElem? (i := 221) (by decide +kernel), List.mem_of_getElem? (i := 222) (by decide +kernel)⟩
theorem lw_p11 : lw_okq (⟨"PalletStack", "isTooMuchLoad", "()Z"⟩, 14) := ⟨⟨by decide +kernel, by decide +kernel⟩, List.mem_of_getElem? (i := 15) (by decide +kernel), List.mem_of_getElem? (i := 239) (by decide +kernel), List.mem_of_getElem? (i := 240) (by decide +kernel)⟩
theorem lw_p12 : lw_okq (⟨"PalletStack", "forgetNextLoads", "()V"⟩, 14) := ⟨⟨by decide +kernel, by decide +kernel⟩, List.mem_of_getElem? (i := 15) (by decide +kernel), List.mem_of_getElem? (i := 243) (by decide +kernel), List.mem_of_getElem? (i := 244) (by decide +kernel)⟩
theorem lw_p13 : lw_okq (⟨"PalletStack", "putTrial", "()V"⟩, 14) := ⟨⟨by decide +kernel, by decide +kernel⟩, List.mem_of_getElem? (i := 15) (by decide +kernel), List.mem_of_getElem? (i := 251) (by decide +kernel), List.mem_of_getElem? (i := 252) (by decide +kernel)⟩
theorem lw_p14 : lw_okq (⟨"PalletStack", "layTop", "(LPalletStack$Item;)V"⟩, 14) := ⟨⟨by decide +kernel, by decide +kernel⟩, List.mem_of_getElem? (i := 15) (by decide +kernel), List.mem_of_getElem? (i := 255) (by decide +kernel), List.mem_of_getElem? (i := 256) (by decide +kernel)⟩
theorem lw_p15 : lw_okq (⟨"PalletStack", "settleLoads", "()V"⟩, 14) := ⟨⟨by decide +kernel, by decide +kernel⟩, List.mem_of_getElem? (i := 15) (by decide +kernel), List.mem_of_getElem? (i := 262) (by decide +kernel), List.mem_of_getElem? (i := 263) (by decide +kernel)⟩
def lw_privs_1 : List (MethodName × Nat) := [(⟨"PalletStack", "lineOf", "(I)LPalletStack$Line;"⟩, 14), (⟨"PalletStack", "nextLine", "()LPalletStack$Line;"⟩, 14), (⟨"PalletStack", "putAtBest", "(LPalletStack$Kind;)Z"⟩, 14), (⟨"PalletStack", "bestPlace", "(LPalletStack$Kind;)I"⟩, 14), (⟨"PalletStack", "letDown", "(LPalletStack$Kind;IIZ)V"⟩, 14), (⟨"PalletStack", "topOf", "(II)I"⟩, 14), (⟨"PalletStack", "brokenRule", "(LPalletStack$Kind;)I"⟩, 14), (⟨"PalletStack", "hasGroundAtCorners", "()Z"⟩, 14), (⟨"PalletStack", "isGround", "(II)Z"⟩, 14), (⟨"PalletStack", "findSupports", "()V"⟩, 14), (⟨"PalletStack", "itemOf", "(I)LPalletStack$Item;"⟩, 14), (⟨"PalletStack", "isTooMuchLoad", "()Z"⟩, 14), (⟨"PalletStack", "forgetNextLoads", "()V"⟩, 14), (⟨"PalletStack", "putTrial", "()V"⟩, 14), (⟨"PalletStack", "layTop", "(LPalletStack$Item;)V"⟩, 14), (⟨"PalletStack", "settleLoads", "()V"⟩, 14)]
theorem lw_r1 : ∀ q ∈ lw_privs_1, lw_okq q := List.forall_mem_cons.mpr ⟨lw_p0, List.forall_mem_cons.mpr ⟨lw_p1, List.forall_mem_cons.mpr ⟨lw_p2, List.forall_mem_cons.mpr ⟨lw_p3, List.forall_mem_cons.mpr ⟨lw_p4, List.forall_mem_cons.mpr ⟨lw_p5, List.forall_mem_cons.mpr ⟨lw_p6, List.forall_mem_cons.mpr ⟨lw_p7, List.forall_mem_cons.mpr ⟨lw_p8, List.forall_mem_cons.mpr ⟨lw_p9, List.forall_mem_cons.mpr ⟨lw_p10, List.forall_mem_cons.mpr ⟨lw_p11, List.forall_mem_cons.mpr ⟨lw_p12, List.forall_mem_cons.mpr ⟨lw_p13, List.forall_mem_cons.mpr ⟨lw_p14, List.forall_mem_cons.mpr ⟨lw_p15, fun _ h => absurd h List.not_mem_nil⟩⟩⟩⟩⟩⟩⟩⟩⟩⟩⟩⟩⟩⟩⟩⟩
theorem lw_p16 : lw_okq (⟨"PalletStack", "layAllTops", "()V"⟩, 14) := ⟨⟨by decide +kernel, by decide +kernel⟩, List.mem_of_getElem? (i := 15) (by decide +kernel), List.mem_of_getElem? (i := 270) (by decide +kernel), List.mem_of_getElem? (i := 271) (by decide +kernel)⟩
theorem lw_p17 : lw_okq (⟨"PalletStack", "greatestTop", "()I"⟩, 14) := ⟨⟨by decide +kernel, by decide +kernel⟩, List.mem_of_getElem? (i := 15) (by decide +kernel), List.mem_of_getElem? (i := 282) (by decide +kernel), List.mem_of_getElem? (i := 283) (by decide +kernel)⟩
theorem lw_p18 : lw_okq (⟨"PalletStack", "countOf", "(I)I"⟩, 14) := ⟨⟨by decide +kernel, by decide +kernel⟩, List.mem_of_getElem? (i := 15) (by decide +kernel), List.mem_of_getElem? (i := 292) (by decide +kernel), List.mem_of_getElem? (i := 293) (by decide +kernel)⟩
theorem lw_p19 : lw_okq (⟨"PalletStack", "withFacts", "(JLPalletStack$Item;)J"⟩, 14) := ⟨⟨by decide +kernel, by decide +kernel⟩, List.mem_of_getElem? (i := 15) (by decide +kernel), List.mem_of_getElem? (i := 296) (by decide +kernel), List.mem_of_getElem? (i := 297) (by decide +kernel)⟩
theorem lw_p20 : lw_okq (⟨"PalletStack", "factOf", "(LPalletStack$Item;I)I"⟩, 14) := ⟨⟨by decide +kernel, by decide +kernel⟩, List.mem_of_getElem? (i := 15) (by decide +kernel), List.mem_of_getElem? (i := 300) (by decide +kernel), List.mem_of_getElem? (i := 301) (by decide +kernel)⟩
theorem lw_p21 : lw_okq (⟨"PalletStack", "standingOn", "(LPalletStack$Item;)I"⟩, 14) := ⟨⟨by decide +kernel, by decide +kernel⟩, List.mem_of_getElem? (i := 15) (by decide +kernel), List.mem_of_getElem? (i := 304) (by decide +kernel), List.mem_of_getElem? (i := 305) (by decide +kernel)⟩
theorem lw_p22 : lw_okq (⟨"PalletStack", "sumOf", "(I)I"⟩, 14) := ⟨⟨by decide +kernel, by decide +kernel⟩, List.mem_of_getElem? (i := 15) (by decide +kernel), List.mem_of_getElem? (i := 313) (by decide +kernel), List.mem_of_getElem? (i := 314) (by decide +kernel)⟩
theorem lw_p23 : lw_okq (⟨"PalletStack", "greatestLoad", "()I"⟩, 14) := ⟨⟨by decide +kernel, by decide +kernel⟩, List.mem_of_getElem? (i := 15) (by decide +kernel), List.mem_of_getElem? (i := 317) (by decide +kernel), List.mem_of_getElem? (i := 318) (by decide +kernel)⟩
theorem lw_p24 : lw_okq (⟨"PalletStack", "coveredDeck", "()I"⟩, 14) := ⟨⟨by decide +kernel, by decide +kernel⟩, List.mem_of_getElem? (i := 15) (by decide +kernel), List.mem_of_getElem? (i := 321) (by decide +kernel), List.mem_of_getElem? (i := 322) (by decide +kernel)⟩
theorem lw_p25 : lw_okq (⟨"java/lang/Throwable", "fillInStackTrace", "(I)Ljava/lang/Throwable;"⟩, 6) := ⟨⟨by decide +kernel, by decide +kernel⟩, List.mem_of_getElem? (i := 372) (by decide +kernel), List.mem_of_getElem? (i := 370) (by decide +kernel), List.mem_of_getElem? (i := 371) (by decide +kernel)⟩
theorem lw_p26 : lw_okq (⟨"PalletStack", "kindOf", "(I)LPalletStack$Kind;"⟩, 14) := ⟨⟨by decide +kernel, by decide +kernel⟩, List.mem_of_getElem? (i := 15) (by decide +kernel), List.mem_of_getElem? (i := 490) (by decide +kernel), List.mem_of_getElem? (i := 491) (by decide +kernel)⟩
theorem lw_p27 : lw_okq (⟨"PalletStack", "firstReason", "(LPalletStack$Kind;IIZ)I"⟩, 14) := ⟨⟨by decide +kernel, by decide +kernel⟩, List.mem_of_getElem? (i := 15) (by decide +kernel), List.mem_of_getElem? (i := 494) (by decide +kernel), List.mem_of_getElem? (i := 495) (by decide +kernel)⟩
theorem lw_p28 : lw_okq (⟨"PalletStack", "isCarriedBy", "(LPalletStack$Item;LPalletStack$Item;)Z"⟩, 14) := ⟨⟨by decide +kernel, by decide +kernel⟩, List.mem_of_getElem? (i := 15) (by decide +kernel), List.mem_of_getElem? (i := 544) (by decide +kernel), List.mem_of_getElem? (i := 545) (by decide +kernel)⟩
theorem lw_p29 : lw_okq (⟨"PalletStackModel", "fail", "(I)I"⟩, 14) := ⟨⟨by decide +kernel, by decide +kernel⟩, List.mem_of_getElem? (i := 605) (by decide +kernel), List.mem_of_getElem? (i := 661) (by decide +kernel), List.mem_of_getElem? (i := 662) (by decide +kernel)⟩
theorem lw_p30 : lw_okq (⟨"PalletStackModel", "counted", "(I)I"⟩, 14) := ⟨⟨by decide +kernel, by decide +kernel⟩, List.mem_of_getElem? (i := 605) (by decide +kernel), List.mem_of_getElem? (i := 676) (by decide +kernel), List.mem_of_getElem? (i := 677) (by decide +kernel)⟩
theorem lw_p31 : lw_okq (⟨"PalletStackModel", "present", "()I"⟩, 14) := ⟨⟨by decide +kernel, by decide +kernel⟩, List.mem_of_getElem? (i := 605) (by decide +kernel), List.mem_of_getElem? (i := 680) (by decide +kernel), List.mem_of_getElem? (i := 681) (by decide +kernel)⟩
def lw_privs_2 : List (MethodName × Nat) := [(⟨"PalletStack", "layAllTops", "()V"⟩, 14), (⟨"PalletStack", "greatestTop", "()I"⟩, 14), (⟨"PalletStack", "countOf", "(I)I"⟩, 14), (⟨"PalletStack", "withFacts", "(JLPalletStack$Item;)J"⟩, 14), (⟨"PalletStack", "factOf", "(LPalletStack$Item;I)I"⟩, 14), (⟨"PalletStack", "standingOn", "(LPalletStack$Item;)I"⟩, 14), (⟨"PalletStack", "sumOf", "(I)I"⟩, 14), (⟨"PalletStack", "greatestLoad", "()I"⟩, 14), (⟨"PalletStack", "coveredDeck", "()I"⟩, 14), (⟨"java/lang/Throwable", "fillInStackTrace", "(I)Ljava/lang/Throwable;"⟩, 6), (⟨"PalletStack", "kindOf", "(I)LPalletStack$Kind;"⟩, 14), (⟨"PalletStack", "firstReason", "(LPalletStack$Kind;IIZ)I"⟩, 14), (⟨"PalletStack", "isCarriedBy", "(LPalletStack$Item;LPalletStack$Item;)Z"⟩, 14), (⟨"PalletStackModel", "fail", "(I)I"⟩, 14), (⟨"PalletStackModel", "counted", "(I)I"⟩, 14), (⟨"PalletStackModel", "present", "()I"⟩, 14)]
theorem lw_r2 : ∀ q ∈ lw_privs_2, lw_okq q := List.forall_mem_cons.mpr ⟨lw_p16, List.forall_mem_cons.mpr ⟨lw_p17, List.forall_mem_cons.mpr ⟨lw_p18, List.forall_mem_cons.mpr ⟨lw_p19, List.forall_mem_cons.mpr ⟨lw_p20, List.forall_mem_cons.mpr ⟨lw_p21, List.forall_mem_cons.mpr ⟨lw_p22, List.forall_mem_cons.mpr ⟨lw_p23, List.forall_mem_cons.mpr ⟨lw_p24, List.forall_mem_cons.mpr ⟨lw_p25, List.forall_mem_cons.mpr ⟨lw_p26, List.forall_mem_cons.mpr ⟨lw_p27, List.forall_mem_cons.mpr ⟨lw_p28, List.forall_mem_cons.mpr ⟨lw_p29, List.forall_mem_cons.mpr ⟨lw_p30, List.forall_mem_cons.mpr ⟨lw_p31, fun _ h => absurd h List.not_mem_nil⟩⟩⟩⟩⟩⟩⟩⟩⟩⟩⟩⟩⟩⟩⟩⟩
theorem lw_p32 : lw_okq (⟨"PalletStackModel", "isHere", "(I)Z"⟩, 14) := ⟨⟨by decide +kernel, by decide +kernel⟩, List.mem_of_getElem? (i := 605) (by decide +kernel), List.mem_of_getElem? (i := 684) (by decide +kernel), List.mem_of_getElem? (i := 685) (by decide +kernel)⟩
theorem lw_p33 : lw_okq (⟨"PalletStackModel", "isKind", "(I)Z"⟩, 14) := ⟨⟨by decide +kernel, by decide +kernel⟩, List.mem_of_getElem? (i := 605) (by decide +kernel), List.mem_of_getElem? (i := 692) (by decide +kernel), List.mem_of_getElem? (i := 693) (by decide +kernel)⟩
theorem lw_p34 : lw_okq (⟨"PalletStackModel", "why", "(IIIZ)I"⟩, 14) := ⟨⟨by decide +kernel, by decide +kernel⟩, List.mem_of_getElem? (i := 605) (by decide +kernel), List.mem_of_getElem? (i := 696) (by decide +kernel), List.mem_of_getElem? (i := 697) (by decide +kernel)⟩
theorem lw_p35 : lw_okq (⟨"PalletStackModel", "kind", "(II)I"⟩, 14) := ⟨⟨by decide +kernel, by decide +kernel⟩, List.mem_of_getElem? (i := 605) (by decide +kernel), List.mem_of_getElem? (i := 700) (by decide +kernel), List.mem_of_getElem? (i := 701) (by decide +kernel)⟩
theorem lw_p36 : lw_okq (⟨"PalletStackModel", "lay", "(IIIIZ)V"⟩, 14) := ⟨⟨by decide +kernel, by decide +kernel⟩, List.mem_of_getElem? (i := 605) (by decide +kernel), List.mem_of_getElem? (i := 707) (by decide +kernel), List.mem_of_getElem? (i := 708) (by decide +kernel)⟩
theorem lw_p37 : lw_okq (⟨"PalletStackModel", "common", "(II)I"⟩, 14) := ⟨⟨by decide +kernel, by decide +kernel⟩, List.mem_of_getElem? (i := 605) (by decide +kernel), List.mem_of_getElem? (i := 711) (by decide +kernel), List.mem_of_getElem? (i := 712) (by decide +kernel)⟩
theorem lw_p38 : lw_okq (⟨"PalletStackModel", "get", "(II)I"⟩, 14) := ⟨⟨by decide +kernel, by decide +kernel⟩, List.mem_of_getElem? (i := 605) (by decide +kernel), List.mem_of_getElem? (i := 715) (by decide +kernel), List.mem_of_getElem? (i := 716) (by decide +kernel)⟩
theorem lw_p39 : lw_okq (⟨"PalletStackModel", "wide", "(I)I"⟩, 14) := ⟨⟨by decide +kernel, by decide +kernel⟩, List.mem_of_getElem? (i := 605) (by decide +kernel), List.mem_of_getElem? (i := 719) (by decide +kernel), List.mem_of_getElem? (i := 720) (by decide +kernel)⟩
theorem lw_p40 : lw_okq (⟨"PalletStackModel", "deep", "(I)I"⟩, 14) := ⟨⟨by decide +kernel, by decide +kernel⟩, List.mem_of_getElem? (i := 605) (by decide +kernel), List.mem_of_getElem? (i := 728) (by decide +kernel), List.mem_of_getElem? (i := 729) (by decide +kernel)⟩
theorem lw_p41 : lw_okq (⟨"PalletStackModel", "topOf", "(I)I"⟩, 14) := ⟨⟨by decide +kernel, by decide +kernel⟩, List.mem_of_getElem? (i := 605) (by decide +kernel), List.mem_of_getElem? (i := 732) (by decide +kernel), List.mem_of_getElem? (i := 733) (by decide +kernel)⟩
theorem lw_p42 : lw_okq (⟨"PalletStackModel", "ground", "(I)I"⟩, 14) := ⟨⟨by decide +kernel, by decide +kernel⟩, List.mem_of_getElem? (i := 605) (by decide +kernel), List.mem_of_getElem? (i := 739) (by decide +kernel), List.mem_of_getElem? (i := 740) (by decide +kernel)⟩
theorem lw_p43 : lw_okq (⟨"PalletStackModel", "cells", "(I)I"⟩, 14) := ⟨⟨by decide +kernel, by decide +kernel⟩, List.mem_of_getElem? (i := 605) (by decide +kernel), List.mem_of_getElem? (i := 743) (by decide +kernel), List.mem_of_getElem? (i := 744) (by decide +kernel)⟩
theorem lw_p44 : lw_okq (⟨"PalletStackModel", "standsOn", "(II)Z"⟩, 14) := ⟨⟨by decide +kernel, by decide +kernel⟩, List.mem_of_getElem? (i := 605) (by decide +kernel), List.mem_of_getElem? (i := 747) (by decide +kernel), List.mem_of_getElem? (i := 748) (by decide +kernel)⟩
theorem lw_p45 : lw_okq (⟨"PalletStackModel", "hasCorners", "(I)Z"⟩, 14) := ⟨⟨by decide +kernel, by decide +kernel⟩, List.mem_of_getElem? (i := 605) (by decide +kernel), List.mem_of_getElem? (i := 751) (by decide +kernel), List.mem_of_getElem? (i := 752) (by decide +kernel)⟩
theorem lw_p46 : lw_okq (⟨"PalletStackModel", "isGround", "(III)Z"⟩, 14) := ⟨⟨by decide +kernel, by decide +kernel⟩, List.mem_of_getElem? (i := 605) (by decide +kernel), List.mem_of_getElem? (i := 755) (by decide +kernel), List.mem_of_getElem? (i := 756) (by decide +kernel)⟩
theorem lw_p47 : lw_okq (⟨"PalletStackModel", "covers", "(III)Z"⟩, 14) := ⟨⟨by decide +kernel, by decide +kernel⟩, List.mem_of_getElem? (i := 605) (by decide +kernel), List.mem_of_getElem? (i := 759) (by decide +kernel), List.mem_of_getElem? (i := 760) (by decide +kernel)⟩
def lw_privs_3 : List (MethodName × Nat) := [(⟨"PalletStackModel", "isHere", "(I)Z"⟩, 14), (⟨"PalletStackModel", "isKind", "(I)Z"⟩, 14), (⟨"PalletStackModel", "why", "(IIIZ)I"⟩, 14), (⟨"PalletStackModel", "kind", "(II)I"⟩, 14), (⟨"PalletStackModel", "lay", "(IIIIZ)V"⟩, 14), (⟨"PalletStackModel", "common", "(II)I"⟩, 14), (⟨"PalletStackModel", "get", "(II)I"⟩, 14), (⟨"PalletStackModel", "wide", "(I)I"⟩, 14), (⟨"PalletStackModel", "deep", "(I)I"⟩, 14), (⟨"PalletStackModel", "topOf", "(I)I"⟩, 14), (⟨"PalletStackModel", "ground", "(I)I"⟩, 14), (⟨"PalletStackModel", "cells", "(I)I"⟩, 14), (⟨"PalletStackModel", "standsOn", "(II)Z"⟩, 14), (⟨"PalletStackModel", "hasCorners", "(I)Z"⟩, 14), (⟨"PalletStackModel", "isGround", "(III)Z"⟩, 14), (⟨"PalletStackModel", "covers", "(III)Z"⟩, 14)]
theorem lw_r3 : ∀ q ∈ lw_privs_3, lw_okq q := List.forall_mem_cons.mpr ⟨lw_p32, List.forall_mem_cons.mpr ⟨lw_p33, List.forall_mem_cons.mpr ⟨lw_p34, List.forall_mem_cons.mpr ⟨lw_p35, List.forall_mem_cons.mpr ⟨lw_p36, List.forall_mem_cons.mpr ⟨lw_p37, List.forall_mem_cons.mpr ⟨lw_p38, List.forall_mem_cons.mpr ⟨lw_p39, List.forall_mem_cons.mpr ⟨lw_p40, List.forall_mem_cons.mpr ⟨lw_p41, List.forall_mem_cons.mpr ⟨lw_p42, List.forall_mem_cons.mpr ⟨lw_p43, List.forall_mem_cons.mpr ⟨lw_p44, List.forall_mem_cons.mpr ⟨lw_p45, List.forall_mem_cons.mpr ⟨lw_p46, List.forall_mem_cons.mpr ⟨lw_p47, fun _ h => absurd h List.not_mem_nil⟩⟩⟩⟩⟩⟩⟩⟩⟩⟩⟩⟩⟩⟩⟩⟩
theorem lw_p48 : lw_okq (⟨"PalletStackModel", "isTooMuch", "()Z"⟩, 14) := ⟨⟨by decide +kernel, by decide +kernel⟩, List.mem_of_getElem? (i := 605) (by decide +kernel), List.mem_of_getElem? (i := 763) (by decide +kernel), List.mem_of_getElem? (i := 764) (by decide +kernel)⟩
theorem lw_p49 : lw_okq (⟨"PalletStackModel", "reckonLoads", "()V"⟩, 14) := ⟨⟨by decide +kernel, by decide +kernel⟩, List.mem_of_getElem? (i := 605) (by decide +kernel), List.mem_of_getElem? (i := 767) (by decide +kernel), List.mem_of_getElem? (i := 768) (by decide +kernel)⟩
theorem lw_p50 : lw_okq (⟨"PalletStackModel", "weight", "(I)I"⟩, 14) := ⟨⟨by decide +kernel, by decide +kernel⟩, List.mem_of_getElem? (i := 605) (by decide +kernel), List.mem_of_getElem? (i := 771) (by decide +kernel), List.mem_of_getElem? (i := 772) (by decide +kernel)⟩
theorem lw_p51 : lw_okq (⟨"PalletStackModel", "weights", "()I"⟩, 14) := ⟨⟨by decide +kernel, by decide +kernel⟩, List.mem_of_getElem? (i := 605) (by decide +kernel), List.mem_of_getElem? (i := 775) (by decide +kernel), List.mem_of_getElem? (i := 776) (by decide +kernel)⟩
theorem lw_p52 : lw_okq (⟨"PalletStackModel", "add", "(IIIZ)V"⟩, 14) := ⟨⟨by decide +kernel, by decide +kernel⟩, List.mem_of_getElem? (i := 605) (by decide +kernel), List.mem_of_getElem? (i := 783) (by decide +kernel), List.mem_of_getElem? (i := 784) (by decide +kernel)⟩
theorem lw_p53 : lw_okq (⟨"PalletStackModel", "isItem", "(I)Z"⟩, 14) := ⟨⟨by decide +kernel, by decide +kernel⟩, List.mem_of_getElem? (i := 605) (by decide +kernel), List.mem_of_getElem? (i := 791) (by decide +kernel), List.mem_of_getElem? (i := 792) (by decide +kernel)⟩
theorem lw_p54 : lw_okq (⟨"PalletStackModel", "above", "(I)I"⟩, 14) := ⟨⟨by decide +kernel, by decide +kernel⟩, List.mem_of_getElem? (i := 605) (by decide +kernel), List.mem_of_getElem? (i := 795) (by decide +kernel), List.mem_of_getElem? (i := 796) (by decide +kernel)⟩
theorem lw_p55 : lw_okq (⟨"PalletStackModel", "itemTold", "(II)I"⟩, 14) := ⟨⟨by decide +kernel, by decide +kernel⟩, List.mem_of_getElem? (i := 605) (by decide +kernel), List.mem_of_getElem? (i := 803) (by decide +kernel), List.mem_of_getElem? (i := 804) (by decide +kernel)⟩
theorem lw_p56 : lw_okq (⟨"PalletStackModel", "below", "(I)I"⟩, 14) := ⟨⟨by decide +kernel, by decide +kernel⟩, List.mem_of_getElem? (i := 605) (by decide +kernel), List.mem_of_getElem? (i := 807) (by decide +kernel), List.mem_of_getElem? (i := 808) (by decide +kernel)⟩
theorem lw_p57 : lw_okq (⟨"PalletStackModel", "rests", "(II)Z"⟩, 14) := ⟨⟨by decide +kernel, by decide +kernel⟩, List.mem_of_getElem? (i := 605) (by decide +kernel), List.mem_of_getElem? (i := 826) (by decide +kernel), List.mem_of_getElem? (i := 827) (by decide +kernel)⟩
theorem lw_p58 : lw_okq (⟨"PalletStackModel", "bestFor", "(I)I"⟩, 14) := ⟨⟨by decide +kernel, by decide +kernel⟩, List.mem_of_getElem? (i := 605) (by decide +kernel), List.mem_of_getElem? (i := 835) (by decide +kernel), List.mem_of_getElem? (i := 836) (by decide +kernel)⟩
theorem lw_p59 : lw_okq (⟨"PalletStackModel", "putBest", "(I)Z"⟩, 14) := ⟨⟨by decide +kernel, by decide +kernel⟩, List.mem_of_getElem? (i := 605) (by decide +kernel), List.mem_of_getElem? (i := 843) (by decide +kernel), List.mem_of_getElem? (i := 844) (by decide +kernel)⟩
theorem lw_p60 : lw_okq (⟨"PalletStackModel", "isAhead", "(II)Z"⟩, 14) := ⟨⟨by decide +kernel, by decide +kernel⟩, List.mem_of_getElem? (i := 605) (by decide +kernel), List.mem_of_getElem? (i := 855) (by decide +kernel), List.mem_of_getElem? (i := 856) (by decide +kernel)⟩
theorem lw_p61 : lw_okq (⟨"PalletStackModel", "sumOf", "(I)I"⟩, 14) := ⟨⟨by decide +kernel, by decide +kernel⟩, List.mem_of_getElem? (i := 605) (by decide +kernel), List.mem_of_getElem? (i := 871) (by decide +kernel), List.mem_of_getElem? (i := 872) (by decide +kernel)⟩
def lw_privs_4 : List (MethodName × Nat) := [(⟨"PalletStackModel", "isTooMuch", "()Z"⟩, 14), (⟨"PalletStackModel", "reckonLoads", "()V"⟩, 14), (⟨"PalletStackModel", "weight", "(I)I"⟩, 14), (⟨"PalletStackModel", "weights", "()I"⟩, 14), (⟨"PalletStackModel", "add", "(IIIZ)V"⟩, 14), (⟨"PalletStackModel", "isItem", "(I)Z"⟩, 14), (⟨"PalletStackModel", "above", "(I)I"⟩, 14), (⟨"PalletStackModel", "itemTold", "(II)I"⟩, 14), (⟨"PalletStackModel", "below", "(I)I"⟩, 14), (⟨"PalletStackModel", "rests", "(II)Z"⟩, 14), (⟨"PalletStackModel", "bestFor", "(I)I"⟩, 14), (⟨"PalletStackModel", "putBest", "(I)Z"⟩, 14), (⟨"PalletStackModel", "isAhead", "(II)Z"⟩, 14), (⟨"PalletStackModel", "sumOf", "(I)I"⟩, 14)]
theorem lw_r4 : ∀ q ∈ lw_privs_4, lw_okq q := List.forall_mem_cons.mpr ⟨lw_p48, List.forall_mem_cons.mpr ⟨lw_p49, List.forall_mem_cons.mpr ⟨lw_p50, List.forall_mem_cons.mpr ⟨lw_p51, List.forall_mem_cons.mpr ⟨lw_p52, List.forall_mem_cons.mpr ⟨lw_p53, List.forall_mem_cons.mpr ⟨lw_p54, List.forall_mem_cons.mpr ⟨lw_p55, List.forall_mem_cons.mpr ⟨lw_p56, List.forall_mem_cons.mpr ⟨lw_p57, List.forall_mem_cons.mpr ⟨lw_p58, List.forall_mem_cons.mpr ⟨lw_p59, List.forall_mem_cons.mpr ⟨lw_p60, List.forall_mem_cons.mpr ⟨lw_p61, fun _ h => absurd h List.not_mem_nil⟩⟩⟩⟩⟩⟩⟩⟩⟩⟩⟩⟩⟩⟩
def lw_privs : List (MethodName × Nat) := lw_privs_1 ++ (lw_privs_2 ++ (lw_privs_3 ++ (lw_privs_4)))
def lw_tbl : List Cond := k2_sels lw_privs ++ tables_1
theorem lw_privs_ok : ∀ q ∈ lw_privs, lw_okq q := by
  show ∀ q ∈ lw_privs_1 ++ (lw_privs_2 ++ (lw_privs_3 ++ (lw_privs_4))), lw_okq q
  exact List.forall_mem_append.mpr ⟨lw_r1, List.forall_mem_append.mpr ⟨lw_r2, List.forall_mem_append.mpr ⟨lw_r3, lw_r4⟩⟩⟩
/-- the streams that the claim lets the run draw from -/
abbrev lw_cs : List Choice := [Jvm.Choice.named "NaN.bits"]
theorem lw_bits : nanBits ∈ lw_cs := by first | decide | exact List.mem_cons_self | simp [lw_cs, nanBits]
/-! ===== BEGIN words of one list among another's, by their places ===== -/
theorem goodIn_r {big : List Cond} (ws : List Cond) (ps : List Nat) (hp : ws = ps.filterMap (fun i => big[i]?)) (h : ws.all goodWord = true) : GoodIn big ws := by
  intro w hw
  have h1 := List.all_eq_true.mp h w hw
  rw [hp] at hw
  obtain ⟨i, -, hi⟩ := List.mem_filterMap.mp hw
  have hm : w ∈ big := by first | exact List.mem_of_getElem? hi | exact List.getElem?_mem hi
  exact ⟨hm, good_of_word h1⟩
theorem goodIn_app {big a b : List Cond} (ha : GoodIn big a) (hb : GoodIn big b) : GoodIn big (a ++ b) := fun w h => (List.mem_append.mp h).elim (ha w) (hb w)
theorem goodIn_ca {big a b : List Cond} {c : Cond} (ha : GoodIn big (c :: a)) (hb : GoodIn big b) : GoodIn big (c :: (a ++ b)) := fun w h => (List.mem_cons.mp h).elim (fun e => ha w (List.mem_cons.mpr (Or.inl e))) (fun h => (List.mem_append.mp h).elim (fun h => ha w (List.mem_cons.mpr (Or.inr h))) (hb w))
theorem goodIn_sub {big ws : List Cond} (hm : ∀ w ∈ ws, w ∈ big) (h : ws.all goodWord = true) : GoodIn big ws := fun w hw => ⟨hm w hw, good_of_word (List.all_eq_true.mp h w hw)⟩
/-! ===== END ===== -/

/-! ===== BEGIN exceptions that leave a method, and their catching by the caller (launches without stack traces) ===== -/
section VXA
/-! The laws vx_back, vx_callV, vx_callS, vx_callSW, vx_throw0, vx_throwS follow proofs of the library, with one case more: JvmDerived/Free/Laws.lean (Back.of_free), Shelf42/LK1.lean (callV, callS), Shelf/KitTraced.lean (throwNew0V, throwNewS). -/
/-- where a method has thrown q: the class by its name, the cell, what was written, the world -/
def vx_T (XC : String → State → State → Prop) (st : State) (q : Addr) (t : State) (mc ms : Nat) (free : Addr → Prop) : Prop :=
  ∃ (E : String) (ce : Cell) (L : List Loc), XC E st t ∧ t.heap[q]? = some ce ∧ ce.vm = .none ∧ st.vm.findClass E = some ce.cls ∧ st.WarmedH t.vm ∧ st.sameButNew ({ t with vm := st.vm } : State) L mc ms ∧ ∀ z ∈ L, free z.base
def vx_Q (Qc : Array Value → State → Outcome → State → Prop) (XC : String → State → State → Prop) (mc ms : Nat) (free : Addr → Prop) : Array Value → State → Outcome → State → Prop := fun a st o t =>
  (Qc a st o t ∧ ∃ L, FrameEnd st o t L mc ms ∧ ∀ q ∈ L, free q.base) ∨ ∃ q, o = .threw q ∧ vx_T XC st q t mc ms free
/-- a callee that returns or throws -/
def vx_Met (l : Launch) (y : MethodName) (ws : List Cond) (rm : Room) (Pc : Array Value → State → Prop) (Qc : Array Value → State → Outcome → State → Prop) (XC : String → State → State → Prop) (mc ms : Nat) (free : Addr → Prop) : Prop :=
  MetFree l y (headSpec ws rm) Pc (fun _ _ _ _ _ => True) (vx_Q Qc XC mc ms free)
def vx_Post (XC : String → State → State → Prop) (mc ms : Nat) (free : Addr → Prop) : Pt → Array Value → Addr → Pt → Prop := fun A a q B =>
  ∃ (g : JFrame) (mk : MethodId) (t : State) (L : List Loc) (E : String) (ce : Cell), B.U.heap = t.heap ∧ B.U.vm = t.vm ∧ XC E (A.U.calling g mk a) t ∧ t.heap[q]? = some ce ∧ ce.vm = .none ∧ A.U.vm.findClass E = some ce.cls ∧ B.locs = A.locs ++ L ∧ (∀ z ∈ L, free z.base) ∧ B.cells = A.cells + mc ∧ B.slots = A.slots + ms
def vx_Back (l : Launch) (R : Room) (p : Program) (e : Env) (below : List Frame) (s : State) (sargs : Array Value) (y : MethodName) (len W9 : Nat)
    (Pre : Pt → Array Value → Prop) (Post : Pt → Array Value → Option Value → Pt → Prop) (PostX : Pt → Array Value → Addr → Pt → Prop) : Prop :=
  ∀ (m : MethodId) (meth : Method) (c : Code) (A : Pt) (g : JFrame) (ig : Instr) (mk : MethodId) (a : Array Value),
    Stand p l e R s m sargs below meth c A.U A.locs A.cells A.slots → g.method = m → g.locals.size = c.maxLocals → decode c.code g.pc = .ok (ig, len) →
    2 * g.monitorRoom + (g.stack.map fun v => v.category).sum ≤ W9 → A.U.methodNamed? y = some mk → Pre A a →
    (∃ (v : Option Value) (B : Pt), Stand p l e R s m sargs below meth c B.U B.locs B.cells B.slots ∧ Post A a v B ∧
      Steps p.tables e below (doInvoke e (A.U.setTop g) [] mk a).1 (B.U.setTop { g with pc := g.pc + len, stack := v.toList ++ g.stack })) ∨
    (∃ (q : Addr) (B : Pt), Stand p l e R s m sargs below meth c B.U B.locs B.cells B.slots ∧ PostX A a q B ∧
      Steps p.tables e below (doInvoke e (A.U.setTop g) [] mk a).1 ((B.U.setTop g).pushFrame (.throwing q)))
section Payer
variable {l : Launch} {R : Room} {p : Program} {e : Env} {below : List Frame} {s : State} {sargs : Array Value} {y : MethodName} {len W9 : Nat}
theorem vx_back {ws : List Cond} {rm : Room} {Pc : Array Value → State → Prop} {Qc : Array Value → State → Outcome → State → Prop} {XC : String → State → State → Prop} {mc ms : Nat} {free : Addr → Prop} {bytes : ByteArray} {maxL : Nat} {ret : Option FieldType}
    (hM : vx_Met l y ws rm Pc Qc XC mc ms free) (hblind : FrameBlind Pc) (hrc : rm.cells = mc) (hrs : rm.slots = ms)
    (hframes : rm.frames + 1 ≤ R.frames) (hlocals : W9 + (maxL + 11) + rm.locals ≤ R.locals)
    (hws : ∀ w ∈ ws, ∀ a' U, s.WarmedH U.vm → w.before a' U = true) (hcode : Cond.code y bytes maxL ret ∈ ws) (hinit : ∀ a' U, s.WarmedH U.vm → (Cond.initialized y.cls).before a' U = true) :
    vx_Back l R p e below s sargs y len W9 (PreOf R mc ms Pc) (PostOf Qc mc ms free) (vx_Post XC mc ms free) := by
  intro m meth c A g ig mk a X hg hsize hdg hW hn hp
  have h1 : (headSpec ws rm).pre.before a A.U = true := atoms_intro fun w hw => hws w hw _ _ X.warmed
  have h2 : (Cond.code y bytes maxL ret).before a A.U = true := hws _ hcode _ _ X.warmed
  have h3 : (Cond.initialized y.cls).before a A.U = true := hinit _ _ X.warmed
  have h4 : A.cells + (headSpec ws rm).room.cells ≤ R.cells := by rw [show (headSpec ws rm).room.cells = mc from hrc]; exact hp.1
  have h5 : A.slots + (headSpec ws rm).room.slots ≤ R.slots := by rw [show (headSpec ws rm).room.slots = ms from hrs]; exact hp.2.1
  have hPc : Pc a (A.U.calling g mk a) := hblind _ _ _ _ hp.2.2
  obtain ⟨U, Ls, c0, s0⟩ := A
  dsimp only [Pt.U, Pt.locs, Pt.cells, Pt.slots] at h1 h2 h3 h4 h5 X hn hPc ⊢
  obtain ⟨methY, cY, hmY, hcY, -, hlY, -, -, -, -⟩ := Cond.code_spec hn h2
  obtain ⟨kY, hkY, -⟩ := className_of_methodNamed hn
  have hinitY : kY.init = .initialized := Cond.initialized_spec (findClass_of_methodNamed hn) hkY h3
  have h : At U g.method c below := by rw [hg]; exact X.here
  have hlocals9 : W9 + (maxL + 11) + (headSpec ws rm).room.locals ≤ R.locals := hlocals
  have happ : (headSpec ws rm).appliesLoose y e.platform (U.calling g mk a) = true :=
    Spec.appliesLoose_calling (g := g) h hdg hn hkY hinitY
      (X.room_calling (g := g) (R' := (headSpec ws rm).room) hsize hmY hcY hframes (by rw [hlY]; omega) h4 h5) h1
  obtain ⟨mid, hmid⟩ := h.above
  have hfr : (U.setTop g).frames = (.java g :: mid) ++ below := by rw [State.frames_setTop' g h.top, hmid]; rfl
  obtain ⟨o, s₂, hsteps, -, hend, hq⟩ := Steps.callFree hM p X.admits X.cas X.clock (acts := []) hfr happ hPc trivial
  have hq' : vx_Q Qc XC mc ms free a (U.calling g mk a) o s₂ := hq
  rw [State.frames_setTop' g h.top] at hend
  obtain ⟨g₀, hg0⟩ := Option.isSome_iff_exists.mp h.top
  obtain ⟨r, hr⟩ := State.topJava?_eq_some.mp hg0
  have hr' : (({ U with heap := s₂.heap, slotsUsed := s₂.slotsUsed } : State).setVm s₂.vm).frames = .java g₀ :: r := hr
  rcases hq' with ⟨hqc, L, hfe, hL⟩ | ⟨q, rfl, E, ce, L, hx, hce, hcv, hcl, hW₂, hsm, hL⟩
  · obtain ⟨⟨v, rfl⟩, hW₂, e2, q2, q3, q4, q5, q6⟩ := id hfe
    have e3 : s₂ = ({ (U.calling g mk a).setFrames s₂.frames with heap := s₂.heap, slotsUsed := s₂.slotsUsed } : State).setVm s₂.vm := by
      have : s₂ = ({ s₂ with vm := (U.calling g mk a).vm } : State).setVm s₂.vm := rfl
      rw [e2] at this
      exact this
    obtain ⟨c₂, i₂, len₂, hc₂, hd₂, hf₂⟩ := hend
    have hW' : U.WarmedH s₂.vm := hW₂
    have hcc : c₂ = c := by
      have h1 : s₂.code? g.method = U.code? g.method := by
        rw [State.code?_eq, State.code?_eq, hW'.alike.method?]
      exact Option.some.inj (hc₂.symm.trans (h1.trans h.code))
    subst hcc
    have hlen : len₂ = len := by rw [hdg] at hd₂; cases hd₂; rfl
    subst hlen
    have hs₂ : s₂ = (({ U with heap := s₂.heap, slotsUsed := s₂.slotsUsed } : State).setVm s₂.vm).setTop { g with pc := g.pc + len₂, stack := v.toList ++ g.stack } := by
      refine e3.trans ?_
      rw [hf₂, State.calling_eq h.top, State.setFrames_setFrames, State.setTop_of_frames _ hr', hr]
      rfl
    have hsame : U.sameButNew ({ U with heap := s₂.heap, slotsUsed := s₂.slotsUsed } : State) L mc ms := by
      refine ⟨?_, q2, q3, q4, q5, q6⟩
      obtain ⟨t, ht, -⟩ := State.frames_cons hr
      show ({ U with heap := s₂.heap, slotsUsed := s₂.slotsUsed } : State) = { U.setFrames U.frames with heap := s₂.heap, slotsUsed := s₂.slotsUsed }
      rw [State.setFrames_self ht]
    subst hg
    refine Or.inl ⟨v, ⟨(({ U with heap := s₂.heap, slotsUsed := s₂.slotsUsed } : State).setVm s₂.vm), Ls ++ L, c0 + mc, s0 + ms⟩,
      ⟨X.admits, X.cas, X.clock, X.frames, X.room, X.hears, X.method, X.code, (X.here.setHeapUsed s₂.heap s₂.slotsUsed).setVm hW'.alike, X.tail, State.WarmedH.trans X.warmed hW', X.limits, X.bytes, X.same.trans (hsame.setVm s.vm)⟩,
      ⟨g, mk, s₂, L, rfl, rfl, hqc, rfl, hL, rfl, rfl⟩, ?_⟩
    show Steps p.tables e below _ ((({ U with heap := s₂.heap, slotsUsed := s₂.slotsUsed } : State).setVm s₂.vm).setTop { g with pc := g.pc + len₂, stack := v.toList ++ g.stack })
    rw [← hs₂]
    exact hsteps
  · obtain ⟨e2, q2, q3, q4, q5, q6⟩ := id hsm
    have e3 : s₂ = ({ (U.calling g mk a).setFrames s₂.frames with heap := s₂.heap, slotsUsed := s₂.slotsUsed } : State).setVm s₂.vm := by
      have : s₂ = ({ s₂ with vm := (U.calling g mk a).vm } : State).setVm s₂.vm := rfl
      rw [e2] at this
      exact this
    have hf₂ : s₂.frames = .throwing q :: .java g :: U.frames.tail := hend
    have hW' : U.WarmedH s₂.vm := hW₂
    have hs₂ : s₂ = ((({ U with heap := s₂.heap, slotsUsed := s₂.slotsUsed } : State).setVm s₂.vm).setTop g).pushFrame (.throwing q) := by
      refine e3.trans ?_
      rw [hf₂, State.calling_eq h.top, State.setFrames_setFrames, State.pushFrame, State.frames_setTop _ hr', State.setTop_of_frames _ hr', State.setFrames_setFrames, hr]
      rfl
    have hsame : U.sameButNew ({ U with heap := s₂.heap, slotsUsed := s₂.slotsUsed } : State) L mc ms := by
      refine ⟨?_, q2, q3, q4, q5, q6⟩
      obtain ⟨t, ht, -⟩ := State.frames_cons hr
      show ({ U with heap := s₂.heap, slotsUsed := s₂.slotsUsed } : State) = { U.setFrames U.frames with heap := s₂.heap, slotsUsed := s₂.slotsUsed }
      rw [State.setFrames_self ht]
    subst hg
    refine Or.inr ⟨q, ⟨(({ U with heap := s₂.heap, slotsUsed := s₂.slotsUsed } : State).setVm s₂.vm), Ls ++ L, c0 + mc, s0 + ms⟩,
      ⟨X.admits, X.cas, X.clock, X.frames, X.room, X.hears, X.method, X.code, (X.here.setHeapUsed s₂.heap s₂.slotsUsed).setVm hW'.alike, X.tail, State.WarmedH.trans X.warmed hW', X.limits, X.bytes, X.same.trans (hsame.setVm s.vm)⟩,
      ⟨g, mk, s₂, L, E, ce, rfl, rfl, hx, hce, hcv, hcl, rfl, hL, rfl, rfl⟩, ?_⟩
    show Steps p.tables e below _ (((({ U with heap := s₂.heap, slotsUsed := s₂.slotsUsed } : State).setVm s₂.vm).setTop g).pushFrame (.throwing q))
    rw [← hs₂]
    exact hsteps
end Payer
section Calls
variable {p : Program} {l : Launch} {e : Env} {R : Room} {s : State} {m : MethodId} {args : Array Value} {below : List Frame} {meth : Method} {c : Code} {T : State} {locs : List Loc} {cells slots : Nat}
theorem vx_callV (X : Stand p l e R s m args below meth c T locs cells slots) (hexec : p.tables.exec = Jvm.exec) {own C : String} {index : Nat} {y : MethodName} {bytes : ByteArray} {maxL : Nat} {ret : Option FieldType}
    (hown : s.vm.findClass own = some m.cls) (hlink : (Cond.methodLink own index y).before args s = true) (hinst : (Cond.instanceMethod y).before args s = true) (hsel : (Cond.selects C y y).before args s = true)
    (hcode : (Cond.code y bytes maxL ret).before args s = true) (hy : y.cls ≠ "java/lang/invoke/MethodHandle" ∧ y.cls ≠ "java/lang/invoke/VarHandle")
    {W9 : Nat} {Pre : Pt → Array Value → Prop} {Post : Pt → Array Value → Option Value → Pt → Prop} {PostX : Pt → Array Value → Addr → Pt → Prop} (hK : vx_Back l R p e below s args y 3 W9 Pre Post PostX)
    {b : Addr} {cellB : Cell} (hcell : T.heap[b]? = some cellB) (hobj : cellB.vm.isStatics = false) (hcls : s.vm.findClass C = some cellB.cls)
    {g : JFrame} (hg : g.method = m) (hsize : g.locals.size = c.maxLocals) {argsL rest : List Value} (hlen : ∀ sig, parseMethodDescriptor y.desc = some sig → argsL.length = sig.parameters.length)
    (hstack : g.stack = argsL.reverse ++ .ref b :: rest) (hW : 2 * g.monitorRoom + (rest.map fun v => v.category).sum ≤ W9) (hdg : decode c.code g.pc = .ok (.invokevirtual index, 3))
    (hpre : ∀ vm₁, s.WarmedH vm₁ → Pre ⟨T.setVm vm₁, locs, cells, slots⟩ (Value.ref b :: argsL).toArray) :
    (∃ (v : Option Value) (vm₁ : Vm) (B : Pt), s.WarmedH vm₁ ∧ Stand p l e R s m args below meth c B.U B.locs B.cells B.slots ∧ Post ⟨T.setVm vm₁, locs, cells, slots⟩ (Value.ref b :: argsL).toArray v B ∧
      ∀ target, Steps p.tables e below (B.U.setTop { g with pc := g.pc + 3, stack := v.toList ++ rest }) target → Steps p.tables e below (T.setTop g) target) ∨
    (∃ (q : Addr) (vm₁ : Vm) (B : Pt), s.WarmedH vm₁ ∧ Stand p l e R s m args below meth c B.U B.locs B.cells B.slots ∧ PostX ⟨T.setVm vm₁, locs, cells, slots⟩ (Value.ref b :: argsL).toArray q B ∧
      Steps p.tables e below (T.setTop g) ((B.U.setTop { g with stack := rest }).pushFrame (.throwing q))) := by
  obtain ⟨mk, methM, hnamed, hmethM, hstM, habM⟩ := Cond.instanceMethod_spec hinst
  obtain ⟨methM', cM, hmethM', -, -, -, -, -, -, hsigM⟩ := Cond.code_spec hnamed hcode
  cases hmethM.symm.trans hmethM'
  obtain ⟨c2, r2, m2, q1, q2, q3, q4, kP, hkP, hkPi⟩ := Cond.selects_spec hsel
  cases hcls.symm.trans q1
  cases (State.methodFound?_of_named hnamed hy).symm.trans q2
  cases hnamed.symm.trans q3
  have hselP : selectMethod e.platform s.vm cellB.cls mk = .method mk := by rw [Launch.admits_selectMethod X.admits]; exact q4
  obtain ⟨vm₁, X₁, hstep₁⟩ := X.invokevirtual hexec hown hlink hnamed hmethM hstM hkP hkPi hy (a := b) (cell := cellB) hcell
    (fun z h => by rw [h] at hobj; cases hobj) hselP hmethM habM hkP hkPi (g := g) hg (argsL := argsL) (rest := rest) (hlen _ hsigM) hstack hdg
  rcases hK m meth c ⟨T.setVm vm₁, locs, cells, slots⟩ { g with stack := rest } (.invokevirtual index) mk (Value.ref b :: argsL).toArray X₁ hg hsize hdg hW (X₁.named hnamed) (hpre vm₁ X₁.warmed) with ⟨v, B, X', hpost, hsteps⟩ | ⟨q, B, X', hpost, hsteps⟩
  · exact Or.inl ⟨v, vm₁, B, X₁.warmed, X', hpost, fun target h => hstep₁ _ fun acts => by rw [doInvoke_state]; exact hsteps.trans h⟩
  · exact Or.inr ⟨q, vm₁, B, X₁.warmed, X', hpost, hstep₁ _ fun acts => by rw [doInvoke_state]; exact hsteps⟩
theorem vx_callS (X : Stand p l e R s m args below meth c T locs cells slots) (hexec : p.tables.exec = Jvm.exec) {own : String} {index : Nat} {y : MethodName} {bytes : ByteArray} {maxL : Nat} {ret : Option FieldType}
    (hown : s.vm.findClass own = some m.cls) (hlink : (Cond.methodLink own index y).before args s = true) (hstat : (Cond.static y).before args s = true) (hinit : (Cond.initialized y.cls).before args s = true)
    (hcode : (Cond.code y bytes maxL ret).before args s = true) (hy : y.cls ≠ "java/lang/invoke/MethodHandle" ∧ y.cls ≠ "java/lang/invoke/VarHandle")
    {W9 : Nat} {Pre : Pt → Array Value → Prop} {Post : Pt → Array Value → Option Value → Pt → Prop} {PostX : Pt → Array Value → Addr → Pt → Prop} (hK : vx_Back l R p e below s args y 3 W9 Pre Post PostX)
    {g : JFrame} (hg : g.method = m) (hsize : g.locals.size = c.maxLocals) {argsL rest : List Value} (hlen : ∀ sig, parseMethodDescriptor y.desc = some sig → argsL.length = sig.parameters.length)
    (hstack : g.stack = argsL.reverse ++ rest) (hW : 2 * g.monitorRoom + (rest.map fun v => v.category).sum ≤ W9) (hdg : decode c.code g.pc = .ok (.invokestatic index, 3))
    (hpre : ∀ vm₁, s.WarmedH vm₁ → Pre ⟨T.setVm vm₁, locs, cells, slots⟩ argsL.toArray) :
    (∃ (v : Option Value) (vm₁ : Vm) (B : Pt), s.WarmedH vm₁ ∧ Stand p l e R s m args below meth c B.U B.locs B.cells B.slots ∧ Post ⟨T.setVm vm₁, locs, cells, slots⟩ argsL.toArray v B ∧
      ∀ target, Steps p.tables e below (B.U.setTop { g with pc := g.pc + 3, stack := v.toList ++ rest }) target → Steps p.tables e below (T.setTop g) target) ∨
    (∃ (q : Addr) (vm₁ : Vm) (B : Pt), s.WarmedH vm₁ ∧ Stand p l e R s m args below meth c B.U B.locs B.cells B.slots ∧ PostX ⟨T.setVm vm₁, locs, cells, slots⟩ argsL.toArray q B ∧
      Steps p.tables e below (T.setTop g) ((B.U.setTop { g with stack := rest }).pushFrame (.throwing q))) := by
  obtain ⟨mk, hnamed⟩ := Cond.code_named hcode
  obtain ⟨methM, cM, hmethM, -, -, -, -, -, -, hsigM⟩ := Cond.code_spec hnamed hcode
  have hstatic : methM.isStatic = true := Cond.static_spec hnamed hmethM hstat
  obtain ⟨kP, hkP, -⟩ := className_of_methodNamed hnamed
  have hinitP : kP.init = .initialized := Cond.initialized_spec (findClass_of_methodNamed hnamed) hkP hinit
  obtain ⟨vm₁, X₁, hstep₁⟩ := X.invokestatic hexec hown hlink hnamed hmethM hstatic hkP hinitP hy (g := g) hg (argsL := argsL) (rest := rest) (hlen _ hsigM) hstack hdg
  rcases hK m meth c ⟨T.setVm vm₁, locs, cells, slots⟩ { g with stack := rest } (.invokestatic index) mk argsL.toArray X₁ hg hsize hdg hW (X₁.named hnamed) (hpre vm₁ X₁.warmed) with ⟨v, B, X', hpost, hsteps⟩ | ⟨q, B, X', hpost, hsteps⟩
  · exact Or.inl ⟨v, vm₁, B, X₁.warmed, X', hpost, fun target h => hstep₁ _ fun acts => by rw [doInvoke_state]; exact hsteps.trans h⟩
  · exact Or.inr ⟨q, vm₁, B, X₁.warmed, X', hpost, hstep₁ _ fun acts => by rw [doInvoke_state]; exact hsteps⟩
end Calls
theorem vx_cls {s : State} {T : State} {vm₁ : Vm} {E : String} {k : ClassId} (hW : s.WarmedH vm₁) (h : (T.setVm vm₁).vm.findClass E = some k) : s.vm.findClass E = some k := by
  have h1 : vm₁.findClass E = some k := h
  rw [hW.alike.findClass] at h1
  exact h1
/-- the method's frame g, with q thrown over it -/
def vx_W (p : Program) (l : Launch) (e : Env) (R : Room) (s : State) (m : MethodId) (args : Array Value) (below : List Frame) (meth : Method) (c : Code) (H : Heap) (locs : List Loc) (cells slots : Nat) (Q : State → Prop) (g : JFrame) (q : Addr) : Prop :=
  ∀ T : State, T.heap = H → Stand p l e R s m args below meth c T locs cells slots → ∃ t, Steps p.tables e below ((T.setTop g).pushFrame (.throwing q)) t ∧ Q t
def vx_Run (p : Program) (l : Launch) (e : Env) (R : Room) (s : State) (m : MethodId) (args : Array Value) (below : List Frame) (meth : Method) (c : Code) (H : Heap) (locs : List Loc) (cells slots mc ms : Nat) (g : JFrame) (rest : List Value) (Qa : State → Outcome → State → Prop) (XC : String → State → State → Prop) (free : Addr → Prop) : Prop :=
  ∀ T : State, T.heap = H → Stand p l e R s m args below meth c T locs cells slots →
    (∃ (v : Option Value) (st₀ t T' : State) (L : List Loc), st₀.heap = H ∧ Stand p l e R s m args below meth c T' (locs ++ L) (cells + mc) (slots + ms) ∧ (∀ q ∈ L, free q.base) ∧ T'.heap = t.heap ∧ T'.vm = t.vm ∧ Qa st₀ (.returned v) t ∧
      Goes p e below T g T' { g with pc := g.pc + 3, stack := v.toList ++ rest }) ∨
    (∃ (q : Addr) (st₀ t T' : State) (L : List Loc) (E : String) (ce : Cell), st₀.heap = H ∧ Stand p l e R s m args below meth c T' (locs ++ L) (cells + mc) (slots + ms) ∧ (∀ z ∈ L, free z.base) ∧ T'.heap = t.heap ∧ T'.vm = t.vm ∧ XC E st₀ t ∧ t.heap[q]? = some ce ∧ ce.vm = .none ∧ s.vm.findClass E = some ce.cls ∧
      Steps p.tables e below (T.setTop g) ((T'.setTop { g with stack := rest }).pushFrame (.throwing q)))
def vx_X {S : Type} (px : S → Prop) (B : String → S → State → Prop) (A : Nat → Prop) : String → State → State → Prop := fun E st t => ∃ u : S, px u ∧ B E u t ∧ va_F A st t
section Runs
variable {p : Program} {l : Launch} {e : Env} {R : Room} {s : State} {m : MethodId} {args : Array Value} {below : List Frame} {meth : Method} {c : Code} {H : Heap} {locs : List Loc} {cells slots : Nat}
variable {y : MethodName} {bytes cc : ByteArray} {maxL nL mc ms n index : Nat} {ret : Option FieldType} {ws : List Cond} {rm : Room} {Pc : Array Value → State → Prop} {Qc : Array Value → State → Outcome → State → Prop} {XC : String → State → State → Prop} {free : Addr → Prop} {Ts : List Cond} {own C : String} {b : Addr} {As rest : List Value} {g : JFrame}
theorem vx_callBack (cb : CallB R s args own index y bytes maxL ret ws rm mc ms n) (hM : vx_Met l y ws rm Pc Qc XC mc ms free) (hbl : FrameBlind Pc) : vx_Back l R p e below s args y 3 8 (PreOf R mc ms Pc) (PostOf Qc mc ms free) (vx_Post XC mc ms free) := by
  obtain ⟨hrc, hrs, hfr, hlo, hws, hcw, -, hini, -⟩ := cb
  exact vx_back (bytes := bytes) (maxL := maxL) (ret := ret) hM hbl hrc hrs hfr hlo hws hcw (fun a' U hW => word_at hW (Or.inl (by first | rfl | simp [Cond.onTables, Cond.keeps, Cond.steady])) hini)
theorem vx_runV (S : CallFix p m c cc nL s args Ts own) (hM : vx_Met l y ws rm Pc Qc XC mc ms free) (cw : CallW R s args own C index y bytes maxL ret ws rm mc ms n) (hp : PreV s H C b Pc As)
    (hg : g.method = m) (hn : As.length = n) (hsize : g.locals.size = nL) (hstack : g.stack = As.reverse ++ .ref b :: rest) (hW : 2 * g.monitorRoom + (rest.map fun v => v.category).sum ≤ 8) (hdg : decode cc g.pc = .ok (.invokevirtual index, 3)) (hf : cells + mc ≤ R.cells ∧ slots + ms ≤ R.slots) :
    vx_Run p l e R s m args below meth c H locs cells slots mc ms g rest (Qc (Value.ref b :: As).toArray) XC free := by
  have hK : vx_Back l R p e below s args y 3 8 (PreOf R mc ms Pc) (PostOf Qc mc ms free) (vx_Post XC mc ms free) := vx_callBack cw.1 hM hp.1
  obtain ⟨⟨-, -, -, -, -, -, hcode, -, hy, hlen, hl⟩, hin, hse⟩ := cw
  obtain ⟨hx, hb, hml, ho, -⟩ := S
  obtain ⟨-, ⟨cellB, hcB, hoB, hclB⟩, hPc⟩ := hp
  intro T hT X
  rcases vx_callV X hx (C := C) (bytes := bytes) (maxL := maxL) (ret := ret) ho hl hin hse hcode hy hK (by rw [hT]; exact hcB) hoB hclB hg (hsize.trans hml.symm) (argsL := As) (rest := rest) (fun sig h => hn.trans (hlen sig h)) hstack hW (by rw [hb]; exact hdg)
    (fun vm₁ hW₁ => ⟨hf.1, hf.2, hPc (T.setVm vm₁) hT hW₁⟩) with ⟨v, vm₁, ⟨U', l2, c2, s2⟩, hW₁, X', ⟨g', mk, t, L, e1, e2, hq, h1, hL, h2, h3⟩, st⟩ | ⟨q, vm₁, ⟨U', l2, c2, s2⟩, hW₁, X', ⟨g', mk, t, L, E, ce, e1, e2, hq, hce, hcv, hcl, h1, hL, h2, h3⟩, st⟩
  · dsimp only [Pt.U, Pt.locs, Pt.cells, Pt.slots] at X' e1 e2 h1 h2 h3 st
    subst h1; subst h2; subst h3
    exact Or.inl ⟨v, (T.setVm vm₁).calling g' mk (Value.ref b :: As).toArray, t, U', L, hT, X', hL, e1, e2, hq, st⟩
  · dsimp only [Pt.U, Pt.locs, Pt.cells, Pt.slots] at X' e1 e2 h1 h2 h3 st hcl
    subst h1; subst h2; subst h3
    exact Or.inr ⟨q, (T.setVm vm₁).calling g' mk (Value.ref b :: As).toArray, t, U', L, E, ce, hT, X', hL, e1, e2, hq, hce, hcv, vx_cls hW₁ hcl, st⟩
theorem vx_runS (S : CallFix p m c cc nL s args Ts own) (hM : vx_Met l y ws rm Pc Qc XC mc ms free) (cw : CallB R s args own index y bytes maxL ret ws rm mc ms n ∧ (Cond.static y).before args s = true) (hp : PreS s H Pc As)
    (hg : g.method = m) (hn : As.length = n) (hsize : g.locals.size = nL) (hstack : g.stack = As.reverse ++ rest) (hW : 2 * g.monitorRoom + (rest.map fun v => v.category).sum ≤ 8) (hdg : decode cc g.pc = .ok (.invokestatic index, 3)) (hf : cells + mc ≤ R.cells ∧ slots + ms ≤ R.slots) :
    vx_Run p l e R s m args below meth c H locs cells slots mc ms g rest (Qc As.toArray) XC free := by
  have hK : vx_Back l R p e below s args y 3 8 (PreOf R mc ms Pc) (PostOf Qc mc ms free) (vx_Post XC mc ms free) := vx_callBack cw.1 hM hp.1
  obtain ⟨⟨-, -, -, -, -, -, hcode, hini, hy, hlen, hl⟩, hstt⟩ := cw
  obtain ⟨hx, hb, hml, ho, -⟩ := S
  intro T hT X
  rcases vx_callS X hx (bytes := bytes) (maxL := maxL) (ret := ret) ho hl hstt hini hcode hy hK hg (hsize.trans hml.symm) (argsL := As) (rest := rest) (fun sig h => hn.trans (hlen sig h)) hstack hW (by rw [hb]; exact hdg)
    (fun vm₁ hW₁ => ⟨hf.1, hf.2, hp.2 (T.setVm vm₁) hT hW₁⟩) with ⟨v, vm₁, ⟨U', l2, c2, s2⟩, hW₁, X', ⟨g', mk, t, L, e1, e2, hq, h1, hL, h2, h3⟩, st⟩ | ⟨q, vm₁, ⟨U', l2, c2, s2⟩, hW₁, X', ⟨g', mk, t, L, E, ce, e1, e2, hq, hce, hcv, hcl, h1, hL, h2, h3⟩, st⟩
  · dsimp only [Pt.U, Pt.locs, Pt.cells, Pt.slots] at X' e1 e2 h1 h2 h3 st
    subst h1; subst h2; subst h3
    exact Or.inl ⟨v, (T.setVm vm₁).calling g' mk As.toArray, t, U', L, hT, X', hL, e1, e2, hq, st⟩
  · dsimp only [Pt.U, Pt.locs, Pt.cells, Pt.slots] at X' e1 e2 h1 h2 h3 st hcl
    subst h1; subst h2; subst h3
    exact Or.inr ⟨q, (T.setVm vm₁).calling g' mk As.toArray, t, U', L, E, ce, hT, X', hL, e1, e2, hq, hce, hcv, vx_cls hW₁ hcl, st⟩
end Runs
section Rows
variable {p : Program} {l : Launch} {e : Env} {R : Room} {s : State} {m : MethodId} {args : Array Value} {below : List Frame} {meth : Method} {c : Code} {H : Heap} {locs : List Loc} {cells slots : Nat} {Q : State → Prop}
variable {mc ms : Nat} {free : Addr → Prop} {A0 A1 : Nat → Prop} {H0 : Heap} {a : Array Value} {pc : Nat} {ls : Array Slot} {st0 rest : List Value}
theorem vx_keep {st₀ t T' : State} {L : List Loc} (h0 : st₀.heap = H) (e1 : T'.heap = t.heap) (hS : va_S A0 H0 H locs) (hA : ∀ q, q < H.size → A1 q → A0 q) (hf : ∀ q, free q → A0 q) (hL : ∀ q ∈ L, free q.base) (hF : va_F A1 st₀ t) :
    H.size ≤ T'.heap.size ∧ (∀ q : Nat, q < H.size → ¬ A1 q → T'.heap[q]? = H[q]?) ∧ va_S A0 H0 T'.heap (locs ++ L) := by
  obtain ⟨hz, hk⟩ := hF
  rw [h0] at hz hk
  exact ⟨by rw [e1]; exact hz, fun q h1 h2 => by rw [e1]; exact hk q h1 h2,
    ⟨Nat.le_trans hS.1 (by rw [e1]; exact hz), fun q h1 h2 => by rw [e1, hk q (Nat.lt_of_lt_of_le h1 hS.1) (fun z => h2 (hA q (Nat.lt_of_lt_of_le h1 hS.1) z))]; exact hS.2.1 q h1 h2, fun q hq => by
      rcases List.mem_append.mp hq with h | h
      · exact hS.2.2 q h
      · exact hf _ (hL q h)⟩⟩
theorem vx_calli {S SX : Type} {post : Int32 → S → Prop} {px : SX → Prop} {B : S → State → Prop} {BX : String → SX → State → Prop} {AX : Nat → Prop} (hr : vx_Run p l e R s m args below meth c H locs cells slots mc ms (F0 m pc ls st0) rest (va_Qi post B A1 a) (vx_X px BX AX) free) (hS : va_S A0 H0 H locs) (hA : ∀ q, q < H.size → A1 q → A0 q) (hf : ∀ q, free q → A0 q) (hAX : ∀ q, q < H.size → AX q → A0 q)
    (kx : ∀ (E : String) (ce : Cell) (q9 : Addr) (u : SX) (t : State) (H1 : Heap) (locs1 : List Loc), t.heap = H1 → s.vm.Alike t.vm → px u → BX E u t → H.size ≤ H1.size → (∀ q : Nat, q < H.size → ¬ AX q → H1[q]? = H[q]?) → va_S A0 H0 H1 locs1 → H1[q9]? = some ce → ce.vm = .none → s.vm.findClass E = some ce.cls → vx_W p l e R s m args below meth c H1 locs1 (cells + mc) (slots + ms) Q (F0 m pc ls rest) q9)
    (kk : ∀ (r : Int32) (u : S) (t : State) (H1 : Heap) (locs1 : List Loc), t.heap = H1 → s.vm.Alike t.vm → post r u → B u t → H.size ≤ H1.size → (∀ q : Nat, q < H.size → ¬ A1 q → H1[q]? = H[q]?) → va_S A0 H0 H1 locs1 → W p l e R s m args below meth c H1 locs1 (cells + mc) (slots + ms) Q (F0 m (pc + 3) ls (.int r :: rest))) : W p l e R s m args below meth c H locs cells slots Q (F0 m pc ls st0) := by
  intro T hT X
  rcases hr T hT X with ⟨v, st₀, t, T', L, h0, X', hL, e1, e2, ⟨⟨r, u, hv, hp, hb⟩, hF⟩, st⟩ | ⟨q, st₀, t, T', L, E, ce, h0, X', hL, e1, e2, ⟨u, hp, hb, hF⟩, hce, hcv, hcl, st⟩
  · cases hv
    obtain ⟨k1, k2, k3⟩ := vx_keep h0 e1 hS hA hf hL hF
    obtain ⟨t2, a1, b1⟩ := kk r u t T'.heap (locs ++ L) e1.symm (by rw [← e2]; exact X'.warmed.alike) hp hb k1 k2 k3 T' rfl X'
    exact ⟨t2, st t2 a1, b1⟩
  · obtain ⟨k1, k2, k3⟩ := vx_keep h0 e1 hS hAX hf hL hF
    obtain ⟨t2, a1, b1⟩ := kx E ce q u t T'.heap (locs ++ L) e1.symm (by rw [← e2]; exact X'.warmed.alike) hp hb k1 k2 k3 (by rw [e1]; exact hce) hcv hcl T' rfl X'
    exact ⟨t2, st.trans a1, b1⟩
theorem vx_calll {S SX : Type} {post : Int64 → S → Prop} {px : SX → Prop} {B : S → State → Prop} {BX : String → SX → State → Prop} {AX : Nat → Prop} (hr : vx_Run p l e R s m args below meth c H locs cells slots mc ms (F0 m pc ls st0) rest (va_Ql post B A1 a) (vx_X px BX AX) free) (hS : va_S A0 H0 H locs) (hA : ∀ q, q < H.size → A1 q → A0 q) (hf : ∀ q, free q → A0 q) (hAX : ∀ q, q < H.size → AX q → A0 q)
    (kx : ∀ (E : String) (ce : Cell) (q9 : Addr) (u : SX) (t : State) (H1 : Heap) (locs1 : List Loc), t.heap = H1 → s.vm.Alike t.vm → px u → BX E u t → H.size ≤ H1.size → (∀ q : Nat, q < H.size → ¬ AX q → H1[q]? = H[q]?) → va_S A0 H0 H1 locs1 → H1[q9]? = some ce → ce.vm = .none → s.vm.findClass E = some ce.cls → vx_W p l e R s m args below meth c H1 locs1 (cells + mc) (slots + ms) Q (F0 m pc ls rest) q9)
    (kk : ∀ (r : Int64) (u : S) (t : State) (H1 : Heap) (locs1 : List Loc), t.heap = H1 → s.vm.Alike t.vm → post r u → B u t → H.size ≤ H1.size → (∀ q : Nat, q < H.size → ¬ A1 q → H1[q]? = H[q]?) → va_S A0 H0 H1 locs1 → W p l e R s m args below meth c H1 locs1 (cells + mc) (slots + ms) Q (F0 m (pc + 3) ls (.long r :: rest))) : W p l e R s m args below meth c H locs cells slots Q (F0 m pc ls st0) := by
  intro T hT X
  rcases hr T hT X with ⟨v, st₀, t, T', L, h0, X', hL, e1, e2, ⟨⟨r, u, hv, hp, hb⟩, hF⟩, st⟩ | ⟨q, st₀, t, T', L, E, ce, h0, X', hL, e1, e2, ⟨u, hp, hb, hF⟩, hce, hcv, hcl, st⟩
  · cases hv
    obtain ⟨k1, k2, k3⟩ := vx_keep h0 e1 hS hA hf hL hF
    obtain ⟨t2, a1, b1⟩ := kk r u t T'.heap (locs ++ L) e1.symm (by rw [← e2]; exact X'.warmed.alike) hp hb k1 k2 k3 T' rfl X'
    exact ⟨t2, st t2 a1, b1⟩
  · obtain ⟨k1, k2, k3⟩ := vx_keep h0 e1 hS hAX hf hL hF
    obtain ⟨t2, a1, b1⟩ := kx E ce q u t T'.heap (locs ++ L) e1.symm (by rw [← e2]; exact X'.warmed.alike) hp hb k1 k2 k3 (by rw [e1]; exact hce) hcv hcl T' rfl X'
    exact ⟨t2, st.trans a1, b1⟩
theorem vx_callf {S SX : Type} {post : UInt32 → S → Prop} {px : SX → Prop} {B : S → State → Prop} {BX : String → SX → State → Prop} {AX : Nat → Prop} (hr : vx_Run p l e R s m args below meth c H locs cells slots mc ms (F0 m pc ls st0) rest (va_Qf post B A1 a) (vx_X px BX AX) free) (hS : va_S A0 H0 H locs) (hA : ∀ q, q < H.size → A1 q → A0 q) (hf : ∀ q, free q → A0 q) (hAX : ∀ q, q < H.size → AX q → A0 q)
    (kx : ∀ (E : String) (ce : Cell) (q9 : Addr) (u : SX) (t : State) (H1 : Heap) (locs1 : List Loc), t.heap = H1 → s.vm.Alike t.vm → px u → BX E u t → H.size ≤ H1.size → (∀ q : Nat, q < H.size → ¬ AX q → H1[q]? = H[q]?) → va_S A0 H0 H1 locs1 → H1[q9]? = some ce → ce.vm = .none → s.vm.findClass E = some ce.cls → vx_W p l e R s m args below meth c H1 locs1 (cells + mc) (slots + ms) Q (F0 m pc ls rest) q9)
    (kk : ∀ (r : UInt32) (u : S) (t : State) (H1 : Heap) (locs1 : List Loc), t.heap = H1 → s.vm.Alike t.vm → post r u → B u t → H.size ≤ H1.size → (∀ q : Nat, q < H.size → ¬ A1 q → H1[q]? = H[q]?) → va_S A0 H0 H1 locs1 → W p l e R s m args below meth c H1 locs1 (cells + mc) (slots + ms) Q (F0 m (pc + 3) ls (.float r :: rest))) : W p l e R s m args below meth c H locs cells slots Q (F0 m pc ls st0) := by
  intro T hT X
  rcases hr T hT X with ⟨v, st₀, t, T', L, h0, X', hL, e1, e2, ⟨⟨r, u, hv, hp, hb⟩, hF⟩, st⟩ | ⟨q, st₀, t, T', L, E, ce, h0, X', hL, e1, e2, ⟨u, hp, hb, hF⟩, hce, hcv, hcl, st⟩
  · cases hv
    obtain ⟨k1, k2, k3⟩ := vx_keep h0 e1 hS hA hf hL hF
    obtain ⟨t2, a1, b1⟩ := kk r u t T'.heap (locs ++ L) e1.symm (by rw [← e2]; exact X'.warmed.alike) hp hb k1 k2 k3 T' rfl X'
    exact ⟨t2, st t2 a1, b1⟩
  · obtain ⟨k1, k2, k3⟩ := vx_keep h0 e1 hS hAX hf hL hF
    obtain ⟨t2, a1, b1⟩ := kx E ce q u t T'.heap (locs ++ L) e1.symm (by rw [← e2]; exact X'.warmed.alike) hp hb k1 k2 k3 (by rw [e1]; exact hce) hcv hcl T' rfl X'
    exact ⟨t2, st.trans a1, b1⟩
theorem vx_calld {S SX : Type} {post : UInt64 → S → Prop} {px : SX → Prop} {B : S → State → Prop} {BX : String → SX → State → Prop} {AX : Nat → Prop} (hr : vx_Run p l e R s m args below meth c H locs cells slots mc ms (F0 m pc ls st0) rest (va_Qd post B A1 a) (vx_X px BX AX) free) (hS : va_S A0 H0 H locs) (hA : ∀ q, q < H.size → A1 q → A0 q) (hf : ∀ q, free q → A0 q) (hAX : ∀ q, q < H.size → AX q → A0 q)
    (kx : ∀ (E : String) (ce : Cell) (q9 : Addr) (u : SX) (t : State) (H1 : Heap) (locs1 : List Loc), t.heap = H1 → s.vm.Alike t.vm → px u → BX E u t → H.size ≤ H1.size → (∀ q : Nat, q < H.size → ¬ AX q → H1[q]? = H[q]?) → va_S A0 H0 H1 locs1 → H1[q9]? = some ce → ce.vm = .none → s.vm.findClass E = some ce.cls → vx_W p l e R s m args below meth c H1 locs1 (cells + mc) (slots + ms) Q (F0 m pc ls rest) q9)
    (kk : ∀ (r : UInt64) (u : S) (t : State) (H1 : Heap) (locs1 : List Loc), t.heap = H1 → s.vm.Alike t.vm → post r u → B u t → H.size ≤ H1.size → (∀ q : Nat, q < H.size → ¬ A1 q → H1[q]? = H[q]?) → va_S A0 H0 H1 locs1 → W p l e R s m args below meth c H1 locs1 (cells + mc) (slots + ms) Q (F0 m (pc + 3) ls (.double r :: rest))) : W p l e R s m args below meth c H locs cells slots Q (F0 m pc ls st0) := by
  intro T hT X
  rcases hr T hT X with ⟨v, st₀, t, T', L, h0, X', hL, e1, e2, ⟨⟨r, u, hv, hp, hb⟩, hF⟩, st⟩ | ⟨q, st₀, t, T', L, E, ce, h0, X', hL, e1, e2, ⟨u, hp, hb, hF⟩, hce, hcv, hcl, st⟩
  · cases hv
    obtain ⟨k1, k2, k3⟩ := vx_keep h0 e1 hS hA hf hL hF
    obtain ⟨t2, a1, b1⟩ := kk r u t T'.heap (locs ++ L) e1.symm (by rw [← e2]; exact X'.warmed.alike) hp hb k1 k2 k3 T' rfl X'
    exact ⟨t2, st t2 a1, b1⟩
  · obtain ⟨k1, k2, k3⟩ := vx_keep h0 e1 hS hAX hf hL hF
    obtain ⟨t2, a1, b1⟩ := kx E ce q u t T'.heap (locs ++ L) e1.symm (by rw [← e2]; exact X'.warmed.alike) hp hb k1 k2 k3 (by rw [e1]; exact hce) hcv hcl T' rfl X'
    exact ⟨t2, st.trans a1, b1⟩
theorem vx_callv {S SX : Type} {post : S → Prop} {px : SX → Prop} {B : S → State → Prop} {BX : String → SX → State → Prop} {AX : Nat → Prop} (hr : vx_Run p l e R s m args below meth c H locs cells slots mc ms (F0 m pc ls st0) rest (va_Qv post B A1 a) (vx_X px BX AX) free) (hS : va_S A0 H0 H locs) (hA : ∀ q, q < H.size → A1 q → A0 q) (hf : ∀ q, free q → A0 q) (hAX : ∀ q, q < H.size → AX q → A0 q)
    (kx : ∀ (E : String) (ce : Cell) (q9 : Addr) (u : SX) (t : State) (H1 : Heap) (locs1 : List Loc), t.heap = H1 → s.vm.Alike t.vm → px u → BX E u t → H.size ≤ H1.size → (∀ q : Nat, q < H.size → ¬ AX q → H1[q]? = H[q]?) → va_S A0 H0 H1 locs1 → H1[q9]? = some ce → ce.vm = .none → s.vm.findClass E = some ce.cls → vx_W p l e R s m args below meth c H1 locs1 (cells + mc) (slots + ms) Q (F0 m pc ls rest) q9)
    (kk : ∀ (u : S) (t : State) (H1 : Heap) (locs1 : List Loc), t.heap = H1 → s.vm.Alike t.vm → post u → B u t → H.size ≤ H1.size → (∀ q : Nat, q < H.size → ¬ A1 q → H1[q]? = H[q]?) → va_S A0 H0 H1 locs1 → W p l e R s m args below meth c H1 locs1 (cells + mc) (slots + ms) Q (F0 m (pc + 3) ls (rest))) : W p l e R s m args below meth c H locs cells slots Q (F0 m pc ls st0) := by
  intro T hT X
  rcases hr T hT X with ⟨v, st₀, t, T', L, h0, X', hL, e1, e2, ⟨⟨u, hv, hp, hb⟩, hF⟩, st⟩ | ⟨q, st₀, t, T', L, E, ce, h0, X', hL, e1, e2, ⟨u, hp, hb, hF⟩, hce, hcv, hcl, st⟩
  · cases hv
    obtain ⟨k1, k2, k3⟩ := vx_keep h0 e1 hS hA hf hL hF
    obtain ⟨t2, a1, b1⟩ := kk u t T'.heap (locs ++ L) e1.symm (by rw [← e2]; exact X'.warmed.alike) hp hb k1 k2 k3 T' rfl X'
    exact ⟨t2, st t2 a1, b1⟩
  · obtain ⟨k1, k2, k3⟩ := vx_keep h0 e1 hS hAX hf hL hF
    obtain ⟨t2, a1, b1⟩ := kx E ce q u t T'.heap (locs ++ L) e1.symm (by rw [← e2]; exact X'.warmed.alike) hp hb k1 k2 k3 (by rw [e1]; exact hce) hcv hcl T' rfl X'
    exact ⟨t2, st.trans a1, b1⟩
/-- caught by the row x of this method's table; the rows ahead don't take it -/
theorem vx_catch {own name : String} {E : String} {ce : Cell} {q : Addr} (hown : s.vm.findClass own = some m.cls) (pre : List ExceptionTableEntry) (x : ExceptionTableEntry) (suf : List ExceptionTableEntry) (hsplit : c.exceptionTable.toList = pre ++ x :: suf)
    (hpass : ∀ z ∈ pre, covers z pc = false ∨ (z.catchType ≠ 0 ∧ ∃ nm : String, (Cond.classLink own z.catchType nm).before args s = true ∧ va_Nc E nm s)) (hx : covers x pc = true) (h0 : x.catchType ≠ 0)
    (hlink : (Cond.classLink own x.catchType name).before args s = true) (hcast : (Cond.castable E name).before args s = true) (hcell : H[q]? = some ce) (hv : ce.vm = .none) (hcl : s.vm.findClass E = some ce.cls)
    (kk : W p l e R s m args below meth c H locs cells slots Q (F0 m x.handlerPc ls [.ref q])) : vx_W p l e R s m args below meth c H locs cells slots Q (F0 m pc ls rest) q := by
  intro T hT X
  have hpl : e.platform.magicAccessors = ({} : Platform).magicAccessors := by rw [X.admits.platform]
  obtain ⟨c3, c4, hc3, hc4, hasg⟩ := Cond.castable_spec hcast
  cases Option.some.inj (hc3.symm.trans hcl)
  obtain ⟨c5, hc5, hcl5⟩ := Cond.classLink_spec hown hlink e.platform hpl
  cases Option.some.inj (hc4.symm.trans hc5)
  obtain ⟨vm', X', st⟩ := X.thenCaughtThrough q (g := F0 m pc ls rest) rfl (Steps.refl _) (by rw [hT]; exact hcell) (by rw [hv]; rfl) (by obtain ⟨k9, h9, -⟩ := Vm.findClass_spec hcl; exact ⟨k9, h9⟩) pre x suf hsplit
    (fun z hz => by
      rcases hpass z hz with h | ⟨hz0, nm, hl1, hn1⟩
      · exact Or.inl h
      · obtain ⟨c6, hc6, hcl6⟩ := Cond.classLink_spec hown hl1 e.platform hpl
        obtain ⟨a8, b8, h1, h2, h3⟩ := hn1
        cases Option.some.inj (h1.symm.trans hcl)
        cases Option.some.inj (h2.symm.trans hc6)
        exact Or.inr ⟨hz0, _, hcl6, h3⟩) hx (Or.inr ⟨h0, c4, hcl5, hasg⟩)
  obtain ⟨t, a1, b1⟩ := kk (T.setVm vm') hT X'
  exact ⟨t, st.trans a1, b1⟩
end Rows
section Ends
variable {p : Program} {l : Launch} {e : Env} {R : Room} {s : State} {m : MethodId} {args : Array Value} {below : List Frame} {meth : Method} {c : Code} {H : Heap} {locs : List Loc} {cells slots : Nat} {Q : State → Prop}
variable {mc ms : Nat} {free : Addr → Prop} {A0 A1 : Nat → Prop} {H0 : Heap} {a : Array Value} {ls : Array Slot} {st0 rest : List Value}
variable {Qc : Array Value → State → Outcome → State → Prop} {XC : String → State → State → Prop}
/-- what a body that may throw owes at its end -/
def vx_MQ (below : List Frame) (Qc : Array Value → State → Outcome → State → Prop) (XC : String → State → State → Prop) (a : Array Value) (s : State) (mc ms : Nat) (free : Addr → Prop) : State → Prop := fun t =>
  ∃ o, t.status = .running ∧ Ended t below o ∧ vx_Q Qc XC mc ms free a s o t
theorem vx_ret {g : JFrame} {mc ms : Nat} (k : W p l e R s m args below meth c H locs cells slots (MQ below Qc args s mc ms free) g) : W p l e R s m args below meth c H locs cells slots (vx_MQ below Qc XC args s mc ms free) g := by
  intro T hT X
  obtain ⟨t, a1, o, b1, b2, b3, b4⟩ := k T hT X
  exact ⟨t, a1, o, b1, b2, Or.inl ⟨b3, b4⟩⟩
/-- not caught here: it goes on to the caller -/
theorem vx_widen {g : JFrame} {q : Addr} {k n : Nat} (h1 : cells ≤ k) (h2 : slots ≤ n) (kk : vx_W p l e R s m args below meth c H locs k n Q g q) : vx_W p l e R s m args below meth c H locs cells slots Q g q := fun T hT X => kk T hT (stand_widen X h1 h2)
theorem vx_out {pc : Nat} {E : String} {ce : Cell} {q : Addr} {mc ms : Nat} (hout : ∀ x ∈ c.exceptionTable.toList, covers x pc = false) (hlocks : meth.locks = false) (hcell : H[q]? = some ce) (hv : ce.vm = .none) (hcl : s.vm.findClass E = some ce.cls)
    (hx : ∀ t : State, t.heap = H → s.vm.Alike t.vm → XC E s t) (hf : ∀ z ∈ locs, free z.base) (hc : cells ≤ mc) (hs : slots ≤ ms) :
    vx_W p l e R s m args below meth c H locs cells slots (vx_MQ below Qc XC args s mc ms free) (F0 m pc ls rest) q := by
  intro T hT X
  obtain ⟨st1, hrun, hend, hW, hsm⟩ := X.leaveThrown q (g := F0 m pc ls rest) rfl rfl rfl hout hlocks
  have hcell9 : (T.setFrames (.throwing q :: below)).heap[q]? = some ce := by
    show T.heap[q]? = some ce
    rw [hT]; exact hcell
  exact ⟨_, st1, .threw q, hrun, hend, Or.inr ⟨q, rfl, E, ce, locs, hx _ hT hW.alike, hcell9, hv, hcl, hW, hsm.mono hc hs, hf⟩⟩
theorem vx_frame {U : State} {k n : Nat} (h : s.sameButNew ({ U with vm := s.vm } : State) locs k n) : s.heap.size ≤ U.heap.size ∧ ∀ q : Nat, q < s.heap.size → (∀ z ∈ locs, z.base ≠ q) → U.heap[q]? = s.heap[q]? := by
  obtain ⟨-, h2, -, -, -, h6⟩ := h
  refine ⟨h2, fun q hq hz => ?_⟩
  obtain ⟨c9, e1, e2, e3, e4⟩ := h6 q _ (Array.getElem?_eq_getElem hq)
  have hs : c9.slots = (s.heap[q]).slots := Array.ext_getElem? fun i => e4 i fun hm => hz _ hm rfl
  have h9 : c9 = s.heap[q] := by
    rw [hs] at e2
    exact e2
  have e5 : U.heap[q]? = some c9 := e1
  rw [e5, h9, Array.getElem?_eq_getElem hq]
/-- the words of a throw but the four that speak of the heap -/
def vx_no (w : Cond) : Bool := decide (w ≠ .isRef (.static Bundle.tN "UNASSIGNED_STACK" Bundle.steD)) && decide (w ≠ .isRef (.static Bundle.tN "SUPPRESSED_SENTINEL" Bundle.listD)) && decide (w ≠ .laysStatic Bundle.tN "UNASSIGNED_STACK" Bundle.steD) && decide (w ≠ .laysStatic Bundle.tN "SUPPRESSED_SENTINEL" Bundle.listD)
def vx_at0 (own : String) (ic : Nat) (X : String) (names : List String) : List Cond := (Bundle.ownAtoms0 own ic X names).filter vx_no
def vx_atS (own : String) (ic : Nat) (X : String) (names : List String) : List Cond := (Bundle.ownAtoms own ic X names).filter vx_no
/-- a word that the tables alone decide, or a good one -/
def vx_ot (w : Cond) : Bool := w.onTables || goodWord w
theorem vx_ot_at {args a' : Array Value} {s U : State} {w : Cond} (hW : s.WarmedH U.vm) (hvm : s.vm = U.vm) (hg : vx_ot w = true) (h : w.before args s = true) : w.before a' U = true := by
  simp only [vx_ot, Bool.or_eq_true] at hg
  rcases hg with hg | hg
  · exact va_tabs hg hvm h
  · exact word_at hW (good_of_word hg) h
/-- a list's words: the good ones out of the method's own list, the others by premises of their own -/
theorem vx_hat {args : Array Value} {s : State} {L B : List Cond} (h1 : ∀ w ∈ L.filter goodWord, w.before args s = true) (h2 : ∀ w ∈ L.filter (fun w => !goodWord w), w ∈ B) (h3 : ∀ w ∈ B, w.before args s = true) : ∀ w ∈ L, w.before args s = true := by
  intro w hw
  by_cases g : goodWord w = true
  · exact h1 w (List.mem_filter.mpr ⟨hw, g⟩)
  · refine h3 w (h2 w (List.mem_filter.mpr ⟨hw, ?_⟩))
    show (!goodWord w) = true
    cases hgw : goodWord w
    · rfl
    · exact absurd hgw g
theorem vx_c {args : Array Value} {s : State} {w : Cond} {B : List Cond} (h : w.before args s = true) (t : ∀ w ∈ B, w.before args s = true) : ∀ w' ∈ w :: B, w'.before args s = true := fun w' h' => (List.mem_cons.mp h').elim (fun e => by rw [e]; exact h) (t w')
theorem vx_n {args : Array Value} {s : State} : ∀ w ∈ ([] : List Cond), w.before args s = true := fun _ h => nomatch h
theorem vx_own {args : Array Value} {s : State} {L : List Cond} (h1 : ∀ w ∈ L.filter vx_no, w.before args s = true)
    (hU : (Cond.isRef (.static Bundle.tN "UNASSIGNED_STACK" Bundle.steD)).before args s = true) (hN : (Cond.isRef (.static Bundle.tN "SUPPRESSED_SENTINEL" Bundle.listD)).before args s = true)
    (lU : (Cond.laysStatic Bundle.tN "UNASSIGNED_STACK" Bundle.steD).before args s = true) (lN : (Cond.laysStatic Bundle.tN "SUPPRESSED_SENTINEL" Bundle.listD).before args s = true) : ∀ w ∈ L, w.before args s = true := by
  intro w hw
  by_cases e1 : w = .isRef (.static Bundle.tN "UNASSIGNED_STACK" Bundle.steD)
  · rw [e1]; exact hU
  · by_cases e2 : w = .isRef (.static Bundle.tN "SUPPRESSED_SENTINEL" Bundle.listD)
    · rw [e2]; exact hN
    · by_cases e3 : w = .laysStatic Bundle.tN "UNASSIGNED_STACK" Bundle.steD
      · rw [e3]; exact lU
      · by_cases e4 : w = .laysStatic Bundle.tN "SUPPRESSED_SENTINEL" Bundle.listD
        · rw [e4]; exact lN
        · exact h1 w (List.mem_filter.mpr ⟨hw, by unfold vx_no; rw [decide_eq_true e1, decide_eq_true e2, decide_eq_true e3, decide_eq_true e4]; rfl⟩)
/-- where a static field lies, its class's statics cell in H -/
def vx_L (C n d : String) (A : Nat → Prop) (U : State) (H : Heap) : Prop := ∃ (c : ClassId) (k : Class) (i : Nat) (f : Field) (a : Nat) (cell : Cell), U.vm.findClass C = some c ∧ U.fieldFound? C n d = some (c, k, i, f) ∧ f.isStatic = true ∧ k.statics = some a ∧ H[a]? = some cell ∧ cell.vm.isStatics = true ∧ cell.cls = c ∧ f.slot < cell.slots.size ∧ k.staticTypes[f.slot]? = some f.type ∧ ¬ A a
theorem vx_L.moved {C n d : String} {A : Nat → Prop} {u U : State} {H : Heap} (hvm : u.vm.Alike U.vm) (h : vx_L C n d A u H) : vx_L C n d A U H := by
  obtain ⟨c, k, i, f, a, cell, h1, h2, h3, h4, h5, h6, h7, h8, h9, h10⟩ := h
  obtain ⟨k', hi', he⟩ := State.fieldFound?_setVm hvm h2
  exact ⟨c, k', i, f, a, cell, by rw [hvm.findClass]; exact h1, hi', h3, by rw [he]; exact h4, h5, h6, h7, h8, by rw [he]; exact h9, h10⟩
theorem vx_L.kept {C n d : String} {A : Nat → Prop} {U : State} {H H1 : Heap} (h : vx_L C n d A U H) (hq : ∀ a : Nat, a < H.size → ¬ A a → H1[a]? = H[a]?) : vx_L C n d A U H1 := by
  obtain ⟨c, k, i, f, a, cell, h1, h2, h3, h4, h5, h6, h7, h8, h9, h10⟩ := h
  exact ⟨c, k, i, f, a, cell, h1, h2, h3, h4, by rw [hq a (Array.getElem?_eq_some_iff.mp h5).1 h10]; exact h5, h6, h7, h8, h9, h10⟩
theorem vx_L.narrow {C n d : String} {A B : Nat → Prop} {U : State} {H : Heap} (h : vx_L C n d A U H) (hAB : ∀ q, B q → A q) : vx_L C n d B U H := by
  obtain ⟨c, k, i, f, a, cell, h1, h2, h3, h4, h5, h6, h7, h8, h9, h10⟩ := h
  exact ⟨c, k, i, f, a, cell, h1, h2, h3, h4, h5, h6, h7, h8, h9, fun z => h10 (hAB _ z)⟩
theorem vx_L.word {C n d : String} {A : Nat → Prop} {s : State} {args : Array Value} (h : vx_L C n d A s s.heap) : (Cond.laysStatic C n d).before args s = true := by
  obtain ⟨c, k, i, f, a, cell, h1, h2, h3, h4, h5, h6, h7, h8, h9, -⟩ := h
  show (Cond.laysStatic C n d).holds args s none s [] = true
  exact Cond.laysStatic_of h1 h2 h3 h4 h5 h6 h7 h8 h9
/-- .. and what it holds: null or some reference -/
def vx_Zq (C n d : String) (A : Nat → Prop) (U : State) (H : Heap) : Prop := va_Zq C n d A U H ∧ vx_L C n d A U H
theorem vx_Zq.moved {C n d : String} {A : Nat → Prop} {u U : State} {H : Heap} (hvm : u.vm.Alike U.vm) (h : vx_Zq C n d A u H) : vx_Zq C n d A U H := ⟨va_Zq.moved hvm h.1, vx_L.moved hvm h.2⟩
theorem vx_Zq.kept {C n d : String} {A : Nat → Prop} {U : State} {H H1 : Heap} (h : vx_Zq C n d A U H) (hq : ∀ a : Nat, a < H.size → ¬ A a → H1[a]? = H[a]?) : vx_Zq C n d A U H1 := ⟨va_Zq.kept h.1 hq, vx_L.kept h.2 hq⟩
theorem vx_Zq.narrow {C n d : String} {A B : Nat → Prop} {U : State} {H : Heap} (h : vx_Zq C n d A U H) (hAB : ∀ q, B q → A q) : vx_Zq C n d B U H := ⟨va_Zq.narrow h.1 hAB, vx_L.narrow h.2 hAB⟩
theorem vx_Zqof {args : Array Value} {s : State} {C n d : String} {A : Nat → Prop} (hl : (Cond.laysStatic C n d).before args s = true) (hini : (Cond.initialized C).before args s = true) (h : (Cond.isRef (.static C n d)).before args s = true) (hA : ∀ a : Nat, a < s.heap.size → ¬ A a) : vx_Zq C n d A s s.heap := by
  refine ⟨va_Zqof hl hini h hA, ?_⟩
  obtain ⟨c, k, i, f, a, cell, h1, h2, h3, h4, h5, h6, h7, h8, h9⟩ := Cond.laysStatic_spec hl
  exact ⟨c, k, i, f, a, cell, h1, h2, h3, h4, h5, h6, h7, h8, h9, hA a (Array.getElem?_eq_some_iff.mp h5).1⟩
theorem vx_isRef {C n d : String} {v : Value} {A : Nat → Prop} {s : State} {args : Array Value} (h : va_Z C n d v A s s.heap) (hv : v.isRef = true) : (Cond.isRef (.static C n d)).before args s = true := by
  obtain ⟨cf, kf, fi, f, a, cell, h1, h2, h3, h4, h5, h6, h7, -⟩ := h
  have he : (Term.static C n d).eval args s none [] s = some v := by
    simp [Term.eval, State.fieldNamed?, h1, h2, h4, h5, h6, h7]
  simp only [Cond.before, Cond.holds, Cond.value, he]
  cases v <;> simp_all [Value.isRef]
theorem vx_isRefq {C n d : String} {A : Nat → Prop} {s : State} {args : Array Value} (h : va_Zq C n d A s s.heap) : (Cond.isRef (.static C n d)).before args s = true := by
  rcases h with h | ⟨t, h⟩
  · exact vx_isRef h rfl
  · exact vx_isRef h rfl
/-- the same frame, seen from here: as if the method were called anew in this heap -/
theorem vx_rebase {T : State} (X : Stand p l e R s m args below meth c T locs cells slots) {R' : Room} (hf : R'.frames ≤ R.frames) (hl : R'.locals ≤ R.locals) (hc : cells + R'.cells ≤ R.cells) (hs : slots + R'.slots ≤ R.slots) :
    Stand p l e R' ((T.setVm s.vm).setFrames (.invoking m args :: below)) m args below meth c T [] 0 0 := by
  have htop : (T.setVm s.vm).topJava?.isSome := X.here.top
  have hF : ((T.setVm s.vm).setFrames (.invoking m args :: below)).frames = .invoking m args :: below := State.frames_setFrames _ (State.cur_lt_of_top htop)
  obtain ⟨g₀, hg0⟩ := Option.isSome_iff_exists.mp htop
  obtain ⟨r, hr⟩ := State.topJava?_eq_some.mp hg0
  have hl9 : e.platform.stackLimits (T.setVm s.vm).me = e.platform.stackLimits s.me := X.limits
  have hb9 : (T.setVm s.vm).me.stackBytes = s.me.stackBytes := X.bytes
  refine ⟨X.admits, X.cas, X.clock, hF, ?_, X.hears, X.method, X.code, X.here, X.tail, X.warmed, ?_, ?_, ?_⟩
  · have h := X.room
    have hU : ((T.setVm s.vm).setFrames (.invoking m args :: below)).localsInUse = s.localsInUse := by
      rw [State.localsInUse_invoking hF (meth := meth) (c := c) X.method X.code, State.localsInUse_invoking X.frames X.method X.code]
    simp only [State.hasRoom, Bool.and_eq_true, decide_eq_true_eq] at h ⊢
    obtain ⟨⟨⟨⟨h1, h2, h3, h4, h5, h6⟩, h7⟩, h8⟩, h9⟩ := h
    rw [X.frames, List.length_cons] at h2 h3
    have q1 := X.heapSize
    have q2 := X.used
    simp only [hF, hU, List.length_cons, State.stackLimits_setFrames, State.stackBytes_setFrames, hl9, hb9]
    refine ⟨⟨⟨⟨by omega, by omega, by omega, by omega, by omega, h6⟩, ?_⟩, ?_⟩, X.book⟩
    · show T.heap.size + R'.cells ≤ e.platform.maxCells
      omega
    · show T.slotsUsed + R'.slots ≤ e.platform.maxSlots
      omega
  · rw [State.stackLimits_setFrames]; rfl
  · rw [State.stackBytes_setFrames]; rfl
  · refine ⟨?_, Nat.le_refl _, Nat.le_refl _, ?_, ?_, fun a c9 h9 => ⟨c9, h9, rfl, rfl, fun _ _ => rfl⟩⟩
    · obtain ⟨t, ht, -⟩ := State.frames_cons hr
      show T.setVm s.vm = { ((T.setVm s.vm).setFrames (.invoking m args :: below)).setFrames (T.setVm s.vm).frames with heap := T.heap, slotsUsed := T.slotsUsed }
      rw [State.setFrames_setFrames, State.setFrames_self ht]
      rfl
    · show T.slotsUsed = T.slotsUsed + ((T.heap.toList.drop T.heap.size).map (·.slots.size)).sum
      rw [List.drop_eq_nil_of_le (Nat.le_of_eq Array.length_toList)]
      rfl
    · show ((T.heap.toList.drop T.heap.size).map (·.slots.size)).sum ≤ 0
      rw [List.drop_eq_nil_of_le (Nat.le_of_eq Array.length_toList)]
      exact Nat.le_refl _
/-- 'throw new E()': new; dup; invokespecial; athrow -/
theorem vx_throw0 {cc : ByteArray} {pc : Nat} (hexec : p.tables.exec = Jvm.exec) (hb : c.code = cc) (hl : l.stackTraces = false) {own cls : String} {names : List String} {ik ic mc ms : Nat} {A : Nat → Prop}
    (hown : s.vm.findClass own = some m.cls) (hcls : Bundle.fit cls = true) (hnames : ∀ n ∈ names, Bundle.fit n = true)
    (hk : (Cond.classLink own ik cls).before args s = true) (hini : (Cond.initialized cls).before args s = true) (hat : ∀ w ∈ vx_at0 own ic cls names, w.before args s = true)
    (hgood : ∀ w ∈ Cond.classLink own ik cls :: Cond.initialized cls :: vx_at0 own ic cls names, vx_ot w = true)
    (hU : vx_Zq Bundle.tN "UNASSIGNED_STACK" Bundle.steD A s s.heap) (hN : vx_Zq Bundle.tN "SUPPRESSED_SENTINEL" Bundle.listD A s s.heap) (hS : va_S A s.heap H locs) (hsize : ls.size = c.maxLocals)
    (d0 : decode cc pc = .ok (.new ik, 3)) (d3 : decode cc (pc + 3) = .ok (.dup, 1)) (d4 : decode cc (pc + 4) = .ok (.invokespecial ic, 3)) (d7 : decode cc (pc + 7) = .ok (.athrow, 1))
    (hout : ∀ x ∈ c.exceptionTable.toList, covers x (pc + 7) = false)
    (hRframes : names.length + 3 < R.frames) (hRlocals : (rest.map fun v => v.category).sum + (13 * (names.length + 1) + 42) ≤ R.locals) (hRcells : cells + 1 ≤ R.cells) (hRslots : slots + 6 ≤ R.slots) (hlocks : meth.locks = false)
    (hx : ∀ t : State, s.vm.Alike t.vm → H.size ≤ t.heap.size → (∀ q : Nat, q < H.size → t.heap[q]? = H[q]?) → XC cls s t)
    (hf : ∀ z ∈ locs, free z.base) (hc : cells + 1 ≤ mc) (hs : slots + 6 ≤ ms) :
    W p l e R s m args below meth c H locs cells slots (vx_MQ below Qc XC args s mc ms free) (F0 m pc ls rest) := by
  intro T hT X
  have htr : e.platform.stackTraces = false := (show e.platform.stackTraces = l.stackTraces by rw [X.admits.platform]).trans hl
  have Y := vx_rebase X (R' := { frames := R.frames, locals := R.locals, cells := 1, slots := 6 }) (Nat.le_refl _) (Nat.le_refl _) hRcells hRslots
  obtain ⟨s', hA⟩ : ∃ z, z = (T.setVm s.vm).setFrames (.invoking m args :: below) := ⟨_, rfl⟩
  rw [← hA] at Y
  have hvm : s'.vm = s.vm := by rw [hA]; rfl
  have hhp : s'.heap = H := by rw [hA]; exact hT
  have hW0 : s.WarmedH s'.vm := by rw [hvm]; exact State.WarmedH.refl s
  have hat' : ∀ w ∈ vx_at0 own ic cls names, w.before args s' = true := fun w hw => vx_ot_at hW0 hvm.symm (hgood w (List.mem_cons_of_mem _ (List.mem_cons_of_mem _ hw))) (hat w hw)
  have hk' : (Cond.classLink own ik cls).before args s' = true := vx_ot_at hW0 hvm.symm (hgood _ List.mem_cons_self) hk
  have hini' : (Cond.initialized cls).before args s' = true := vx_ot_at hW0 hvm.symm (hgood _ (List.mem_cons_of_mem _ List.mem_cons_self)) hini
  have hU' : vx_Zq Bundle.tN "UNASSIGNED_STACK" Bundle.steD A s' s'.heap := by rw [hhp]; exact vx_Zq.moved hW0.alike (hU.kept hS.2.1)
  have hN' : vx_Zq Bundle.tN "SUPPRESSED_SENTINEL" Bundle.listD A s' s'.heap := by rw [hhp]; exact vx_Zq.moved hW0.alike (hN.kept hS.2.1)
  have h : ∀ w ∈ Bundle.ownAtoms0 own ic cls names, w.before args s' = true := vx_own hat' (vx_isRefq hU'.1) (vx_isRefq hN'.1) hU'.2.word hN'.2.word
  have hown' : s'.vm.findClass own = some m.cls := by rw [hvm]; exact hown
  have hins : (Cond.instantiable cls 6).before args s' = true := h _ (by simp [Bundle.ownAtoms0])
  obtain ⟨vm₁, cX, kX, hfX, hkX, -, -, X₁, st1⟩ := Y.newCold hexec (own := own) (C := cls) (index := ik) (n := 6) hown' hk' hins hini'
    (g := F0 m pc ls rest) rfl (by rw [hb]; exact d0) (Nat.le_refl _) (Nat.le_refl _)
  generalize hT1 : (T.setVm vm₁).pushCell { cls := cX, slots := kX.instanceTypes.map defaultValue, vm := .none } = T1 at X₁ st1
  have hcat : (Value.ref T.heap.size).category = 1 := rfl
  have hcellA : T1.heap[T.heap.size]? = some (freshCell cX kX) := by rw [← hT1]; exact State.heap_pushCell_size _ _
  have d3' : decode c.code (pc + 3) = .ok (.dup, 1) := by rw [hb]; exact d3
  obtain ⟨U, hsteps, hrun, hend, hW, hsame, ce, hce, hO⟩ := X₁.ctorThrow0 hexec htr (own := own) (cls := cls) (names := names) (ic := ic) hown' hcls hnames h (fun x hx => nomatch hx) hfX hkX hcellA (by rw [hhp, hT]; exact Nat.le_refl _)
    (g := { method := m, pc := pc + 4, locals := ls, stack := .ref T.heap.size :: .ref T.heap.size :: rest, locked := none }) rfl hsize rfl rfl (rest := rest) rfl
    (by rw [hb]; exact d4) (by rw [hb]; exact d7) hout hRframes (by simp only [List.map_cons, List.sum_cons, hcat]; omega) hlocks
  obtain ⟨f1, f2⟩ := vx_frame hsame
  rw [hhp] at f1 f2
  have hWs : s.WarmedH U.vm := State.WarmedH.trans hW0 hW
  have hcl : s.vm.findClass cls = some ce.cls := by
    have h9 := hO.cls
    rw [hvm] at h9
    exact h9
  have hall : s.sameButNew ({ U with vm := s.vm } : State) locs mc ms := by
    subst hA
    obtain ⟨e1, e2⟩ := hsame
    rw [State.setFrames_setFrames] at e1
    have h2 : (T.setVm s.vm).sameButNew ({ U with vm := s.vm } : State) [] (0 + 1) (0 + 6) := ⟨e1, e2⟩
    have h3 := X.same.trans h2
    rw [List.append_nil] at h3
    exact h3.mono hc hs
  refine ⟨U, ?_, .threw T.heap.size, hrun, hend, Or.inr ⟨T.heap.size, rfl, cls, ce, locs, hx U hWs.alike f1 (fun q hq => f2 q hq (fun z hz => nomatch hz)), hce, hO.vm, hcl, hWs, hall, hf⟩⟩
  refine st1 _ ?_
  show Steps p.tables e below (T1.setTop { method := m, pc := pc + 3, locals := ls, stack := .ref T.heap.size :: rest, locked := none }) _
  jvm_step X₁.here [X₁.here.top, hexec, d3', Value.category]
  exact hsteps
/-- 'throw new E("text")': new; dup; ldc; invokespecial; athrow -/
theorem vx_throwS {cc : ByteArray} {pc : Nat} (hexec : p.tables.exec = Jvm.exec) (hb : c.code = cc) (hl : l.stackTraces = false) {own cls text : String} {names : List String} {ik is ic mc ms sa : Nat} {A : Nat → Prop}
    (hown : s.vm.findClass own = some m.cls) (hcls : Bundle.fit cls = true) (hnames : ∀ n ∈ names, Bundle.fit n = true)
    (hk : (Cond.classLink own ik cls).before args s = true) (hini : (Cond.initialized cls).before args s = true) (hstr : vk_R own is text sa s) (hat : ∀ w ∈ vx_atS own ic cls names, w.before args s = true)
    (hgood : ∀ w ∈ Cond.classLink own ik cls :: Cond.initialized cls :: vx_atS own ic cls names, vx_ot w = true)
    (hU : vx_Zq Bundle.tN "UNASSIGNED_STACK" Bundle.steD A s s.heap) (hN : vx_Zq Bundle.tN "SUPPRESSED_SENTINEL" Bundle.listD A s s.heap) (hS : va_S A s.heap H locs) (hsize : ls.size = c.maxLocals)
    (d0 : decode cc pc = .ok (.new ik, 3)) (d3 : decode cc (pc + 3) = .ok (.dup, 1)) (d4 : decode cc (pc + 4) = .ok (.ldc is, 2)) (d6 : decode cc (pc + 6) = .ok (.invokespecial ic, 3)) (d9 : decode cc (pc + 9) = .ok (.athrow, 1))
    (hout : ∀ x ∈ c.exceptionTable.toList, covers x (pc + 9) = false)
    (hRframes : names.length + 3 < R.frames) (hRlocals : (rest.map fun v => v.category).sum + (13 * (names.length + 1) + 43) ≤ R.locals) (hRcells : cells + 1 ≤ R.cells) (hRslots : slots + 6 ≤ R.slots) (hlocks : meth.locks = false)
    (hx : ∀ t : State, s.vm.Alike t.vm → H.size ≤ t.heap.size → (∀ q : Nat, q < H.size → t.heap[q]? = H[q]?) → XC cls s t)
    (hf : ∀ z ∈ locs, free z.base) (hc : cells + 1 ≤ mc) (hs : slots + 6 ≤ ms) :
    W p l e R s m args below meth c H locs cells slots (vx_MQ below Qc XC args s mc ms free) (F0 m pc ls rest) := by
  intro T hT X
  have htr : e.platform.stackTraces = false := (show e.platform.stackTraces = l.stackTraces by rw [X.admits.platform]).trans hl
  have Y := vx_rebase X (R' := { frames := R.frames, locals := R.locals, cells := 1, slots := 6 }) (Nat.le_refl _) (Nat.le_refl _) hRcells hRslots
  obtain ⟨s', hA⟩ : ∃ z, z = (T.setVm s.vm).setFrames (.invoking m args :: below) := ⟨_, rfl⟩
  rw [← hA] at Y
  have hvm : s'.vm = s.vm := by rw [hA]; rfl
  have hhp : s'.heap = H := by rw [hA]; exact hT
  have hW0 : s.WarmedH s'.vm := by rw [hvm]; exact State.WarmedH.refl s
  have hat' : ∀ w ∈ vx_atS own ic cls names, w.before args s' = true := fun w hw => vx_ot_at hW0 hvm.symm (hgood w (List.mem_cons_of_mem _ (List.mem_cons_of_mem _ hw))) (hat w hw)
  have hk' : (Cond.classLink own ik cls).before args s' = true := vx_ot_at hW0 hvm.symm (hgood _ List.mem_cons_self) hk
  have hini' : (Cond.initialized cls).before args s' = true := vx_ot_at hW0 hvm.symm (hgood _ (List.mem_cons_of_mem _ List.mem_cons_self)) hini
  have hU' : vx_Zq Bundle.tN "UNASSIGNED_STACK" Bundle.steD A s' s'.heap := by rw [hhp]; exact vx_Zq.moved hW0.alike (hU.kept hS.2.1)
  have hN' : vx_Zq Bundle.tN "SUPPRESSED_SENTINEL" Bundle.listD A s' s'.heap := by rw [hhp]; exact vx_Zq.moved hW0.alike (hN.kept hS.2.1)
  have h : ∀ w ∈ Bundle.ownAtoms own ic cls names, w.before args s' = true := vx_own hat' (vx_isRefq hU'.1) (vx_isRefq hN'.1) hU'.2.word hN'.2.word
  have hown' : s'.vm.findClass own = some m.cls := by rw [hvm]; exact hown
  have hins : (Cond.instantiable cls 6).before args s' = true := h _ (by simp [Bundle.ownAtoms])
  obtain ⟨vm₁, cX, kX, hfX, hkX, -, -, X₁, st1⟩ := Y.newCold hexec (own := own) (C := cls) (index := ik) (n := 6) hown' hk' hins hini'
    (g := F0 m pc ls rest) rfl (by rw [hb]; exact d0) (Nat.le_refl _) (Nat.le_refl _)
  generalize hT1 : (T.setVm vm₁).pushCell { cls := cX, slots := kX.instanceTypes.map defaultValue, vm := .none } = T1 at X₁ st1
  have hcat : (Value.ref T.heap.size).category = 1 := rfl
  have hcellA : T1.heap[T.heap.size]? = some (freshCell cX kX) := by rw [← hT1]; exact State.heap_pushCell_size _ _
  have d3' : decode c.code (pc + 3) = .ok (.dup, 1) := by rw [hb]; exact d3
  have d4' : decode c.code (pc + 4) = .ok (.ldc is, 2) := by rw [hb]; exact d4
  have hstr' : vk_R own is text sa s' := vk_R.warm hW0 hstr
  obtain ⟨U, hsteps, hrun, hend, hW, hsame, ce, hce, hO⟩ := X₁.ctorThrowS hexec htr (own := own) (cls := cls) (names := names) (ic := ic) hown' hcls hnames h (fun x hx => nomatch hx) hfX hkX hcellA (by rw [hhp, hT]; exact Nat.le_refl _) (msg := .ref sa) rfl
    (g := { method := m, pc := pc + 6, locals := ls, stack := .ref sa :: .ref T.heap.size :: .ref T.heap.size :: rest, locked := none }) rfl hsize rfl rfl (rest := rest) rfl
    (by rw [hb]; exact d6) (by rw [hb]; exact d9) hout hRframes (by simp only [List.map_cons, List.sum_cons, hcat]; omega) hlocks
  obtain ⟨f1, f2⟩ := vx_frame hsame
  rw [hhp] at f1 f2
  have hWs : s.WarmedH U.vm := State.WarmedH.trans hW0 hW
  have hcl : s.vm.findClass cls = some ce.cls := by
    have h9 := hO.cls
    rw [hvm] at h9
    exact h9
  have hall : s.sameButNew ({ U with vm := s.vm } : State) locs mc ms := by
    subst hA
    obtain ⟨e1, e2⟩ := hsame
    rw [State.setFrames_setFrames] at e1
    have h2 : (T.setVm s.vm).sameButNew ({ U with vm := s.vm } : State) [] (0 + 1) (0 + 6) := ⟨e1, e2⟩
    have h3 := X.same.trans h2
    rw [List.append_nil] at h3
    exact h3.mono hc hs
  refine ⟨U, ?_, .threw T.heap.size, hrun, hend, Or.inr ⟨T.heap.size, rfl, cls, ce, locs, hx U hWs.alike f1 (fun q hq => f2 q hq (fun z hz => nomatch hz)), hce, hO.vm, hcl, hWs, hall, hf⟩⟩
  refine st1 _ ?_
  show Steps p.tables e below (T1.setTop { method := m, pc := pc + 3, locals := ls, stack := .ref T.heap.size :: rest, locked := none }) _
  jvm_step X₁.here [X₁.here.top, hexec, d3', Value.category]
  exact X₁.ldcString hexec (own := own) (text := text) (index := is) (a := sa) hown' hstr'.1 hstr'.2
    (g := { method := m, pc := pc + 4, locals := ls, stack := .ref T.heap.size :: .ref T.heap.size :: rest, locked := none }) rfl d4' _ hsteps
/-- 'throw new E("text")', the text by a wide index -/
theorem vx_throwSW {cc : ByteArray} {pc : Nat} (hexec : p.tables.exec = Jvm.exec) (hb : c.code = cc) (hl : l.stackTraces = false) {own cls text : String} {names : List String} {ik is ic mc ms sa : Nat} {A : Nat → Prop}
    (hown : s.vm.findClass own = some m.cls) (hcls : Bundle.fit cls = true) (hnames : ∀ n ∈ names, Bundle.fit n = true)
    (hk : (Cond.classLink own ik cls).before args s = true) (hini : (Cond.initialized cls).before args s = true) (hstr : vk_R own is text sa s) (hat : ∀ w ∈ vx_atS own ic cls names, w.before args s = true)
    (hgood : ∀ w ∈ Cond.classLink own ik cls :: Cond.initialized cls :: vx_atS own ic cls names, vx_ot w = true)
    (hU : vx_Zq Bundle.tN "UNASSIGNED_STACK" Bundle.steD A s s.heap) (hN : vx_Zq Bundle.tN "SUPPRESSED_SENTINEL" Bundle.listD A s s.heap) (hS : va_S A s.heap H locs) (hsize : ls.size = c.maxLocals)
    (d0 : decode cc pc = .ok (.new ik, 3)) (d3 : decode cc (pc + 3) = .ok (.dup, 1)) (d4 : decode cc (pc + 4) = .ok (.ldc_w is, 3)) (d7 : decode cc (pc + 7) = .ok (.invokespecial ic, 3)) (d10 : decode cc (pc + 10) = .ok (.athrow, 1))
    (hout : ∀ x ∈ c.exceptionTable.toList, covers x (pc + 10) = false)
    (hRframes : names.length + 3 < R.frames) (hRlocals : (rest.map fun v => v.category).sum + (13 * (names.length + 1) + 43) ≤ R.locals) (hRcells : cells + 1 ≤ R.cells) (hRslots : slots + 6 ≤ R.slots) (hlocks : meth.locks = false)
    (hx : ∀ t : State, s.vm.Alike t.vm → H.size ≤ t.heap.size → (∀ q : Nat, q < H.size → t.heap[q]? = H[q]?) → XC cls s t)
    (hf : ∀ z ∈ locs, free z.base) (hc : cells + 1 ≤ mc) (hs : slots + 6 ≤ ms) :
    W p l e R s m args below meth c H locs cells slots (vx_MQ below Qc XC args s mc ms free) (F0 m pc ls rest) := by
  intro T hT X
  have htr : e.platform.stackTraces = false := (show e.platform.stackTraces = l.stackTraces by rw [X.admits.platform]).trans hl
  have Y := vx_rebase X (R' := { frames := R.frames, locals := R.locals, cells := 1, slots := 6 }) (Nat.le_refl _) (Nat.le_refl _) hRcells hRslots
  obtain ⟨s', hA⟩ : ∃ z, z = (T.setVm s.vm).setFrames (.invoking m args :: below) := ⟨_, rfl⟩
  rw [← hA] at Y
  have hvm : s'.vm = s.vm := by rw [hA]; rfl
  have hhp : s'.heap = H := by rw [hA]; exact hT
  have hW0 : s.WarmedH s'.vm := by rw [hvm]; exact State.WarmedH.refl s
  have hat' : ∀ w ∈ vx_atS own ic cls names, w.before args s' = true := fun w hw => vx_ot_at hW0 hvm.symm (hgood w (List.mem_cons_of_mem _ (List.mem_cons_of_mem _ hw))) (hat w hw)
  have hk' : (Cond.classLink own ik cls).before args s' = true := vx_ot_at hW0 hvm.symm (hgood _ List.mem_cons_self) hk
  have hini' : (Cond.initialized cls).before args s' = true := vx_ot_at hW0 hvm.symm (hgood _ (List.mem_cons_of_mem _ List.mem_cons_self)) hini
  have hU' : vx_Zq Bundle.tN "UNASSIGNED_STACK" Bundle.steD A s' s'.heap := by rw [hhp]; exact vx_Zq.moved hW0.alike (hU.kept hS.2.1)
  have hN' : vx_Zq Bundle.tN "SUPPRESSED_SENTINEL" Bundle.listD A s' s'.heap := by rw [hhp]; exact vx_Zq.moved hW0.alike (hN.kept hS.2.1)
  have h : ∀ w ∈ Bundle.ownAtoms own ic cls names, w.before args s' = true := vx_own hat' (vx_isRefq hU'.1) (vx_isRefq hN'.1) hU'.2.word hN'.2.word
  have hown' : s'.vm.findClass own = some m.cls := by rw [hvm]; exact hown
  have hins : (Cond.instantiable cls 6).before args s' = true := h _ (by simp [Bundle.ownAtoms])
  obtain ⟨vm₁, cX, kX, hfX, hkX, -, -, X₁, st1⟩ := Y.newCold hexec (own := own) (C := cls) (index := ik) (n := 6) hown' hk' hins hini'
    (g := F0 m pc ls rest) rfl (by rw [hb]; exact d0) (Nat.le_refl _) (Nat.le_refl _)
  generalize hT1 : (T.setVm vm₁).pushCell { cls := cX, slots := kX.instanceTypes.map defaultValue, vm := .none } = T1 at X₁ st1
  have hcat : (Value.ref T.heap.size).category = 1 := rfl
  have hcellA : T1.heap[T.heap.size]? = some (freshCell cX kX) := by rw [← hT1]; exact State.heap_pushCell_size _ _
  have d3' : decode c.code (pc + 3) = .ok (.dup, 1) := by rw [hb]; exact d3
  have d4' : decode c.code (pc + 4) = .ok (.ldc_w is, 3) := by rw [hb]; exact d4
  have hstr' : vk_R own is text sa s' := vk_R.warm hW0 hstr
  obtain ⟨U, hsteps, hrun, hend, hW, hsame, ce, hce, hO⟩ := X₁.ctorThrowS hexec htr (own := own) (cls := cls) (names := names) (ic := ic) hown' hcls hnames h (fun x hx => nomatch hx) hfX hkX hcellA (by rw [hhp, hT]; exact Nat.le_refl _) (msg := .ref sa) rfl
    (g := { method := m, pc := pc + 7, locals := ls, stack := .ref sa :: .ref T.heap.size :: .ref T.heap.size :: rest, locked := none }) rfl hsize rfl rfl (rest := rest) rfl
    (by rw [hb]; exact d7) (by rw [hb]; exact d10) hout hRframes (by simp only [List.map_cons, List.sum_cons, hcat]; omega) hlocks
  obtain ⟨f1, f2⟩ := vx_frame hsame
  rw [hhp] at f1 f2
  have hWs : s.WarmedH U.vm := State.WarmedH.trans hW0 hW
  have hcl : s.vm.findClass cls = some ce.cls := by
    have h9 := hO.cls
    rw [hvm] at h9
    exact h9
  have hall : s.sameButNew ({ U with vm := s.vm } : State) locs mc ms := by
    subst hA
    obtain ⟨e1, e2⟩ := hsame
    rw [State.setFrames_setFrames] at e1
    have h2 : (T.setVm s.vm).sameButNew ({ U with vm := s.vm } : State) [] (0 + 1) (0 + 6) := ⟨e1, e2⟩
    have h3 := X.same.trans h2
    rw [List.append_nil] at h3
    exact h3.mono hc hs
  refine ⟨U, ?_, .threw T.heap.size, hrun, hend, Or.inr ⟨T.heap.size, rfl, cls, ce, locs, hx U hWs.alike f1 (fun q hq => f2 q hq (fun z hz => nomatch hz)), hce, hO.vm, hcl, hWs, hall, hf⟩⟩
  refine st1 _ ?_
  show Steps p.tables e below (T1.setTop { method := m, pc := pc + 3, locals := ls, stack := .ref T.heap.size :: rest, locked := none }) _
  jvm_step X₁.here [X₁.here.top, hexec, d3', Value.category]
  exact X₁.ldcStringW hexec (own := own) (text := text) (index := is) (a := sa) hown' hstr'.1 hstr'.2
    (g := { method := m, pc := pc + 4, locals := ls, stack := .ref T.heap.size :: .ref T.heap.size :: rest, locked := none }) rfl d4' _ hsteps
end Ends
section Bodies
variable {l : Launch}
theorem vx_ofW {y : MethodName} {ws ws' : List Cond} {rm : Room} {Pc : Array Value → State → Prop} {Qc : Array Value → State → Outcome → State → Prop} {XC : String → State → State → Prop} {mc ms : Nat} {free : Addr → Prop} {cc : ByteArray} {maxL : Nat} {ret : Option FieldType}
    (hy : plainName y.cls = true) (hw : ws = Cond.code y cc maxL ret :: ws')
    (body : ∀ p e s m args below meth c s₁, BodyLoose p l y (headSpec ws rm) cc maxL ret e s m args below meth c s₁ → c.maxLocals = maxL → (∀ x ∈ c.exceptionTable.toList, False) → Pc args s →
      W p l e (headSpec ws rm).room s m args below meth c s.heap [] 0 0 (vx_MQ below Qc XC args s mc ms free) (entryFrame m args maxL)) : vx_Met l y ws rm Pc Qc XC mc ms free := by
  refine MetFree.of_bodyS (code := cc) (maxLocals := maxL) (ret := ret) hy ?_ ?_
  · intro args s m h hn
    obtain ⟨meth, c, h1, h2, h3, h4, h5, h6, -, -⟩ := Cond.code_spec hn (atoms_spec (ws := ws) h _ (by rw [hw]; exact List.mem_cons_self))
    exact ⟨meth, c, h1, h2, h3, h4, h5, h6⟩
  · intro p e s m args below meth c s₁ B hml hP _
    have hh0 : s₁.heap = s.heap := by rw [B.state]; rfl
    have ht : ∀ x ∈ c.exceptionTable.toList, False := by
      obtain ⟨meth9, c9, h1, h2, -, -, -, -, h7, -⟩ := Cond.code_spec B.named (atoms_spec (ws := ws) B.pre _ (by rw [hw]; exact List.mem_cons_self))
      cases Option.some.inj (h1.symm.trans B.method)
      cases Option.some.inj (h2.symm.trans (Stand.of_body B).code)
      intro x hx
      rw [Array.isEmpty_iff.mp h7] at hx
      cases hx
    obtain ⟨t, a1, o, b1, b2, b3⟩ := body p e s m args below meth c s₁ B hml ht hP s₁ hh0 (Stand.of_body B)
    exact ⟨t, o, a1, b1, b2, b3⟩
/-- the table of a body with handlers -/
theorem vx_table {p : Program} {x y : MethodName} {S : Spec} {cc bytes : ByteArray} {maxL maxL' : Nat} {ret ret' : Option FieldType} {e : Env} {s s₁ : State} {m : MethodId} {args : Array Value} {below : List Frame} {meth : Method} {c : Code} {hh : List (Nat × Nat × Nat × Nat)}
    (B : BodyLoose p l y S cc maxL ret e s m args below meth c s₁) (h : (Cond.codeWith y bytes maxL' ret' hh).before args s = true) : c.exceptionTable.toList = tableOf hh := by
  obtain ⟨m9, meth9, c9, hn9, h1, h2, -, -, h6, -⟩ := Cond.codeWith_spec h
  cases Option.some.inj (hn9.symm.trans B.named)
  cases Option.some.inj (h1.symm.trans B.method)
  cases Option.some.inj (h2.symm.trans (Stand.of_body B).code)
  rw [← h6, table_eq]
end Bodies
end VXA
/-! ===== END ===== -/
/-! ===== BEGIN a static call of a method with an exception table ===== -/
section VXS
variable {p : Program} {l : Launch} {e : Env} {R : Room} {s : State} {m : MethodId} {args : Array Value} {below : List Frame} {meth : Method} {c : Code} {T : State} {H : Heap} {locs : List Loc} {cells slots : Nat}
abbrev vx_CSW (R : Room) (s : State) (args : Array Value) (own : String) (index : Nat) (y : MethodName) (bytes : ByteArray) (maxL : Nat) (ret : Option FieldType) (hh : List (Nat × Nat × Nat × Nat)) (ws : List Cond) (rm : Room) (mc ms n : Nat) : Prop :=
  (rm.cells = mc ∧ rm.slots = ms ∧ rm.frames + 1 ≤ R.frames ∧ 8 + (maxL + 11) + rm.locals ≤ R.locals ∧ (∀ w ∈ ws, ∀ (a' : Array Value) (U : State), s.WarmedH U.vm → w.before a' U = true) ∧ Cond.codeWith y bytes maxL ret hh ∈ ws) ∧
  (Cond.codeWith y bytes maxL ret hh).before args s = true ∧ (Cond.initialized y.cls).before args s = true ∧ (y.cls ≠ "java/lang/invoke/MethodHandle" ∧ y.cls ≠ "java/lang/invoke/VarHandle") ∧
  (∀ sig, parseMethodDescriptor y.desc = some sig → n = sig.parameters.length) ∧ (Cond.methodLink own index y).before args s = true ∧ (Cond.static y).before args s = true
theorem vx_cwSW {own : String} {index maxL mc ms : Nat} {y : MethodName} {bytes : ByteArray} {ret : Option FieldType} {hh : List (Nat × Nat × Nat × Nat)} {Ts ws ws' : List Cond} {rm : Room} (n : Nat) (ht : ∀ w ∈ Ts, w.before args s = true) (hT : GoodIn Ts (va_wsS own index y ws)) (hw : ws = Cond.codeWith y bytes maxL ret hh :: ws') (hrc : rm.cells = mc) (hrs : rm.slots = ms)
    (hd : y.cls ≠ "java/lang/invoke/MethodHandle" ∧ y.cls ≠ "java/lang/invoke/VarHandle" ∧ (parseMethodDescriptor y.desc).map (fun d => d.parameters.length) = some n) (hR : rm.frames + 1 ≤ R.frames ∧ 8 + (maxL + 11) + rm.locals ≤ R.locals) :
    vx_CSW R s args own index y bytes maxL ret hh ws rm mc ms n := by
  have ok : ∀ w ∈ va_wsS own index y ws, w.before args s = true := fun w h => ht w (hT w h).1
  have hG : GoodIn Ts ws := fun w h => hT w (by unfold va_wsS; exact List.mem_append_right _ h)
  have hc : Cond.codeWith y bytes maxL ret hh ∈ ws := by rw [hw]; exact List.mem_cons_self
  refine ⟨⟨hrc, hrs, hR.1, hR.2, pay_in ht hG, hc⟩, ht _ (hG _ hc).1, ok _ (by simp [va_wsS]), ⟨hd.1, hd.2.1⟩, fun sig h => ?_, ok _ (by simp [va_wsS]), ok _ (by simp [va_wsS])⟩
  have h2 := hd.2.2
  rw [h] at h2
  exact (Option.some.inj h2).symm
theorem vx_callSW (X : Stand p l e R s m args below meth c T locs cells slots) (hexec : p.tables.exec = Jvm.exec) {own : String} {index : Nat} {y : MethodName} {bytes : ByteArray} {maxL : Nat} {ret : Option FieldType} {hh : List (Nat × Nat × Nat × Nat)}
    (hown : s.vm.findClass own = some m.cls) (hlink : (Cond.methodLink own index y).before args s = true) (hstat : (Cond.static y).before args s = true) (hinit : (Cond.initialized y.cls).before args s = true)
    (hcode : (Cond.codeWith y bytes maxL ret hh).before args s = true) (hy : y.cls ≠ "java/lang/invoke/MethodHandle" ∧ y.cls ≠ "java/lang/invoke/VarHandle")
    {W9 : Nat} {Pre : Pt → Array Value → Prop} {Post : Pt → Array Value → Option Value → Pt → Prop} (hK : Back l R p e below s args y 3 W9 Pre Post)
    {g : JFrame} (hg : g.method = m) (hsize : g.locals.size = c.maxLocals) {argsL rest : List Value} (hlen : ∀ sig, parseMethodDescriptor y.desc = some sig → argsL.length = sig.parameters.length)
    (hstack : g.stack = argsL.reverse ++ rest) (hW : 2 * g.monitorRoom + (rest.map fun v => v.category).sum ≤ W9) (hdg : decode c.code g.pc = .ok (.invokestatic index, 3))
    (hpre : ∀ vm₁, s.WarmedH vm₁ → Pre ⟨T.setVm vm₁, locs, cells, slots⟩ argsL.toArray) :
    ∃ (v : Option Value) (vm₁ : Vm) (B : Pt), s.WarmedH vm₁ ∧ Stand p l e R s m args below meth c B.U B.locs B.cells B.slots ∧ Post ⟨T.setVm vm₁, locs, cells, slots⟩ argsL.toArray v B ∧
      ∀ target, Steps p.tables e below (B.U.setTop { g with pc := g.pc + 3, stack := v.toList ++ rest }) target → Steps p.tables e below (T.setTop g) target := by
  obtain ⟨mk, methM, cM, hnamed, hmethM, -, -, -, -, -, -, hsigM⟩ := Cond.codeWith_spec hcode
  have hstatic : methM.isStatic = true := Cond.static_spec hnamed hmethM hstat
  obtain ⟨kP, hkP, -⟩ := className_of_methodNamed hnamed
  have hinitP : kP.init = .initialized := Cond.initialized_spec (findClass_of_methodNamed hnamed) hkP hinit
  obtain ⟨vm₁, X₁, hstep₁⟩ := X.invokestatic hexec hown hlink hnamed hmethM hstatic hkP hinitP hy (g := g) hg (argsL := argsL) (rest := rest) (hlen _ hsigM) hstack hdg
  obtain ⟨v, B, X', hpost, hsteps⟩ := hK m meth c ⟨T.setVm vm₁, locs, cells, slots⟩ { g with stack := rest } (.invokestatic index) mk argsL.toArray X₁ hg hsize hdg hW (X₁.named hnamed) (hpre vm₁ X₁.warmed)
  exact ⟨v, vm₁, B, X₁.warmed, X', hpost, fun target h => hstep₁ _ fun acts => by rw [doInvoke_state]; exact hsteps.trans h⟩
theorem vx_runSW {y : MethodName} {bytes cc : ByteArray} {maxL nL mc ms n index : Nat} {ret : Option FieldType} {hh : List (Nat × Nat × Nat × Nat)} {ws : List Cond} {rm : Room} {Pc : Array Value → State → Prop} {Qc : Array Value → State → Outcome → State → Prop} {free : Addr → Prop} {Ts : List Cond} {own : String} {As rest : List Value} {g : JFrame}
    (S : CallFix p m c cc nL s args Ts own) (hM : Met l y ws rm Pc Qc mc ms free) (cw : vx_CSW R s args own index y bytes maxL ret hh ws rm mc ms n) (hp : PreS s H Pc As)
    (hg : g.method = m) (hn : As.length = n) (hsize : g.locals.size = nL) (hstack : g.stack = As.reverse ++ rest) (hW : 2 * g.monitorRoom + (rest.map fun v => v.category).sum ≤ 8) (hdg : decode cc g.pc = .ok (.invokestatic index, 3)) (hf : cells + mc ≤ R.cells ∧ slots + ms ≤ R.slots) :
    va_Run p l e R s m args below meth c H locs cells slots mc ms g rest (Qc As.toArray) (free) := by
  obtain ⟨⟨hrc, hrs, hfr, hlo, hws, hcw⟩, hcode, hini, hy, hlen, hl, hstt⟩ := cw
  have hK : Back l R p e below s args y 3 8 (PreOf R mc ms Pc) (PostOf Qc mc ms free) := va_backW (hh := hh) (bytes := bytes) (maxL := maxL) (ret := ret) hM hp.1 hrc hrs hfr hlo hws hcw (fun a' U hW => word_at hW (Or.inl (by first | rfl | simp [Cond.onTables, Cond.keeps, Cond.steady])) hini)
  obtain ⟨hx, hb, hml, ho, -⟩ := S
  intro T hT X
  obtain ⟨v, vm₁, ⟨U', l2, c2, s2⟩, hW₁, X', ⟨g', mk, t, L, e1, e2, hq, h1, hL, h2, h3⟩, st⟩ := vx_callSW X hx (hh := hh) (bytes := bytes) (maxL := maxL) (ret := ret) ho hl hstt hini hcode hy hK hg (hsize.trans hml.symm) (argsL := As) (rest := rest) (fun sig h => hn.trans (hlen sig h)) hstack hW (by rw [hb]; exact hdg)
    (fun vm₁ hW₁ => ⟨hf.1, hf.2, hp.2 (T.setVm vm₁) hT hW₁⟩)
  dsimp only [Pt.U, Pt.locs, Pt.cells, Pt.slots] at X' e1 e2 h1 h2 h3 st
  subst h1; subst h2; subst h3
  exact ⟨v, (T.setVm vm₁).calling g' mk As.toArray, t, U', L, hT, X', hL, e1, e2, hq, st⟩
/-- not caught here, past rows that name other classes: it goes on to the caller -/
theorem vx_outP {p : Program} {l : Launch} {e : Env} {R : Room} {s : State} {m : MethodId} {args : Array Value} {below : List Frame} {meth : Method} {c : Code} {H : Heap} {locs : List Loc} {cells slots : Nat} {free : Addr → Prop} {ls : Array Slot} {rest : List Value} {Qc : Array Value → State → Outcome → State → Prop} {XC : String → State → State → Prop}
    {pc : Nat} {own E : String} {ce : Cell} {q : Addr} {mc ms : Nat} (hown : s.vm.findClass own = some m.cls) (hlocks : meth.locks = false)
    (hpass : ∀ z ∈ c.exceptionTable.toList, covers z pc = false ∨ (z.catchType ≠ 0 ∧ ∃ nm : String, (Cond.classLink own z.catchType nm).before args s = true ∧ va_Nc E nm s)) (hcell : H[q]? = some ce) (hv : ce.vm = .none) (hcl : s.vm.findClass E = some ce.cls)
    (hx : ∀ t : State, t.heap = H → s.vm.Alike t.vm → XC E s t) (hf : ∀ z ∈ locs, free z.base) (hc : cells ≤ mc) (hs : slots ≤ ms) :
    vx_W p l e R s m args below meth c H locs cells slots (vx_MQ below Qc XC args s mc ms free) (F0 m pc ls rest) q := by
  intro T hT X
  have hpl : e.platform.magicAccessors = ({} : Platform).magicAccessors := by rw [X.admits.platform]
  obtain ⟨vm', hW', X', st⟩ := X.outThrough hlocks q (g := F0 m pc ls rest) rfl rfl rfl (cell := ce) (by rw [hT]; exact hcell) (by rw [hv]; rfl)
    (by obtain ⟨k9, h9, -⟩ := Vm.findClass_spec hcl; exact ⟨k9, h9⟩) (fun z hz => by
      rcases hpass z hz with h | ⟨hz0, nm, hl1, hn1⟩
      · exact Or.inl h
      · obtain ⟨c6, hc6, hcl6⟩ := Cond.classLink_spec hown hl1 e.platform hpl
        obtain ⟨a8, b8, h1, h2, h3⟩ := hn1
        cases Option.some.inj (h1.symm.trans hcl)
        cases Option.some.inj (h2.symm.trans hc6)
        exact Or.inr ⟨hz0, _, hcl6, h3⟩)
  obtain ⟨g₀, hfr⟩ := X'.frames_eq
  have hcell9 : ((T.setVm vm').setFrames (.throwing q :: below)).heap[q]? = some ce := by
    show T.heap[q]? = some ce
    rw [hT]; exact hcell
  have hend : Ended ((T.setVm vm').setFrames (.throwing q :: below)) below (.threw q) := State.frames_setFrames _ (State.cur_lt_of_frames hfr)
  refine ⟨(T.setVm vm').setFrames (.throwing q :: below), ?_, .threw q, X'.here.running, hend, Or.inr ⟨q, rfl, E, ce, locs, hx _ hT (X'.ends _).1.alike, hcell9, hv, hcl, (X'.ends _).1, (X'.ends _).2.mono hc hs, hf⟩⟩
  rw [X.pushThrowing_eq]
  exact st
/-- a thing of a world lies in the heap -/
theorem vx_lt {D : va_G} {cl : List vw_C} {ws : va_W} {H1 : Heap} (h : va_P D cl ws H1) {k : Nat} {q : Nat × va_E} (hk : ws[k]? = some q) : q.1 < H1.size := (h k q hk).lt
end VXS
/-! ===== END ===== -/
/-! ===== BEGIN methods with a table of their own: called by a name, returning or throwing ===== -/
section VXH
/-! vx_backW, vx_callVX, vx_callSX, vx_callVW, vx_runVW, vx_runVX, vx_runSX, vx_ofWH follow the same proofs as their sisters above (Free/Laws.lean, Shelf42/LK1.lean); vx_outP calls Shelf42/NT130.lean (outThrough). -/
section
variable {l : Launch} {R : Room} {p : Program} {e : Env} {below : List Frame} {s : State} {sargs : Array Value} {y : MethodName} {len W9 : Nat}
theorem vx_backW {ws : List Cond} {rm : Room} {Pc : Array Value → State → Prop} {Qc : Array Value → State → Outcome → State → Prop} {XC : String → State → State → Prop} {mc ms : Nat} {free : Addr → Prop} {bytes : ByteArray} {maxL : Nat} {ret : Option FieldType} {hh : List (Nat × Nat × Nat × Nat)}
    (hM : vx_Met l y ws rm Pc Qc XC mc ms free) (hblind : FrameBlind Pc) (hrc : rm.cells = mc) (hrs : rm.slots = ms)
    (hframes : rm.frames + 1 ≤ R.frames) (hlocals : W9 + (maxL + 11) + rm.locals ≤ R.locals)
    (hws : ∀ w ∈ ws, ∀ a' U, s.WarmedH U.vm → w.before a' U = true) (hcode : Cond.codeWith y bytes maxL ret hh ∈ ws) (hinit : ∀ a' U, s.WarmedH U.vm → (Cond.initialized y.cls).before a' U = true) :
    vx_Back l R p e below s sargs y len W9 (PreOf R mc ms Pc) (PostOf Qc mc ms free) (vx_Post XC mc ms free) := by
  intro m meth c A g ig mk a X hg hsize hdg hW hn hp
  have h1 : (headSpec ws rm).pre.before a A.U = true := atoms_intro fun w hw => hws w hw _ _ X.warmed
  have h2 : (Cond.codeWith y bytes maxL ret hh).before a A.U = true := hws _ hcode _ _ X.warmed
  have h3 : (Cond.initialized y.cls).before a A.U = true := hinit _ _ X.warmed
  have h4 : A.cells + (headSpec ws rm).room.cells ≤ R.cells := by rw [show (headSpec ws rm).room.cells = mc from hrc]; exact hp.1
  have h5 : A.slots + (headSpec ws rm).room.slots ≤ R.slots := by rw [show (headSpec ws rm).room.slots = ms from hrs]; exact hp.2.1
  have hPc : Pc a (A.U.calling g mk a) := hblind _ _ _ _ hp.2.2
  obtain ⟨U, Ls, c0, s0⟩ := A
  dsimp only [Pt.U, Pt.locs, Pt.cells, Pt.slots] at h1 h2 h3 h4 h5 X hn hPc ⊢
  obtain ⟨m9, methY, cY, hn9, hmY, hcY, -, hlY, -⟩ := Cond.codeWith_spec h2
  cases Option.some.inj (hn9.symm.trans hn)
  obtain ⟨kY, hkY, -⟩ := className_of_methodNamed hn
  have hinitY : kY.init = .initialized := Cond.initialized_spec (findClass_of_methodNamed hn) hkY h3
  have h : At U g.method c below := by rw [hg]; exact X.here
  have hlocals9 : W9 + (maxL + 11) + (headSpec ws rm).room.locals ≤ R.locals := hlocals
  have happ : (headSpec ws rm).appliesLoose y e.platform (U.calling g mk a) = true :=
    Spec.appliesLoose_calling (g := g) h hdg hn hkY hinitY
      (X.room_calling (g := g) (R' := (headSpec ws rm).room) hsize hmY hcY hframes (by rw [hlY]; omega) h4 h5) h1
  obtain ⟨mid, hmid⟩ := h.above
  have hfr : (U.setTop g).frames = (.java g :: mid) ++ below := by rw [State.frames_setTop' g h.top, hmid]; rfl
  obtain ⟨o, s₂, hsteps, -, hend, hq⟩ := Steps.callFree hM p X.admits X.cas X.clock (acts := []) hfr happ hPc trivial
  have hq' : vx_Q Qc XC mc ms free a (U.calling g mk a) o s₂ := hq
  rw [State.frames_setTop' g h.top] at hend
  obtain ⟨g₀, hg0⟩ := Option.isSome_iff_exists.mp h.top
  obtain ⟨r, hr⟩ := State.topJava?_eq_some.mp hg0
  have hr' : (({ U with heap := s₂.heap, slotsUsed := s₂.slotsUsed } : State).setVm s₂.vm).frames = .java g₀ :: r := hr
  rcases hq' with ⟨hqc, L, hfe, hL⟩ | ⟨q, rfl, E, ce, L, hx, hce, hcv, hcl, hW₂, hsm, hL⟩
  · obtain ⟨⟨v, rfl⟩, hW₂, e2, q2, q3, q4, q5, q6⟩ := id hfe
    have e3 : s₂ = ({ (U.calling g mk a).setFrames s₂.frames with heap := s₂.heap, slotsUsed := s₂.slotsUsed } : State).setVm s₂.vm := by
      have : s₂ = ({ s₂ with vm := (U.calling g mk a).vm } : State).setVm s₂.vm := rfl
      rw [e2] at this
      exact this
    obtain ⟨c₂, i₂, len₂, hc₂, hd₂, hf₂⟩ := hend
    have hW' : U.WarmedH s₂.vm := hW₂
    have hcc : c₂ = c := by
      have h1 : s₂.code? g.method = U.code? g.method := by
        rw [State.code?_eq, State.code?_eq, hW'.alike.method?]
      exact Option.some.inj (hc₂.symm.trans (h1.trans h.code))
    subst hcc
    have hlen : len₂ = len := by rw [hdg] at hd₂; cases hd₂; rfl
    subst hlen
    have hs₂ : s₂ = (({ U with heap := s₂.heap, slotsUsed := s₂.slotsUsed } : State).setVm s₂.vm).setTop { g with pc := g.pc + len₂, stack := v.toList ++ g.stack } := by
      refine e3.trans ?_
      rw [hf₂, State.calling_eq h.top, State.setFrames_setFrames, State.setTop_of_frames _ hr', hr]
      rfl
    have hsame : U.sameButNew ({ U with heap := s₂.heap, slotsUsed := s₂.slotsUsed } : State) L mc ms := by
      refine ⟨?_, q2, q3, q4, q5, q6⟩
      obtain ⟨t, ht, -⟩ := State.frames_cons hr
      show ({ U with heap := s₂.heap, slotsUsed := s₂.slotsUsed } : State) = { U.setFrames U.frames with heap := s₂.heap, slotsUsed := s₂.slotsUsed }
      rw [State.setFrames_self ht]
    subst hg
    refine Or.inl ⟨v, ⟨(({ U with heap := s₂.heap, slotsUsed := s₂.slotsUsed } : State).setVm s₂.vm), Ls ++ L, c0 + mc, s0 + ms⟩,
      ⟨X.admits, X.cas, X.clock, X.frames, X.room, X.hears, X.method, X.code, (X.here.setHeapUsed s₂.heap s₂.slotsUsed).setVm hW'.alike, X.tail, State.WarmedH.trans X.warmed hW', X.limits, X.bytes, X.same.trans (hsame.setVm s.vm)⟩,
      ⟨g, mk, s₂, L, rfl, rfl, hqc, rfl, hL, rfl, rfl⟩, ?_⟩
    show Steps p.tables e below _ ((({ U with heap := s₂.heap, slotsUsed := s₂.slotsUsed } : State).setVm s₂.vm).setTop { g with pc := g.pc + len₂, stack := v.toList ++ g.stack })
    rw [← hs₂]
    exact hsteps
  · obtain ⟨e2, q2, q3, q4, q5, q6⟩ := id hsm
    have e3 : s₂ = ({ (U.calling g mk a).setFrames s₂.frames with heap := s₂.heap, slotsUsed := s₂.slotsUsed } : State).setVm s₂.vm := by
      have : s₂ = ({ s₂ with vm := (U.calling g mk a).vm } : State).setVm s₂.vm := rfl
      rw [e2] at this
      exact this
    have hf₂ : s₂.frames = .throwing q :: .java g :: U.frames.tail := hend
    have hW' : U.WarmedH s₂.vm := hW₂
    have hs₂ : s₂ = ((({ U with heap := s₂.heap, slotsUsed := s₂.slotsUsed } : State).setVm s₂.vm).setTop g).pushFrame (.throwing q) := by
      refine e3.trans ?_
      rw [hf₂, State.calling_eq h.top, State.setFrames_setFrames, State.pushFrame, State.frames_setTop _ hr', State.setTop_of_frames _ hr', State.setFrames_setFrames, hr]
      rfl
    have hsame : U.sameButNew ({ U with heap := s₂.heap, slotsUsed := s₂.slotsUsed } : State) L mc ms := by
      refine ⟨?_, q2, q3, q4, q5, q6⟩
      obtain ⟨t, ht, -⟩ := State.frames_cons hr
      show ({ U with heap := s₂.heap, slotsUsed := s₂.slotsUsed } : State) = { U.setFrames U.frames with heap := s₂.heap, slotsUsed := s₂.slotsUsed }
      rw [State.setFrames_self ht]
    subst hg
    refine Or.inr ⟨q, ⟨(({ U with heap := s₂.heap, slotsUsed := s₂.slotsUsed } : State).setVm s₂.vm), Ls ++ L, c0 + mc, s0 + ms⟩,
      ⟨X.admits, X.cas, X.clock, X.frames, X.room, X.hears, X.method, X.code, (X.here.setHeapUsed s₂.heap s₂.slotsUsed).setVm hW'.alike, X.tail, State.WarmedH.trans X.warmed hW', X.limits, X.bytes, X.same.trans (hsame.setVm s.vm)⟩,
      ⟨g, mk, s₂, L, E, ce, rfl, rfl, hx, hce, hcv, hcl, rfl, hL, rfl, rfl⟩, ?_⟩
    show Steps p.tables e below _ (((({ U with heap := s₂.heap, slotsUsed := s₂.slotsUsed } : State).setVm s₂.vm).setTop g).pushFrame (.throwing q))
    rw [← hs₂]
    exact hsteps
end
variable {p : Program} {l : Launch} {e : Env} {R : Room} {s : State} {m : MethodId} {args : Array Value} {below : List Frame} {meth : Method} {c : Code} {T : State} {H : Heap} {locs : List Loc} {cells slots : Nat}
theorem vx_callVX (X : Stand p l e R s m args below meth c T locs cells slots) (hexec : p.tables.exec = Jvm.exec) {own C : String} {index : Nat} {y : MethodName} {bytes : ByteArray} {maxL : Nat} {ret : Option FieldType} {hh : List (Nat × Nat × Nat × Nat)}
    (hown : s.vm.findClass own = some m.cls) (hlink : (Cond.methodLink own index y).before args s = true) (hinst : (Cond.instanceMethod y).before args s = true) (hsel : (Cond.selects C y y).before args s = true)
    (hcode : (Cond.codeWith y bytes maxL ret hh).before args s = true) (hy : y.cls ≠ "java/lang/invoke/MethodHandle" ∧ y.cls ≠ "java/lang/invoke/VarHandle")
    {W9 : Nat} {Pre : Pt → Array Value → Prop} {Post : Pt → Array Value → Option Value → Pt → Prop} {PostX : Pt → Array Value → Addr → Pt → Prop} (hK : vx_Back l R p e below s args y 3 W9 Pre Post PostX)
    {b : Addr} {cellB : Cell} (hcell : T.heap[b]? = some cellB) (hobj : cellB.vm.isStatics = false) (hcls : s.vm.findClass C = some cellB.cls)
    {g : JFrame} (hg : g.method = m) (hsize : g.locals.size = c.maxLocals) {argsL rest : List Value} (hlen : ∀ sig, parseMethodDescriptor y.desc = some sig → argsL.length = sig.parameters.length)
    (hstack : g.stack = argsL.reverse ++ .ref b :: rest) (hW : 2 * g.monitorRoom + (rest.map fun v => v.category).sum ≤ W9) (hdg : decode c.code g.pc = .ok (.invokevirtual index, 3))
    (hpre : ∀ vm₁, s.WarmedH vm₁ → Pre ⟨T.setVm vm₁, locs, cells, slots⟩ (Value.ref b :: argsL).toArray) :
    (∃ (v : Option Value) (vm₁ : Vm) (B : Pt), s.WarmedH vm₁ ∧ Stand p l e R s m args below meth c B.U B.locs B.cells B.slots ∧ Post ⟨T.setVm vm₁, locs, cells, slots⟩ (Value.ref b :: argsL).toArray v B ∧
      ∀ target, Steps p.tables e below (B.U.setTop { g with pc := g.pc + 3, stack := v.toList ++ rest }) target → Steps p.tables e below (T.setTop g) target) ∨
    (∃ (q : Addr) (vm₁ : Vm) (B : Pt), s.WarmedH vm₁ ∧ Stand p l e R s m args below meth c B.U B.locs B.cells B.slots ∧ PostX ⟨T.setVm vm₁, locs, cells, slots⟩ (Value.ref b :: argsL).toArray q B ∧
      Steps p.tables e below (T.setTop g) ((B.U.setTop { g with stack := rest }).pushFrame (.throwing q))) := by
  obtain ⟨mk, methM, hnamed, hmethM, hstM, habM⟩ := Cond.instanceMethod_spec hinst
  obtain ⟨m8, methM', cM, hn8, hmethM', -, -, -, -, -, -, hsigM⟩ := Cond.codeWith_spec hcode
  cases Option.some.inj (hn8.symm.trans hnamed)
  cases hmethM.symm.trans hmethM'
  obtain ⟨c2, r2, m2, q1, q2, q3, q4, kP, hkP, hkPi⟩ := Cond.selects_spec hsel
  cases hcls.symm.trans q1
  cases (State.methodFound?_of_named hnamed hy).symm.trans q2
  cases hnamed.symm.trans q3
  have hselP : selectMethod e.platform s.vm cellB.cls mk = .method mk := by rw [Launch.admits_selectMethod X.admits]; exact q4
  obtain ⟨vm₁, X₁, hstep₁⟩ := X.invokevirtual hexec hown hlink hnamed hmethM hstM hkP hkPi hy (a := b) (cell := cellB) hcell
    (fun z h => by rw [h] at hobj; cases hobj) hselP hmethM habM hkP hkPi (g := g) hg (argsL := argsL) (rest := rest) (hlen _ hsigM) hstack hdg
  rcases hK m meth c ⟨T.setVm vm₁, locs, cells, slots⟩ { g with stack := rest } (.invokevirtual index) mk (Value.ref b :: argsL).toArray X₁ hg hsize hdg hW (X₁.named hnamed) (hpre vm₁ X₁.warmed) with ⟨v, B, X', hpost, hsteps⟩ | ⟨q, B, X', hpost, hsteps⟩
  · exact Or.inl ⟨v, vm₁, B, X₁.warmed, X', hpost, fun target h => hstep₁ _ fun acts => by rw [doInvoke_state]; exact hsteps.trans h⟩
  · exact Or.inr ⟨q, vm₁, B, X₁.warmed, X', hpost, hstep₁ _ fun acts => by rw [doInvoke_state]; exact hsteps⟩
theorem vx_callSX (X : Stand p l e R s m args below meth c T locs cells slots) (hexec : p.tables.exec = Jvm.exec) {own : String} {index : Nat} {y : MethodName} {bytes : ByteArray} {maxL : Nat} {ret : Option FieldType} {hh : List (Nat × Nat × Nat × Nat)}
    (hown : s.vm.findClass own = some m.cls) (hlink : (Cond.methodLink own index y).before args s = true) (hstat : (Cond.static y).before args s = true) (hinit : (Cond.initialized y.cls).before args s = true)
    (hcode : (Cond.codeWith y bytes maxL ret hh).before args s = true) (hy : y.cls ≠ "java/lang/invoke/MethodHandle" ∧ y.cls ≠ "java/lang/invoke/VarHandle")
    {W9 : Nat} {Pre : Pt → Array Value → Prop} {Post : Pt → Array Value → Option Value → Pt → Prop} {PostX : Pt → Array Value → Addr → Pt → Prop} (hK : vx_Back l R p e below s args y 3 W9 Pre Post PostX)
    {g : JFrame} (hg : g.method = m) (hsize : g.locals.size = c.maxLocals) {argsL rest : List Value} (hlen : ∀ sig, parseMethodDescriptor y.desc = some sig → argsL.length = sig.parameters.length)
    (hstack : g.stack = argsL.reverse ++ rest) (hW : 2 * g.monitorRoom + (rest.map fun v => v.category).sum ≤ W9) (hdg : decode c.code g.pc = .ok (.invokestatic index, 3))
    (hpre : ∀ vm₁, s.WarmedH vm₁ → Pre ⟨T.setVm vm₁, locs, cells, slots⟩ argsL.toArray) :
    (∃ (v : Option Value) (vm₁ : Vm) (B : Pt), s.WarmedH vm₁ ∧ Stand p l e R s m args below meth c B.U B.locs B.cells B.slots ∧ Post ⟨T.setVm vm₁, locs, cells, slots⟩ argsL.toArray v B ∧
      ∀ target, Steps p.tables e below (B.U.setTop { g with pc := g.pc + 3, stack := v.toList ++ rest }) target → Steps p.tables e below (T.setTop g) target) ∨
    (∃ (q : Addr) (vm₁ : Vm) (B : Pt), s.WarmedH vm₁ ∧ Stand p l e R s m args below meth c B.U B.locs B.cells B.slots ∧ PostX ⟨T.setVm vm₁, locs, cells, slots⟩ argsL.toArray q B ∧
      Steps p.tables e below (T.setTop g) ((B.U.setTop { g with stack := rest }).pushFrame (.throwing q))) := by
  obtain ⟨mk, methM, cM, hnamed, hmethM, -, -, -, -, -, -, hsigM⟩ := Cond.codeWith_spec hcode
  have hstatic : methM.isStatic = true := Cond.static_spec hnamed hmethM hstat
  obtain ⟨kP, hkP, -⟩ := className_of_methodNamed hnamed
  have hinitP : kP.init = .initialized := Cond.initialized_spec (findClass_of_methodNamed hnamed) hkP hinit
  obtain ⟨vm₁, X₁, hstep₁⟩ := X.invokestatic hexec hown hlink hnamed hmethM hstatic hkP hinitP hy (g := g) hg (argsL := argsL) (rest := rest) (hlen _ hsigM) hstack hdg
  rcases hK m meth c ⟨T.setVm vm₁, locs, cells, slots⟩ { g with stack := rest } (.invokestatic index) mk argsL.toArray X₁ hg hsize hdg hW (X₁.named hnamed) (hpre vm₁ X₁.warmed) with ⟨v, B, X', hpost, hsteps⟩ | ⟨q, B, X', hpost, hsteps⟩
  · exact Or.inl ⟨v, vm₁, B, X₁.warmed, X', hpost, fun target h => hstep₁ _ fun acts => by rw [doInvoke_state]; exact hsteps.trans h⟩
  · exact Or.inr ⟨q, vm₁, B, X₁.warmed, X', hpost, hstep₁ _ fun acts => by rw [doInvoke_state]; exact hsteps⟩
theorem vx_callVW (X : Stand p l e R s m args below meth c T locs cells slots) (hexec : p.tables.exec = Jvm.exec) {own C : String} {index : Nat} {y : MethodName} {bytes : ByteArray} {maxL : Nat} {ret : Option FieldType} {hh : List (Nat × Nat × Nat × Nat)}
    (hown : s.vm.findClass own = some m.cls) (hlink : (Cond.methodLink own index y).before args s = true) (hinst : (Cond.instanceMethod y).before args s = true) (hsel : (Cond.selects C y y).before args s = true)
    (hcode : (Cond.codeWith y bytes maxL ret hh).before args s = true) (hy : y.cls ≠ "java/lang/invoke/MethodHandle" ∧ y.cls ≠ "java/lang/invoke/VarHandle")
    {W9 : Nat} {Pre : Pt → Array Value → Prop} {Post : Pt → Array Value → Option Value → Pt → Prop} (hK : Back l R p e below s args y 3 W9 Pre Post)
    {b : Addr} {cellB : Cell} (hcell : T.heap[b]? = some cellB) (hobj : cellB.vm.isStatics = false) (hcls : s.vm.findClass C = some cellB.cls)
    {g : JFrame} (hg : g.method = m) (hsize : g.locals.size = c.maxLocals) {argsL rest : List Value} (hlen : ∀ sig, parseMethodDescriptor y.desc = some sig → argsL.length = sig.parameters.length)
    (hstack : g.stack = argsL.reverse ++ .ref b :: rest) (hW : 2 * g.monitorRoom + (rest.map fun v => v.category).sum ≤ W9) (hdg : decode c.code g.pc = .ok (.invokevirtual index, 3))
    (hpre : ∀ vm₁, s.WarmedH vm₁ → Pre ⟨T.setVm vm₁, locs, cells, slots⟩ (Value.ref b :: argsL).toArray) :
    ∃ (v : Option Value) (vm₁ : Vm) (B : Pt), s.WarmedH vm₁ ∧ Stand p l e R s m args below meth c B.U B.locs B.cells B.slots ∧ Post ⟨T.setVm vm₁, locs, cells, slots⟩ (Value.ref b :: argsL).toArray v B ∧
      ∀ target, Steps p.tables e below (B.U.setTop { g with pc := g.pc + 3, stack := v.toList ++ rest }) target → Steps p.tables e below (T.setTop g) target := by
  obtain ⟨mk, methM, hnamed, hmethM, hstM, habM⟩ := Cond.instanceMethod_spec hinst
  obtain ⟨m8, methM', cM, hn8, hmethM', -, -, -, -, -, -, hsigM⟩ := Cond.codeWith_spec hcode
  cases Option.some.inj (hn8.symm.trans hnamed)
  cases hmethM.symm.trans hmethM'
  obtain ⟨c2, r2, m2, q1, q2, q3, q4, kP, hkP, hkPi⟩ := Cond.selects_spec hsel
  cases hcls.symm.trans q1
  cases (State.methodFound?_of_named hnamed hy).symm.trans q2
  cases hnamed.symm.trans q3
  have hselP : selectMethod e.platform s.vm cellB.cls mk = .method mk := by rw [Launch.admits_selectMethod X.admits]; exact q4
  obtain ⟨vm₁, X₁, hstep₁⟩ := X.invokevirtual hexec hown hlink hnamed hmethM hstM hkP hkPi hy (a := b) (cell := cellB) hcell
    (fun z h => by rw [h] at hobj; cases hobj) hselP hmethM habM hkP hkPi (g := g) hg (argsL := argsL) (rest := rest) (hlen _ hsigM) hstack hdg
  obtain ⟨v, B, X', hpost, hsteps⟩ := hK m meth c ⟨T.setVm vm₁, locs, cells, slots⟩ { g with stack := rest } (.invokevirtual index) mk (Value.ref b :: argsL).toArray X₁ hg hsize hdg hW (X₁.named hnamed) (hpre vm₁ X₁.warmed)
  exact ⟨v, vm₁, B, X₁.warmed, X', hpost, fun target h => hstep₁ _ fun acts => by rw [doInvoke_state]; exact hsteps.trans h⟩
abbrev vx_CVW (R : Room) (s : State) (args : Array Value) (own C : String) (index : Nat) (y : MethodName) (bytes : ByteArray) (maxL : Nat) (ret : Option FieldType) (hh : List (Nat × Nat × Nat × Nat)) (ws : List Cond) (rm : Room) (mc ms n : Nat) : Prop :=
  (rm.cells = mc ∧ rm.slots = ms ∧ rm.frames + 1 ≤ R.frames ∧ 8 + (maxL + 11) + rm.locals ≤ R.locals ∧ (∀ w ∈ ws, ∀ (a' : Array Value) (U : State), s.WarmedH U.vm → w.before a' U = true) ∧ Cond.codeWith y bytes maxL ret hh ∈ ws) ∧
  (Cond.codeWith y bytes maxL ret hh).before args s = true ∧ (Cond.initialized y.cls).before args s = true ∧ (y.cls ≠ "java/lang/invoke/MethodHandle" ∧ y.cls ≠ "java/lang/invoke/VarHandle") ∧
  (∀ sig, parseMethodDescriptor y.desc = some sig → n = sig.parameters.length) ∧ (Cond.methodLink own index y).before args s = true ∧ (Cond.instanceMethod y).before args s = true ∧ (Cond.selects C y y).before args s = true
theorem vx_cwVW {own C : String} {index maxL mc ms : Nat} {y : MethodName} {bytes : ByteArray} {ret : Option FieldType} {hh : List (Nat × Nat × Nat × Nat)} {Ts ws ws' : List Cond} {rm : Room} (n : Nat) (ht : ∀ w ∈ Ts, w.before args s = true) (hT : GoodIn Ts (wsV own index C y ws)) (hw : ws = Cond.codeWith y bytes maxL ret hh :: ws') (hrc : rm.cells = mc) (hrs : rm.slots = ms)
    (hd : y.cls = C ∧ y.cls ≠ "java/lang/invoke/MethodHandle" ∧ y.cls ≠ "java/lang/invoke/VarHandle" ∧ (parseMethodDescriptor y.desc).map (fun d => d.parameters.length) = some n) (hR : rm.frames + 1 ≤ R.frames ∧ 8 + (maxL + 11) + rm.locals ≤ R.locals) :
    vx_CVW R s args own C index y bytes maxL ret hh ws rm mc ms n := by
  obtain ⟨hC, hd⟩ := hd
  subst hC
  have ok : ∀ w ∈ wsV own index y.cls y ws, w.before args s = true := fun w h => ht w (hT w h).1
  have hG : GoodIn Ts ws := fun w h => hT w (by unfold wsV; exact List.mem_append_right _ h)
  have hc : Cond.codeWith y bytes maxL ret hh ∈ ws := by rw [hw]; exact List.mem_cons_self
  refine ⟨⟨hrc, hrs, hR.1, hR.2, pay_in ht hG, hc⟩, ht _ (hG _ hc).1, ok _ (by simp [wsV]), ⟨hd.1, hd.2.1⟩, fun sig h => ?_, ok _ (by simp [wsV]), ok _ (by simp [wsV]), ok _ (by simp [wsV])⟩
  have h2 := hd.2.2
  rw [h] at h2
  exact (Option.some.inj h2).symm
theorem vx_runVW {y : MethodName} {bytes cc : ByteArray} {maxL nL mc ms n index : Nat} {ret : Option FieldType} {hh : List (Nat × Nat × Nat × Nat)} {ws : List Cond} {rm : Room} {Pc : Array Value → State → Prop} {Qc : Array Value → State → Outcome → State → Prop} {free : Addr → Prop} {Ts : List Cond} {own C : String} {b : Addr} {As rest : List Value} {g : JFrame}
    (S : CallFix p m c cc nL s args Ts own) (hM : Met l y ws rm Pc Qc mc ms free) (cw : vx_CVW R s args own C index y bytes maxL ret hh ws rm mc ms n) (hp : PreV s H C b Pc As)
    (hg : g.method = m) (hn : As.length = n) (hsize : g.locals.size = nL) (hstack : g.stack = As.reverse ++ .ref b :: rest) (hW : 2 * g.monitorRoom + (rest.map fun v => v.category).sum ≤ 8) (hdg : decode cc g.pc = .ok (.invokevirtual index, 3)) (hf : cells + mc ≤ R.cells ∧ slots + ms ≤ R.slots) :
    va_Run p l e R s m args below meth c H locs cells slots mc ms g rest (Qc (Value.ref b :: As).toArray) free := by
  obtain ⟨⟨hrc, hrs, hfr, hlo, hws, hcw⟩, hcode, hini, hy, hlen, hl, hin, hse⟩ := cw
  have hK : Back l R p e below s args y 3 8 (PreOf R mc ms Pc) (PostOf Qc mc ms free) := va_backW (hh := hh) (bytes := bytes) (maxL := maxL) (ret := ret) hM hp.1 hrc hrs hfr hlo hws hcw (fun a' U hW => word_at hW (Or.inl (by first | rfl | simp [Cond.onTables, Cond.keeps, Cond.steady])) hini)
  obtain ⟨hx, hb, hml, ho, -⟩ := S
  obtain ⟨-, ⟨cellB, hcB, hoB, hclB⟩, hPc⟩ := hp
  intro T hT X
  obtain ⟨v, vm₁, ⟨U', l2, c2, s2⟩, hW₁, X', ⟨g', mk, t, L, e1, e2, hq, h1, hL, h2, h3⟩, st⟩ := vx_callVW X hx (C := C) (hh := hh) (bytes := bytes) (maxL := maxL) (ret := ret) ho hl hin hse hcode hy hK (by rw [hT]; exact hcB) hoB hclB hg (hsize.trans hml.symm) (argsL := As) (rest := rest) (fun sig h => hn.trans (hlen sig h)) hstack hW (by rw [hb]; exact hdg)
    (fun vm₁ hW₁ => ⟨hf.1, hf.2, hPc (T.setVm vm₁) hT hW₁⟩)
  dsimp only [Pt.U, Pt.locs, Pt.cells, Pt.slots] at X' e1 e2 h1 h2 h3 st
  subst h1; subst h2; subst h3
  exact ⟨v, (T.setVm vm₁).calling g' mk (Value.ref b :: As).toArray, t, U', L, hT, X', hL, e1, e2, hq, st⟩
section
variable {y : MethodName} {bytes cc : ByteArray} {maxL nL mc ms n index : Nat} {ret : Option FieldType} {ws : List Cond} {rm : Room} {Pc : Array Value → State → Prop} {Qc : Array Value → State → Outcome → State → Prop} {XC : String → State → State → Prop} {free : Addr → Prop} {Ts : List Cond} {own C : String} {b : Addr} {As rest : List Value} {g : JFrame}
theorem vx_runVX {hh : List (Nat × Nat × Nat × Nat)} (S : CallFix p m c cc nL s args Ts own) (hM : vx_Met l y ws rm Pc Qc XC mc ms free) (cw : vx_CVW R s args own C index y bytes maxL ret hh ws rm mc ms n) (hp : PreV s H C b Pc As)
    (hg : g.method = m) (hn : As.length = n) (hsize : g.locals.size = nL) (hstack : g.stack = As.reverse ++ .ref b :: rest) (hW : 2 * g.monitorRoom + (rest.map fun v => v.category).sum ≤ 8) (hdg : decode cc g.pc = .ok (.invokevirtual index, 3)) (hf : cells + mc ≤ R.cells ∧ slots + ms ≤ R.slots) :
    vx_Run p l e R s m args below meth c H locs cells slots mc ms g rest (Qc (Value.ref b :: As).toArray) XC free := by
  obtain ⟨⟨hrc, hrs, hfr, hlo, hws, hcw⟩, hcode, hini, hy, hlen, hl, hin, hse⟩ := cw
  have hK : vx_Back l R p e below s args y 3 8 (PreOf R mc ms Pc) (PostOf Qc mc ms free) (vx_Post XC mc ms free) := vx_backW (hh := hh) (bytes := bytes) (maxL := maxL) (ret := ret) hM hp.1 hrc hrs hfr hlo hws hcw (fun a' U hW => word_at hW (Or.inl (by first | rfl | simp [Cond.onTables, Cond.keeps, Cond.steady])) hini)
  obtain ⟨hx, hb, hml, ho, -⟩ := S
  obtain ⟨-, ⟨cellB, hcB, hoB, hclB⟩, hPc⟩ := hp
  intro T hT X
  rcases vx_callVX X hx (C := C) (hh := hh) (bytes := bytes) (maxL := maxL) (ret := ret) ho hl hin hse hcode hy hK (by rw [hT]; exact hcB) hoB hclB hg (hsize.trans hml.symm) (argsL := As) (rest := rest) (fun sig h => hn.trans (hlen sig h)) hstack hW (by rw [hb]; exact hdg)
    (fun vm₁ hW₁ => ⟨hf.1, hf.2, hPc (T.setVm vm₁) hT hW₁⟩) with ⟨v, vm₁, ⟨U', l2, c2, s2⟩, hW₁, X', ⟨g', mk, t, L, e1, e2, hq, h1, hL, h2, h3⟩, st⟩ | ⟨q, vm₁, ⟨U', l2, c2, s2⟩, hW₁, X', ⟨g', mk, t, L, E, ce, e1, e2, hq, hce, hcv, hcl, h1, hL, h2, h3⟩, st⟩
  · dsimp only [Pt.U, Pt.locs, Pt.cells, Pt.slots] at X' e1 e2 h1 h2 h3 st
    subst h1; subst h2; subst h3
    exact Or.inl ⟨v, (T.setVm vm₁).calling g' mk (Value.ref b :: As).toArray, t, U', L, hT, X', hL, e1, e2, hq, st⟩
  · dsimp only [Pt.U, Pt.locs, Pt.cells, Pt.slots] at X' e1 e2 h1 h2 h3 st hcl
    subst h1; subst h2; subst h3
    exact Or.inr ⟨q, (T.setVm vm₁).calling g' mk (Value.ref b :: As).toArray, t, U', L, E, ce, hT, X', hL, e1, e2, hq, hce, hcv, vx_cls hW₁ hcl, st⟩
theorem vx_runSX {hh : List (Nat × Nat × Nat × Nat)} (S : CallFix p m c cc nL s args Ts own) (hM : vx_Met l y ws rm Pc Qc XC mc ms free) (cw : vx_CSW R s args own index y bytes maxL ret hh ws rm mc ms n) (hp : PreS s H Pc As)
    (hg : g.method = m) (hn : As.length = n) (hsize : g.locals.size = nL) (hstack : g.stack = As.reverse ++ rest) (hW : 2 * g.monitorRoom + (rest.map fun v => v.category).sum ≤ 8) (hdg : decode cc g.pc = .ok (.invokestatic index, 3)) (hf : cells + mc ≤ R.cells ∧ slots + ms ≤ R.slots) :
    vx_Run p l e R s m args below meth c H locs cells slots mc ms g rest (Qc As.toArray) XC free := by
  obtain ⟨⟨hrc, hrs, hfr, hlo, hws, hcw⟩, hcode, hini, hy, hlen, hl, hstt⟩ := cw
  have hK : vx_Back l R p e below s args y 3 8 (PreOf R mc ms Pc) (PostOf Qc mc ms free) (vx_Post XC mc ms free) := vx_backW (hh := hh) (bytes := bytes) (maxL := maxL) (ret := ret) hM hp.1 hrc hrs hfr hlo hws hcw (fun a' U hW => word_at hW (Or.inl (by first | rfl | simp [Cond.onTables, Cond.keeps, Cond.steady])) hini)
  obtain ⟨hx, hb, hml, ho, -⟩ := S
  intro T hT X
  rcases vx_callSX X hx (hh := hh) (bytes := bytes) (maxL := maxL) (ret := ret) ho hl hstt hini hcode hy hK hg (hsize.trans hml.symm) (argsL := As) (rest := rest) (fun sig h => hn.trans (hlen sig h)) hstack hW (by rw [hb]; exact hdg)
    (fun vm₁ hW₁ => ⟨hf.1, hf.2, hp.2 (T.setVm vm₁) hT hW₁⟩) with ⟨v, vm₁, ⟨U', l2, c2, s2⟩, hW₁, X', ⟨g', mk, t, L, e1, e2, hq, h1, hL, h2, h3⟩, st⟩ | ⟨q, vm₁, ⟨U', l2, c2, s2⟩, hW₁, X', ⟨g', mk, t, L, E, ce, e1, e2, hq, hce, hcv, hcl, h1, hL, h2, h3⟩, st⟩
  · dsimp only [Pt.U, Pt.locs, Pt.cells, Pt.slots] at X' e1 e2 h1 h2 h3 st
    subst h1; subst h2; subst h3
    exact Or.inl ⟨v, (T.setVm vm₁).calling g' mk As.toArray, t, U', L, hT, X', hL, e1, e2, hq, st⟩
  · dsimp only [Pt.U, Pt.locs, Pt.cells, Pt.slots] at X' e1 e2 h1 h2 h3 st hcl
    subst h1; subst h2; subst h3
    exact Or.inr ⟨q, (T.setVm vm₁).calling g' mk As.toArray, t, U', L, E, ce, hT, X', hL, e1, e2, hq, hce, hcv, vx_cls hW₁ hcl, st⟩
end
end VXH
theorem vx_ofWH {l : Launch} {y : MethodName} {ws ws' : List Cond} {rm : Room} {Pc : Array Value → State → Prop} {Qc : Array Value → State → Outcome → State → Prop} {XC : String → State → State → Prop} {mc ms : Nat} {free : Addr → Prop} {cc : ByteArray} {maxL : Nat} {ret : Option FieldType} {hh : List (Nat × Nat × Nat × Nat)}
    (hy : plainName y.cls = true) (hw : ws = Cond.codeWith y cc maxL ret hh :: ws')
    (body : ∀ p e s m args below meth c s₁, BodyLoose p l y (headSpec ws rm) cc maxL ret e s m args below meth c s₁ → c.maxLocals = maxL → Pc args s →
      W p l e (headSpec ws rm).room s m args below meth c s.heap [] 0 0 (vx_MQ below Qc XC args s mc ms free) (entryFrame m args maxL)) : vx_Met l y ws rm Pc Qc XC mc ms free := by
  refine MetFree.of_bodyS (code := cc) (maxLocals := maxL) (ret := ret) hy ?_ ?_
  · intro args s m h hn
    obtain ⟨m9, meth, c, hn9, h1, h2, h3, h4, -, h5, h6, -⟩ := Cond.codeWith_spec (atoms_spec (ws := ws) h _ (by rw [hw]; exact List.mem_cons_self))
    cases hn.symm.trans hn9
    exact ⟨meth, c, h1, h2, h3, h4, h5, h6⟩
  · intro p e s m args below meth c s₁ B hml hP _
    have hh0 : s₁.heap = s.heap := by rw [B.state]; rfl
    obtain ⟨t, a1, o, b1, b2, b3⟩ := body p e s m args below meth c s₁ B hml hP s₁ hh0 (Stand.of_body B)
    exact ⟨t, o, a1, b1, b2, b3⟩
/-! ===== END ===== -/

def RX0 : String := "PalletStack$Item"
def TX0 : u_T := fun k => match k with
  | 0 => ("PalletStack$Item", "kind", "I", false)
  | 1 => ("PalletStack$Item", "weight", "I", false)
  | 2 => ("PalletStack$Item", "strength", "I", false)
  | 3 => ("PalletStack$Item", "isTurned", "Z", false)
  | 4 => ("PalletStack$Item", "width", "I", false)
  | 5 => ("PalletStack$Item", "depth", "I", false)
  | 6 => ("PalletStack$Item", "x", "I", false)
  | 7 => ("PalletStack$Item", "y", "I", false)
  | 8 => ("PalletStack$Item", "bottom", "I", false)
  | 9 => ("PalletStack$Item", "top", "I", false)
  | 10 => ("PalletStack$Item", "ground", "I", false)
  | 11 => ("PalletStack$Item", "load", "I", false)
  | 12 => ("PalletStack$Item", "nextLoad", "I", false)
  | 13 => ("PalletStack$Item", "isOnPallet", "Z", false)
  | 14 => ("PalletStack$Item", "isReached", "Z", false)
  | 15 => ("PalletStack$Item", "supportCount", "I", false)
  | 16 => ("PalletStack$Item", "supports", "[LPalletStack$Item;", true)
  | _ => ("PalletStack$Item", "supportCells", "[I", true)
def tyX0 : Nat → FieldType := fun k => match k with
  | 0 => .int
  | 1 => .int
  | 2 => .int
  | 3 => .boolean
  | 4 => .int
  | 5 => .int
  | 6 => .int
  | 7 => .int
  | 8 => .int
  | 9 => .int
  | 10 => .int
  | 11 => .int
  | 12 => .int
  | 13 => .boolean
  | 14 => .boolean
  | 15 => .int
  | 16 => .array (.object "PalletStack$Item")
  | _ => .array .int
abbrev wsX00 : List Cond := u_ws RX0 TX0 18
theorem nmX0 : ∀ a, a < 18 → ∀ b, b < 18 → a ≠ b → (TX0 a).2.1 ≠ (TX0 b).2.1 := by decide +kernel
theorem tyX0_ok : ∀ k, k < 18 → parseFieldDescriptor (TX0 k).2.2.1 = some (tyX0 k) := by decide +kernel
abbrev cX0_init : ByteArray := prog_2_method_1_code
def yX0_init : MethodName := ⟨RX0, "<init>", "()V"⟩
abbrev cX0_shape : ByteArray := prog_2_method_2_code
def yX0_shape : MethodName := ⟨RX0, "shape", "(LPalletStack$Kind;Z)V"⟩
abbrev cX0_cells : ByteArray := prog_2_method_3_code
def yX0_cells : MethodName := ⟨RX0, "cells", "()I"⟩
abbrev cX0_covers : ByteArray := prog_2_method_4_code
def yX0_covers : MethodName := ⟨RX0, "covers", "(II)Z"⟩
abbrev cX0_cellsInCommon : ByteArray := prog_2_method_5_code
def yX0_cellsInCommon : MethodName := ⟨RX0, "cellsInCommon", "(LPalletStack$Item;)I"⟩
abbrev cX0_standsOn : ByteArray := prog_2_method_6_code
def yX0_standsOn : MethodName := ⟨RX0, "standsOn", "(LPalletStack$Item;)Z"⟩
abbrev cX0_addSupport : ByteArray := prog_2_method_7_code
def yX0_addSupport : MethodName := ⟨RX0, "addSupport", "(LPalletStack$Item;I)V"⟩
abbrev cX0_passLoadDown : ByteArray := prog_2_method_8_code
def yX0_passLoadDown : MethodName := ⟨RX0, "passLoadDown", "()V"⟩
abbrev cX0_reachSupports : ByteArray := prog_2_method_9_code
def yX0_reachSupports : MethodName := ⟨RX0, "reachSupports", "()V"⟩
def RX1 : String := "PalletStack$Kind"
def TX1 : u_T := fun k => match k with
  | 0 => ("PalletStack$Kind", "number", "I", true)
  | 1 => ("PalletStack$Kind", "width", "I", true)
  | 2 => ("PalletStack$Kind", "depth", "I", true)
  | 3 => ("PalletStack$Kind", "height", "I", true)
  | 4 => ("PalletStack$Kind", "weight", "I", true)
  | 5 => ("PalletStack$Kind", "strength", "I", true)
  | 6 => ("PalletStack$Kind", "canTurn", "Z", true)
  | _ => ("PalletStack$Kind", "needsDeck", "Z", true)
def tyX1 : Nat → FieldType := fun k => match k with
  | 0 => .int
  | 1 => .int
  | 2 => .int
  | 3 => .int
  | 4 => .int
  | 5 => .int
  | 6 => .boolean
  | _ => .boolean
abbrev wsX10 : List Cond := u_ws RX1 TX1 8
theorem nmX1 : ∀ a, a < 8 → ∀ b, b < 8 → a ≠ b → (TX1 a).2.1 ≠ (TX1 b).2.1 := by decide +kernel
theorem tyX1_ok : ∀ k, k < 8 → parseFieldDescriptor (TX1 k).2.2.1 = some (tyX1 k) := by decide +kernel
abbrev cX1_init : ByteArray := prog_3_method_1_code
def yX1_init : MethodName := ⟨RX1, "<init>", "(IIIIIII)V"⟩
abbrev cX1_comesBefore : ByteArray := prog_3_method_2_code
def yX1_comesBefore : MethodName := ⟨RX1, "comesBefore", "(LPalletStack$Kind;)Z"⟩
def RX2 : String := "PalletStack$Line"
def TX2 : u_T := fun k => match k with
  | 0 => ("PalletStack$Line", "kind", "LPalletStack$Kind;", true)
  | 1 => ("PalletStack$Line", "count", "I", false)
  | _ => ("PalletStack$Line", "isAside", "Z", false)
def tyX2 : Nat → FieldType := fun k => match k with
  | 0 => .object "PalletStack$Kind"
  | 1 => .int
  | _ => .boolean
abbrev wsX20 : List Cond := u_ws RX2 TX2 3
theorem nmX2 : ∀ a, a < 3 → ∀ b, b < 3 → a ≠ b → (TX2 a).2.1 ≠ (TX2 b).2.1 := by decide +kernel
theorem tyX2_ok : ∀ k, k < 3 → parseFieldDescriptor (TX2 k).2.2.1 = some (tyX2 k) := by decide +kernel
abbrev cX2_init : ByteArray := prog_4_method_1_code
def yX2_init : MethodName := ⟨RX2, "<init>", "(LPalletStack$Kind;I)V"⟩
def RX3 : String := "PalletStack"
def TX3 : u_T := fun k => match k with
  | 0 => ("PalletStack", "kinds", "[LPalletStack$Kind;", true)
  | 1 => ("PalletStack", "kindCount", "I", false)
  | 2 => ("PalletStack", "greatestHeight", "I", false)
  | 3 => ("PalletStack", "support", "I", false)
  | 4 => ("PalletStack", "limit", "I", false)
  | 5 => ("PalletStack", "hasCornerRule", "Z", false)
  | 6 => ("PalletStack", "items", "[LPalletStack$Item;", true)
  | 7 => ("PalletStack", "cameCount", "I", false)
  | 8 => ("PalletStack", "onPalletCount", "I", false)
  | 9 => ("PalletStack", "weightOnPallet", "I", false)
  | 10 => ("PalletStack", "tops", "[I", true)
  | 11 => ("PalletStack", "trial", "LPalletStack$Item;", false)
  | 12 => ("PalletStack", "lines", "[LPalletStack$Line;", true)
  | _ => ("PalletStack", "lineCount", "I", false)
def tyX3 : Nat → FieldType := fun k => match k with
  | 0 => .array (.object "PalletStack$Kind")
  | 1 => .int
  | 2 => .int
  | 3 => .int
  | 4 => .int
  | 5 => .boolean
  | 6 => .array (.object "PalletStack$Item")
  | 7 => .int
  | 8 => .int
  | 9 => .int
  | 10 => .array .int
  | 11 => .object "PalletStack$Item"
  | 12 => .array (.object "PalletStack$Line")
  | _ => .int
abbrev wsX30 : List Cond := u_ws RX3 TX3 14
theorem nmX3 : ∀ a, a < 14 → ∀ b, b < 14 → a ≠ b → (TX3 a).2.1 ≠ (TX3 b).2.1 := by decide +kernel
theorem tyX3_ok : ∀ k, k < 14 → parseFieldDescriptor (TX3 k).2.2.1 = some (tyX3 k) := by decide +kernel
abbrev cX3_init : ByteArray := prog_1_method_1_code
def yX3_init : MethodName := ⟨RX3, "<init>", "()V"⟩
abbrev cX3_addKind : ByteArray := prog_1_method_2_code
def yX3_addKind : MethodName := ⟨RX3, "addKind", "(IIIIII)I"⟩
abbrev cX3_setRules : ByteArray := prog_1_method_3_code
def yX3_setRules : MethodName := ⟨RX3, "setRules", "(IIIZ)I"⟩
abbrev cX3_count : ByteArray := prog_1_method_4_code
def yX3_count : MethodName := ⟨RX3, "count", "(I)I"⟩
abbrev cX3_reason : ByteArray := prog_1_method_5_code
def yX3_reason : MethodName := ⟨RX3, "reason", "(IIIZ)I"⟩
abbrev cX3_put : ByteArray := prog_1_method_6_code
def yX3_put : MethodName := ⟨RX3, "put", "(IIIZ)I"⟩
abbrev cX3_takeOff : ByteArray := prog_1_method_7_code
def yX3_takeOff : MethodName := ⟨RX3, "takeOff", "(I)I"⟩
abbrev cX3_item : ByteArray := prog_1_method_8_code
def yX3_item : MethodName := ⟨RX3, "item", "(II)I"⟩
abbrev cX3_top : ByteArray := prog_1_method_9_code
def yX3_top : MethodName := ⟨RX3, "top", "(II)I"⟩
abbrev cX3_at : ByteArray := prog_1_method_10_code
def yX3_at : MethodName := ⟨RX3, "at", "(III)I"⟩
abbrev cX3_restsOn : ByteArray := prog_1_method_11_code
def yX3_restsOn : MethodName := ⟨RX3, "restsOn", "(II)Z"⟩
abbrev cX3_best : ByteArray := prog_1_method_12_code
def yX3_best : MethodName := ⟨RX3, "best", "(I)I"⟩
abbrev cX3_fill : ByteArray := prog_1_method_13_code
def yX3_fill : MethodName := ⟨RX3, "fill", "(II)I"⟩
abbrev cX3_addLine : ByteArray := prog_1_method_14_code
def yX3_addLine : MethodName := ⟨RX3, "addLine", "(II)I"⟩
abbrev cX3_stack : ByteArray := prog_1_method_15_code
def yX3_stack : MethodName := ⟨RX3, "stack", "()I"⟩
abbrev cX3_line : ByteArray := prog_1_method_16_code
def yX3_line : MethodName := ⟨RX3, "line", "(IZ)I"⟩
abbrev cX3_clear : ByteArray := prog_1_method_17_code
def yX3_clear : MethodName := ⟨RX3, "clear", "()I"⟩
abbrev cX3_sum : ByteArray := prog_1_method_18_code
def yX3_sum : MethodName := ⟨RX3, "sum", "(I)I"⟩
abbrev cX3_middle : ByteArray := prog_1_method_19_code
def yX3_middle : MethodName := ⟨RX3, "middle", "(Z)D"⟩
abbrev cX3_filled : ByteArray := prog_1_method_20_code
def yX3_filled : MethodName := ⟨RX3, "filled", "()D"⟩
abbrev cX3_digest : ByteArray := prog_1_method_21_code
def yX3_digest : MethodName := ⟨RX3, "digest", "()J"⟩
abbrev cX3_isWithin : ByteArray := prog_1_method_22_code
def yX3_isWithin : MethodName := ⟨RX3, "isWithin", "(III)Z"⟩
abbrev cX3_isCell : ByteArray := prog_1_method_23_code
def yX3_isCell : MethodName := ⟨RX3, "isCell", "(II)Z"⟩
abbrev cX3_kindOf : ByteArray := prog_1_method_24_code
def yX3_kindOf : MethodName := ⟨RX3, "kindOf", "(I)LPalletStack$Kind;"⟩
abbrev cX3_itemOf : ByteArray := prog_1_method_25_code
def yX3_itemOf : MethodName := ⟨RX3, "itemOf", "(I)LPalletStack$Item;"⟩
abbrev cX3_lineOf : ByteArray := prog_1_method_26_code
def yX3_lineOf : MethodName := ⟨RX3, "lineOf", "(I)LPalletStack$Line;"⟩
abbrev cX3_topOf : ByteArray := prog_1_method_27_code
def yX3_topOf : MethodName := ⟨RX3, "topOf", "(II)I"⟩
abbrev cX3_countOf : ByteArray := prog_1_method_28_code
def yX3_countOf : MethodName := ⟨RX3, "countOf", "(I)I"⟩
abbrev cX3_factOf : ByteArray := prog_1_method_29_code
def yX3_factOf : MethodName := ⟨RX3, "factOf", "(LPalletStack$Item;I)I"⟩
abbrev cX3_sumOf : ByteArray := prog_1_method_30_code
def yX3_sumOf : MethodName := ⟨RX3, "sumOf", "(I)I"⟩
abbrev cX3_withFacts : ByteArray := prog_1_method_31_code
def yX3_withFacts : MethodName := ⟨RX3, "withFacts", "(JLPalletStack$Item;)J"⟩
abbrev cX3_greatestTop : ByteArray := prog_1_method_32_code
def yX3_greatestTop : MethodName := ⟨RX3, "greatestTop", "()I"⟩
abbrev cX3_greatestLoad : ByteArray := prog_1_method_33_code
def yX3_greatestLoad : MethodName := ⟨RX3, "greatestLoad", "()I"⟩
abbrev cX3_coveredDeck : ByteArray := prog_1_method_34_code
def yX3_coveredDeck : MethodName := ⟨RX3, "coveredDeck", "()I"⟩
abbrev cX3_standingOn : ByteArray := prog_1_method_35_code
def yX3_standingOn : MethodName := ⟨RX3, "standingOn", "(LPalletStack$Item;)I"⟩
abbrev cX3_isCarriedBy : ByteArray := prog_1_method_36_code
def yX3_isCarriedBy : MethodName := ⟨RX3, "isCarriedBy", "(LPalletStack$Item;LPalletStack$Item;)Z"⟩
abbrev cX3_forgetNextLoads : ByteArray := prog_1_method_37_code
def yX3_forgetNextLoads : MethodName := ⟨RX3, "forgetNextLoads", "()V"⟩
abbrev cX3_settleLoads : ByteArray := prog_1_method_38_code
def yX3_settleLoads : MethodName := ⟨RX3, "settleLoads", "()V"⟩
abbrev cX3_isTooMuchLoad : ByteArray := prog_1_method_39_code
def yX3_isTooMuchLoad : MethodName := ⟨RX3, "isTooMuchLoad", "()Z"⟩
abbrev cX3_isInField : ByteArray := prog_1_method_40_code
def yX3_isInField : MethodName := ⟨RX3, "isInField", "(LPalletStack$Kind;IIZ)Z"⟩
abbrev cX3_letDown : ByteArray := prog_1_method_41_code
def yX3_letDown : MethodName := ⟨RX3, "letDown", "(LPalletStack$Kind;IIZ)V"⟩
abbrev cX3_findSupports : ByteArray := prog_1_method_42_code
def yX3_findSupports : MethodName := ⟨RX3, "findSupports", "()V"⟩
abbrev cX3_isGround : ByteArray := prog_1_method_43_code
def yX3_isGround : MethodName := ⟨RX3, "isGround", "(II)Z"⟩
abbrev cX3_hasGroundAtCorners : ByteArray := prog_1_method_44_code
def yX3_hasGroundAtCorners : MethodName := ⟨RX3, "hasGroundAtCorners", "()Z"⟩
abbrev cX3_brokenRule : ByteArray := prog_1_method_45_code
def yX3_brokenRule : MethodName := ⟨RX3, "brokenRule", "(LPalletStack$Kind;)I"⟩
abbrev cX3_firstReason : ByteArray := prog_1_method_46_code
def yX3_firstReason : MethodName := ⟨RX3, "firstReason", "(LPalletStack$Kind;IIZ)I"⟩
abbrev cX3_bestPlace : ByteArray := prog_1_method_47_code
def yX3_bestPlace : MethodName := ⟨RX3, "bestPlace", "(LPalletStack$Kind;)I"⟩
abbrev cX3_xOf : ByteArray := prog_1_method_48_code
def yX3_xOf : MethodName := ⟨RX3, "xOf", "(I)I"⟩
abbrev cX3_yOf : ByteArray := prog_1_method_49_code
def yX3_yOf : MethodName := ⟨RX3, "yOf", "(I)I"⟩
abbrev cX3_isTurnedIn : ByteArray := prog_1_method_50_code
def yX3_isTurnedIn : MethodName := ⟨RX3, "isTurnedIn", "(I)Z"⟩
abbrev cX3_putAtBest : ByteArray := prog_1_method_51_code
def yX3_putAtBest : MethodName := ⟨RX3, "putAtBest", "(LPalletStack$Kind;)Z"⟩
abbrev cX3_putTrial : ByteArray := prog_1_method_52_code
def yX3_putTrial : MethodName := ⟨RX3, "putTrial", "()V"⟩
abbrev cX3_layTop : ByteArray := prog_1_method_53_code
def yX3_layTop : MethodName := ⟨RX3, "layTop", "(LPalletStack$Item;)V"⟩
abbrev cX3_layAllTops : ByteArray := prog_1_method_54_code
def yX3_layAllTops : MethodName := ⟨RX3, "layAllTops", "()V"⟩
abbrev cX3_nextLine : ByteArray := prog_1_method_55_code
def yX3_nextLine : MethodName := ⟨RX3, "nextLine", "()LPalletStack$Line;"⟩
def RX4 : String := "PalletStackModel"
def TX4 : u_T := fun k => match k with
  | 0 => ("PalletStackModel", "thrown", "I", false)
  | 1 => ("PalletStackModel", "kinds", "I", false)
  | 2 => ("PalletStackModel", "kindTable", "[I", true)
  | 3 => ("PalletStackModel", "highest", "I", false)
  | 4 => ("PalletStackModel", "support", "I", false)
  | 5 => ("PalletStackModel", "limit", "I", false)
  | 6 => ("PalletStackModel", "areCorners", "Z", false)
  | 7 => ("PalletStackModel", "came", "I", false)
  | 8 => ("PalletStackModel", "table", "[I", true)
  | 9 => ("PalletStackModel", "loads", "[I", true)
  | 10 => ("PalletStackModel", "lines", "I", false)
  | 11 => ("PalletStackModel", "lineKinds", "[I", true)
  | 12 => ("PalletStackModel", "lineCounts", "[I", true)
  | _ => ("PalletStackModel", "tried", "I", false)
def tyX4 : Nat → FieldType := fun k => match k with
  | 0 => .int
  | 1 => .int
  | 2 => .array .int
  | 3 => .int
  | 4 => .int
  | 5 => .int
  | 6 => .boolean
  | 7 => .int
  | 8 => .array .int
  | 9 => .array .int
  | 10 => .int
  | 11 => .array .int
  | 12 => .array .int
  | _ => .int
abbrev wsX40 : List Cond := u_ws RX4 TX4 14
theorem nmX4 : ∀ a, a < 14 → ∀ b, b < 14 → a ≠ b → (TX4 a).2.1 ≠ (TX4 b).2.1 := by decide +kernel
theorem tyX4_ok : ∀ k, k < 14 → parseFieldDescriptor (TX4 k).2.2.1 = some (tyX4 k) := by decide +kernel
abbrev cX4_init : ByteArray := prog_6_method_1_code
def yX4_init : MethodName := ⟨RX4, "<init>", "()V"⟩
abbrev cX4_fail : ByteArray := prog_6_method_3_code
def yX4_fail : MethodName := ⟨RX4, "fail", "(I)I"⟩
abbrev cX4_isIn : ByteArray := prog_6_method_4_code
def yX4_isIn : MethodName := ⟨RX4, "isIn", "(III)Z"⟩
abbrev cX4_isKind : ByteArray := prog_6_method_5_code
def yX4_isKind : MethodName := ⟨RX4, "isKind", "(I)Z"⟩
abbrev cX4_kind : ByteArray := prog_6_method_6_code
def yX4_kind : MethodName := ⟨RX4, "kind", "(II)I"⟩
abbrev cX4_canTurn : ByteArray := prog_6_method_7_code
def yX4_canTurn : MethodName := ⟨RX4, "canTurn", "(I)Z"⟩
abbrev cX4_needsDeck : ByteArray := prog_6_method_8_code
def yX4_needsDeck : MethodName := ⟨RX4, "needsDeck", "(I)Z"⟩
abbrev cX4_addKind : ByteArray := prog_6_method_9_code
def yX4_addKind : MethodName := ⟨RX4, "addKind", "(IIIIII)I"⟩
abbrev cX4_setRules : ByteArray := prog_6_method_10_code
def yX4_setRules : MethodName := ⟨RX4, "setRules", "(IIIZ)I"⟩
abbrev cX4_present : ByteArray := prog_6_method_11_code
def yX4_present : MethodName := ⟨RX4, "present", "()I"⟩
abbrev cX4_counted : ByteArray := prog_6_method_12_code
def yX4_counted : MethodName := ⟨RX4, "counted", "(I)I"⟩
abbrev cX4_count : ByteArray := prog_6_method_13_code
def yX4_count : MethodName := ⟨RX4, "count", "(I)I"⟩
abbrev cX4_get : ByteArray := prog_6_method_14_code
def yX4_get : MethodName := ⟨RX4, "get", "(II)I"⟩
abbrev cX4_isHere : ByteArray := prog_6_method_15_code
def yX4_isHere : MethodName := ⟨RX4, "isHere", "(I)Z"⟩
abbrev cX4_isItem : ByteArray := prog_6_method_16_code
def yX4_isItem : MethodName := ⟨RX4, "isItem", "(I)Z"⟩
abbrev cX4_wide : ByteArray := prog_6_method_17_code
def yX4_wide : MethodName := ⟨RX4, "wide", "(I)I"⟩
abbrev cX4_deep : ByteArray := prog_6_method_18_code
def yX4_deep : MethodName := ⟨RX4, "deep", "(I)I"⟩
abbrev cX4_topOf : ByteArray := prog_6_method_19_code
def yX4_topOf : MethodName := ⟨RX4, "topOf", "(I)I"⟩
abbrev cX4_covers : ByteArray := prog_6_method_20_code
def yX4_covers : MethodName := ⟨RX4, "covers", "(III)Z"⟩
abbrev cX4_overlap : ByteArray := prog_6_method_21_code
def yX4_overlap : MethodName := ⟨RX4, "overlap", "(IIII)I"⟩
abbrev cX4_common : ByteArray := prog_6_method_22_code
def yX4_common : MethodName := ⟨RX4, "common", "(II)I"⟩
abbrev cX4_standsOn : ByteArray := prog_6_method_23_code
def yX4_standsOn : MethodName := ⟨RX4, "standsOn", "(II)Z"⟩
abbrev cX4_cells : ByteArray := prog_6_method_24_code
def yX4_cells : MethodName := ⟨RX4, "cells", "(I)I"⟩
abbrev cX4_ground : ByteArray := prog_6_method_25_code
def yX4_ground : MethodName := ⟨RX4, "ground", "(I)I"⟩
abbrev cX4_isGround : ByteArray := prog_6_method_26_code
def yX4_isGround : MethodName := ⟨RX4, "isGround", "(III)Z"⟩
abbrev cX4_hasCorners : ByteArray := prog_6_method_27_code
def yX4_hasCorners : MethodName := ⟨RX4, "hasCorners", "(I)Z"⟩
abbrev cX4_weight : ByteArray := prog_6_method_28_code
def yX4_weight : MethodName := ⟨RX4, "weight", "(I)I"⟩
abbrev cX4_reckonLoads : ByteArray := prog_6_method_29_code
def yX4_reckonLoads : MethodName := ⟨RX4, "reckonLoads", "()V"⟩
abbrev cX4_isTooMuch : ByteArray := prog_6_method_30_code
def yX4_isTooMuch : MethodName := ⟨RX4, "isTooMuch", "()Z"⟩
abbrev cX4_weights : ByteArray := prog_6_method_31_code
def yX4_weights : MethodName := ⟨RX4, "weights", "()I"⟩
abbrev cX4_lay : ByteArray := prog_6_method_32_code
def yX4_lay : MethodName := ⟨RX4, "lay", "(IIIIZ)V"⟩
abbrev cX4_why : ByteArray := prog_6_method_33_code
def yX4_why : MethodName := ⟨RX4, "why", "(IIIZ)I"⟩
abbrev cX4_reason : ByteArray := prog_6_method_34_code
def yX4_reason : MethodName := ⟨RX4, "reason", "(IIIZ)I"⟩
abbrev cX4_add : ByteArray := prog_6_method_35_code
def yX4_add : MethodName := ⟨RX4, "add", "(IIIZ)V"⟩
abbrev cX4_put : ByteArray := prog_6_method_36_code
def yX4_put : MethodName := ⟨RX4, "put", "(IIIZ)I"⟩
abbrev cX4_above : ByteArray := prog_6_method_37_code
def yX4_above : MethodName := ⟨RX4, "above", "(I)I"⟩
abbrev cX4_below : ByteArray := prog_6_method_38_code
def yX4_below : MethodName := ⟨RX4, "below", "(I)I"⟩
abbrev cX4_takeOff : ByteArray := prog_6_method_39_code
def yX4_takeOff : MethodName := ⟨RX4, "takeOff", "(I)I"⟩
abbrev cX4_itemTold : ByteArray := prog_6_method_40_code
def yX4_itemTold : MethodName := ⟨RX4, "itemTold", "(II)I"⟩
abbrev cX4_item : ByteArray := prog_6_method_41_code
def yX4_item : MethodName := ⟨RX4, "item", "(II)I"⟩
abbrev cX4_isCell : ByteArray := prog_6_method_42_code
def yX4_isCell : MethodName := ⟨RX4, "isCell", "(II)Z"⟩
abbrev cX4_top : ByteArray := prog_6_method_43_code
def yX4_top : MethodName := ⟨RX4, "top", "(II)I"⟩
abbrev cX4_at : ByteArray := prog_6_method_44_code
def yX4_at : MethodName := ⟨RX4, "at", "(III)I"⟩
abbrev cX4_rests : ByteArray := prog_6_method_45_code
def yX4_rests : MethodName := ⟨RX4, "rests", "(II)Z"⟩
abbrev cX4_restsOn : ByteArray := prog_6_method_46_code
def yX4_restsOn : MethodName := ⟨RX4, "restsOn", "(II)Z"⟩
abbrev cX4_bestFor : ByteArray := prog_6_method_47_code
def yX4_bestFor : MethodName := ⟨RX4, "bestFor", "(I)I"⟩
abbrev cX4_best : ByteArray := prog_6_method_48_code
def yX4_best : MethodName := ⟨RX4, "best", "(I)I"⟩
abbrev cX4_putBest : ByteArray := prog_6_method_49_code
def yX4_putBest : MethodName := ⟨RX4, "putBest", "(I)Z"⟩
abbrev cX4_fill : ByteArray := prog_6_method_50_code
def yX4_fill : MethodName := ⟨RX4, "fill", "(II)I"⟩
abbrev cX4_addLine : ByteArray := prog_6_method_51_code
def yX4_addLine : MethodName := ⟨RX4, "addLine", "(II)I"⟩
abbrev cX4_isAhead : ByteArray := prog_6_method_52_code
def yX4_isAhead : MethodName := ⟨RX4, "isAhead", "(II)Z"⟩
abbrev cX4_stack : ByteArray := prog_6_method_53_code
def yX4_stack : MethodName := ⟨RX4, "stack", "()I"⟩
abbrev cX4_line : ByteArray := prog_6_method_54_code
def yX4_line : MethodName := ⟨RX4, "line", "(IZ)I"⟩
abbrev cX4_clear : ByteArray := prog_6_method_55_code
def yX4_clear : MethodName := ⟨RX4, "clear", "()I"⟩
abbrev cX4_sumOf : ByteArray := prog_6_method_56_code
def yX4_sumOf : MethodName := ⟨RX4, "sumOf", "(I)I"⟩
abbrev cX4_sum : ByteArray := prog_6_method_57_code
def yX4_sum : MethodName := ⟨RX4, "sum", "(I)I"⟩
abbrev cX4_middle : ByteArray := prog_6_method_58_code
def yX4_middle : MethodName := ⟨RX4, "middle", "(Z)D"⟩
abbrev cX4_filled : ByteArray := prog_6_method_59_code
def yX4_filled : MethodName := ⟨RX4, "filled", "()D"⟩
abbrev cX4_digest : ByteArray := prog_6_method_60_code
def yX4_digest : MethodName := ⟨RX4, "digest", "()J"⟩
def RJ9 : String := "java/lang/Math"
def TJ9 : u_T := fun k => match k with
  | _ => ("", "", "", false)
def tyJ9 : Nat → FieldType := fun k => match k with
  | _ => .int
abbrev wsJ90 : List Cond := u_ws RJ9 TJ9 0
theorem nmJ9 : ∀ a, a < 0 → ∀ b, b < 0 → a ≠ b → (TJ9 a).2.1 ≠ (TJ9 b).2.1 := by decide +kernel
theorem tyJ9_ok : ∀ k, k < 0 → parseFieldDescriptor (TJ9 k).2.2.1 = some (tyJ9 k) := by decide +kernel
abbrev cJ9_max_7cf53 : ByteArray := prog_11_method_65_code
def yJ9_max_7cf53 : MethodName := ⟨RJ9, "max", "(II)I"⟩
abbrev cJ9_min_7cf53 : ByteArray := prog_11_method_69_code
def yJ9_min_7cf53 : MethodName := ⟨RJ9, "min", "(II)I"⟩
def RJ10 : String := "java/lang/System"
def TJ10 : u_T := fun k => match k with
  | _ => ("", "", "", false)
def tyJ10 : Nat → FieldType := fun k => match k with
  | _ => .int
abbrev wsJ100 : List Cond := u_ws RJ10 TJ10 0
theorem nmJ10 : ∀ a, a < 0 → ∀ b, b < 0 → a ≠ b → (TJ10 a).2.1 ≠ (TJ10 b).2.1 := by decide +kernel
theorem tyJ10_ok : ∀ k, k < 0 → parseFieldDescriptor (TJ10 k).2.2.1 = some (tyJ10 k) := by decide +kernel
def RL : String := "PalletStackLaw"
abbrev cL_addKind : ByteArray := method_3_code
def yL_addKind : MethodName := ⟨RL, "addKind", "(LPalletStack;IIIIII[J)I"⟩
abbrev cL_setRules : ByteArray := method_4_code
def yL_setRules : MethodName := ⟨RL, "setRules", "(LPalletStack;IIIZ[J)I"⟩
abbrev cL_count : ByteArray := method_5_code
def yL_count : MethodName := ⟨RL, "count", "(LPalletStack;I[J)I"⟩
abbrev cL_reason : ByteArray := method_6_code
def yL_reason : MethodName := ⟨RL, "reason", "(LPalletStack;IIIZ[J)I"⟩
abbrev cL_put : ByteArray := method_7_code
def yL_put : MethodName := ⟨RL, "put", "(LPalletStack;IIIZ[J)I"⟩
abbrev cL_takeOff : ByteArray := method_8_code
def yL_takeOff : MethodName := ⟨RL, "takeOff", "(LPalletStack;I[J)I"⟩
abbrev cL_item : ByteArray := method_9_code
def yL_item : MethodName := ⟨RL, "item", "(LPalletStack;II[J)I"⟩
abbrev cL_top : ByteArray := method_10_code
def yL_top : MethodName := ⟨RL, "top", "(LPalletStack;II[J)I"⟩
abbrev cL_at : ByteArray := method_11_code
def yL_at : MethodName := ⟨RL, "at", "(LPalletStack;III[J)I"⟩
abbrev cL_restsOn : ByteArray := method_12_code
def yL_restsOn : MethodName := ⟨RL, "restsOn", "(LPalletStack;II[J)I"⟩
abbrev cL_best : ByteArray := method_13_code
def yL_best : MethodName := ⟨RL, "best", "(LPalletStack;I[J)I"⟩
abbrev cL_fill : ByteArray := method_14_code
def yL_fill : MethodName := ⟨RL, "fill", "(LPalletStack;II[J)I"⟩
abbrev cL_addLine : ByteArray := method_15_code
def yL_addLine : MethodName := ⟨RL, "addLine", "(LPalletStack;II[J)I"⟩
abbrev cL_line : ByteArray := method_16_code
def yL_line : MethodName := ⟨RL, "line", "(LPalletStack;IZ[J)I"⟩
abbrev cL_sum : ByteArray := method_17_code
def yL_sum : MethodName := ⟨RL, "sum", "(LPalletStack;I[J)I"⟩
abbrev cL_law : ByteArray := code
def yL_law : MethodName := ⟨RL, "law", "([I)Z"⟩
def wsX0_init : List Cond := .code yX0_init cX0_init 1 none :: ([.methodLink RX0 3 objectInit, .instanceMethod objectInit, .code objectInit ⟨#[0xb1]⟩ 1 none, .fieldLink RX0 9 "PalletStack$Item" "kind" "I", .fieldLink RX0 15 "PalletStack$Item" "weight" "I", .fieldLink RX0 18 "PalletStack$Item" "strength" "I", .fieldLink RX0 21 "PalletStack$Item" "isTurned" "Z", .fieldLink RX0 25 "PalletStack$Item" "width" "I", .fieldLink RX0 28 "PalletStack$Item" "depth" "I", .fieldLink RX0 31 "PalletStack$Item" "x" "I", .fieldLink RX0 34 "PalletStack$Item" "y" "I", .fieldLink RX0 37 "PalletStack$Item" "bottom" "I", .fieldLink RX0 40 "PalletStack$Item" "top" "I", .fieldLink RX0 43 "PalletStack$Item" "ground" "I", .fieldLink RX0 46 "PalletStack$Item" "load" "I", .fieldLink RX0 49 "PalletStack$Item" "nextLoad" "I", .fieldLink RX0 52 "PalletStack$Item" "isOnPallet" "Z", .fieldLink RX0 55 "PalletStack$Item" "isReached" "Z", .fieldLink RX0 58 "PalletStack$Item" "supportCount" "I", .classLink RX0 10 RX0, .fieldLink RX0 61 "PalletStack$Item" "supports" "[LPalletStack$Item;", .arrayClass .int, .fieldLink RX0 65 "PalletStack$Item" "supportCells" "[I"] ++ wsX00)
def wsX0_shape : List Cond := .code yX0_shape cX0_shape 3 none :: ([.fieldLink RX0 69 "PalletStack$Kind" "number" "I", .fieldLink RX0 9 "PalletStack$Item" "kind" "I", .fieldLink RX0 74 "PalletStack$Kind" "weight" "I", .fieldLink RX0 15 "PalletStack$Item" "weight" "I", .fieldLink RX0 75 "PalletStack$Kind" "strength" "I", .fieldLink RX0 18 "PalletStack$Item" "strength" "I", .fieldLink RX0 21 "PalletStack$Item" "isTurned" "Z", .fieldLink RX0 76 "PalletStack$Kind" "depth" "I", .fieldLink RX0 77 "PalletStack$Kind" "width" "I", .fieldLink RX0 25 "PalletStack$Item" "width" "I", .fieldLink RX0 28 "PalletStack$Item" "depth" "I"] ++ wsX10 ++ wsX00)
def wsX1_init : List Cond := .code yX1_init cX1_init 8 none :: ([.methodLink RX1 1 objectInit, .instanceMethod objectInit, .code objectInit ⟨#[0xb1]⟩ 1 none, .fieldLink RX1 7 "PalletStack$Kind" "number" "I", .fieldLink RX1 13 "PalletStack$Kind" "width" "I", .fieldLink RX1 16 "PalletStack$Kind" "depth" "I", .fieldLink RX1 19 "PalletStack$Kind" "height" "I", .fieldLink RX1 22 "PalletStack$Kind" "weight" "I", .fieldLink RX1 25 "PalletStack$Kind" "strength" "I", .fieldLink RX1 28 "PalletStack$Kind" "canTurn" "Z", .fieldLink RX1 32 "PalletStack$Kind" "needsDeck" "Z"] ++ wsX10)
def wsX1_comesBefore : List Cond := .code yX1_comesBefore cX1_comesBefore 2 (some .boolean) :: ([.fieldLink RX1 32 "PalletStack$Kind" "needsDeck" "Z", .fieldLink RX1 25 "PalletStack$Kind" "strength" "I", .fieldLink RX1 22 "PalletStack$Kind" "weight" "I"] ++ wsX10)
def wsX2_init : List Cond := .code yX2_init cX2_init 3 none :: ([.methodLink RX2 1 objectInit, .instanceMethod objectInit, .code objectInit ⟨#[0xb1]⟩ 1 none, .fieldLink RX2 7 "PalletStack$Line" "isAside" "Z", .fieldLink RX2 13 "PalletStack$Line" "kind" "LPalletStack$Kind;", .fieldLink RX2 17 "PalletStack$Line" "count" "I"] ++ wsX20)
def wsX3_init_r1 : List Cond := [Cond.methodLink RX3 3 objectInit, Cond.instanceMethod objectInit, Cond.code objectInit ⟨#[0xb1]⟩ 1 none, Cond.classLink RX3 9 RX1, Cond.fieldLink RX3 11 "PalletStack" "kinds" "[LPalletStack$Kind;", Cond.fieldLink RX3 15 "PalletStack" "kindCount" "I", Cond.fieldLink RX3 19 "PalletStack" "greatestHeight" "I", Cond.fieldLink RX3 22 "PalletStack" "support" "I", Cond.fieldLink RX3 25 "PalletStack" "limit" "I", Cond.fieldLink RX3 28 "PalletStack" "hasCornerRule" "Z", Cond.classLink RX3 32 RX0, Cond.fieldLink RX3 34 "PalletStack" "items" "[LPalletStack$Item;", Cond.fieldLink RX3 38 "PalletStack" "cameCount" "I", Cond.fieldLink RX3 41 "PalletStack" "onPalletCount" "I", Cond.fieldLink RX3 44 "PalletStack" "weightOnPallet" "I", Cond.arrayClass .int, Cond.fieldLink RX3 47 "PalletStack" "tops" "[I", Cond.instantiable RX0 18, Cond.initialized RX0, Cond.fieldLink RX3 52 "PalletStack" "trial" "LPalletStack$Item;", Cond.classLink RX3 56 RX2, Cond.fieldLink RX3 58 "PalletStack" "lines" "[LPalletStack$Line;", Cond.fieldLink RX3 62 "PalletStack" "lineCount" "I", Cond.instanceMethod yX0_init]
def wsX3_init_r2 : List Cond := [Cond.code yX0_init cX0_init 1 none, Cond.methodLink RX0 3 objectInit, Cond.fieldLink RX0 9 "PalletStack$Item" "kind" "I", Cond.fieldLink RX0 15 "PalletStack$Item" "weight" "I", Cond.fieldLink RX0 18 "PalletStack$Item" "strength" "I", Cond.fieldLink RX0 21 "PalletStack$Item" "isTurned" "Z", Cond.fieldLink RX0 25 "PalletStack$Item" "width" "I", Cond.fieldLink RX0 28 "PalletStack$Item" "depth" "I", Cond.fieldLink RX0 31 "PalletStack$Item" "x" "I", Cond.fieldLink RX0 34 "PalletStack$Item" "y" "I", Cond.fieldLink RX0 37 "PalletStack$Item" "bottom" "I", Cond.fieldLink RX0 40 "PalletStack$Item" "top" "I", Cond.fieldLink RX0 43 "PalletStack$Item" "ground" "I", Cond.fieldLink RX0 46 "PalletStack$Item" "load" "I", Cond.fieldLink RX0 49 "PalletStack$Item" "nextLoad" "I", Cond.fieldLink RX0 52 "PalletStack$Item" "isOnPallet" "Z", Cond.fieldLink RX0 55 "PalletStack$Item" "isReached" "Z", Cond.fieldLink RX0 58 "PalletStack$Item" "supportCount" "I", Cond.classLink RX0 10 RX0, Cond.fieldLink RX0 61 "PalletStack$Item" "supports" "[LPalletStack$Item;", Cond.fieldLink RX0 65 "PalletStack$Item" "supportCells" "[I"]
def wsX3_init : List Cond := .code yX3_init cX3_init 2 none :: ((wsX3_init_r1 ++ wsX3_init_r2) ++ wsX30 ++ wsX00)
def wsX3_isWithin : List Cond := .code yX3_isWithin cX3_isWithin 3 (some .boolean) :: ([])
def wsX3_addKind_r1 : List Cond := [Cond.classLink RX3 69 "java/lang/IllegalArgumentException", Cond.initialized "java/lang/IllegalArgumentException", Cond.classLink RX3 72 "java/lang/IllegalStateException", Cond.initialized "java/lang/IllegalStateException", Cond.fieldLink RX3 15 "PalletStack" "kindCount" "I", Cond.fieldLink RX3 11 "PalletStack" "kinds" "[LPalletStack$Kind;", Cond.classLink RX3 9 RX1, Cond.instantiable RX1 8, Cond.initialized RX1, Cond.methodLink RX3 65 yX3_isWithin, Cond.static yX3_isWithin, Cond.initialized RX3, Cond.code yX3_isWithin cX3_isWithin 3 (some .boolean), Cond.methodLink RX3 75 yX1_init, Cond.instanceMethod yX1_init, Cond.code yX1_init cX1_init 8 none, Cond.methodLink RX1 1 objectInit, Cond.instanceMethod objectInit, Cond.code objectInit ⟨#[0xb1]⟩ 1 none, Cond.fieldLink RX1 7 "PalletStack$Kind" "number" "I", Cond.fieldLink RX1 13 "PalletStack$Kind" "width" "I", Cond.fieldLink RX1 16 "PalletStack$Kind" "depth" "I", Cond.fieldLink RX1 19 "PalletStack$Kind" "height" "I", Cond.fieldLink RX1 22 "PalletStack$Kind" "weight" "I"]
def wsX3_addKind_r2 : List Cond := [Cond.fieldLink RX1 25 "PalletStack$Kind" "strength" "I", Cond.fieldLink RX1 28 "PalletStack$Kind" "canTurn" "Z", Cond.fieldLink RX1 32 "PalletStack$Kind" "needsDeck" "Z"]
def wsX3_addKind : List Cond := .code yX3_addKind cX3_addKind 8 (some .int) :: ((wsX3_addKind_r1 ++ wsX3_addKind_r2) ++ wsX30 ++ wsX10 ++ (vx_at0 RX3 71 "java/lang/IllegalArgumentException" ["java/lang/RuntimeException", "java/lang/Exception"]).filter goodWord ++ (vx_at0 RX3 74 "java/lang/IllegalStateException" ["java/lang/RuntimeException", "java/lang/Exception"]).filter goodWord)
def wsX3_setRules : List Cond := .code yX3_setRules cX3_setRules 6 (some .int) :: ([.classLink RX3 69 "java/lang/IllegalArgumentException", .initialized "java/lang/IllegalArgumentException", .fieldLink RX3 19 "PalletStack" "greatestHeight" "I", .fieldLink RX3 22 "PalletStack" "support" "I", .fieldLink RX3 25 "PalletStack" "limit" "I", .fieldLink RX3 28 "PalletStack" "hasCornerRule" "Z", .methodLink RX3 65 yX3_isWithin, .static yX3_isWithin, .initialized RX3, .code yX3_isWithin cX3_isWithin 3 (some .boolean)] ++ wsX30 ++ (vx_at0 RX3 71 "java/lang/IllegalArgumentException" ["java/lang/RuntimeException", "java/lang/Exception"]).filter goodWord)
def wsX3_kindOf : List Cond := .code yX3_kindOf cX3_kindOf 2 (some (.object "PalletStack$Kind")) :: ([.fieldLink RX3 15 "PalletStack" "kindCount" "I", .fieldLink RX3 11 "PalletStack" "kinds" "[LPalletStack$Kind;", .methodLink RX3 65 yX3_isWithin, .static yX3_isWithin, .initialized RX3, .code yX3_isWithin cX3_isWithin 3 (some .boolean)] ++ wsX30)
def wsX3_isInField : List Cond := .code yX3_isInField cX3_isInField 6 (some .boolean) :: ([.fieldLink RX3 245 "PalletStack$Kind" "canTurn" "Z", .fieldLink RX3 248 "PalletStack$Kind" "depth" "I", .fieldLink RX3 249 "PalletStack$Kind" "width" "I", .methodLink RX3 65 yX3_isWithin, .static yX3_isWithin, .initialized RX3, .code yX3_isWithin cX3_isWithin 3 (some .boolean)] ++ wsX10)
def wsX3_topOf : List Cond := .code yX3_topOf cX3_topOf 4 (some .int) :: ([.fieldLink RX3 47 "PalletStack" "tops" "[I"] ++ wsX30)
def wsX3_letDown_r1 : List Cond := [Cond.fieldLink RX3 52 "PalletStack" "trial" "LPalletStack$Item;", Cond.fieldLink RX3 182 "PalletStack$Item" "x" "I", Cond.fieldLink RX3 176 "PalletStack$Item" "y" "I", Cond.fieldLink RX3 179 "PalletStack$Item" "depth" "I", Cond.fieldLink RX3 185 "PalletStack$Item" "width" "I", Cond.fieldLink RX3 131 "PalletStack$Item" "bottom" "I", Cond.fieldLink RX3 254 "PalletStack$Kind" "height" "I", Cond.fieldLink RX3 134 "PalletStack$Item" "top" "I", Cond.fieldLink RX3 214 "PalletStack$Item" "ground" "I", Cond.methodLink RX3 250 yX0_shape, Cond.instanceMethod yX0_shape, Cond.selects RX0 yX0_shape yX0_shape, Cond.initialized RX0, Cond.code yX0_shape cX0_shape 3 none, Cond.fieldLink RX0 69 "PalletStack$Kind" "number" "I", Cond.fieldLink RX0 9 "PalletStack$Item" "kind" "I", Cond.fieldLink RX0 74 "PalletStack$Kind" "weight" "I", Cond.fieldLink RX0 15 "PalletStack$Item" "weight" "I", Cond.fieldLink RX0 75 "PalletStack$Kind" "strength" "I", Cond.fieldLink RX0 18 "PalletStack$Item" "strength" "I", Cond.fieldLink RX0 21 "PalletStack$Item" "isTurned" "Z", Cond.fieldLink RX0 76 "PalletStack$Kind" "depth" "I", Cond.fieldLink RX0 77 "PalletStack$Kind" "width" "I", Cond.fieldLink RX0 25 "PalletStack$Item" "width" "I"]
def wsX3_letDown_r2 : List Cond := [Cond.fieldLink RX0 28 "PalletStack$Item" "depth" "I", Cond.methodLink RX3 124 yX3_topOf, Cond.instanceMethod yX3_topOf, Cond.selects RX3 yX3_topOf yX3_topOf, Cond.initialized RX3, Cond.code yX3_topOf cX3_topOf 4 (some .int), Cond.fieldLink RX3 47 "PalletStack" "tops" "[I"]
def wsX3_letDown : List Cond := .code yX3_letDown cX3_letDown 10 none :: ((wsX3_letDown_r1 ++ wsX3_letDown_r2) ++ wsX30 ++ wsX00 ++ wsX10)
def wsX3_brokenRule_r1 : List Cond := [Cond.fieldLink RX3 52 "PalletStack" "trial" "LPalletStack$Item;", Cond.fieldLink RX3 134 "PalletStack$Item" "top" "I", Cond.fieldLink RX3 19 "PalletStack" "greatestHeight" "I", Cond.fieldLink RX3 267 "PalletStack$Kind" "needsDeck" "Z", Cond.fieldLink RX3 131 "PalletStack$Item" "bottom" "I", Cond.fieldLink RX3 214 "PalletStack$Item" "ground" "I", Cond.fieldLink RX3 22 "PalletStack" "support" "I", Cond.fieldLink RX3 28 "PalletStack" "hasCornerRule" "Z", Cond.fieldLink RX3 44 "PalletStack" "weightOnPallet" "I", Cond.fieldLink RX3 107 "PalletStack$Item" "weight" "I", Cond.fieldLink RX3 25 "PalletStack" "limit" "I", Cond.methodLink RX3 188 yX0_cells, Cond.instanceMethod yX0_cells, Cond.selects RX0 yX0_cells yX0_cells, Cond.initialized RX0, Cond.code yX0_cells cX0_cells 1 (some .int), Cond.fieldLink RX0 25 "PalletStack$Item" "width" "I", Cond.fieldLink RX0 28 "PalletStack$Item" "depth" "I", Cond.methodLink RX3 270 yX3_hasGroundAtCorners, Cond.instanceMethod yX3_hasGroundAtCorners, Cond.selects RX3 yX3_hasGroundAtCorners yX3_hasGroundAtCorners, Cond.initialized RX3, Cond.code yX3_hasGroundAtCorners cX3_hasGroundAtCorners 3 (some .boolean), Cond.fieldLink RX3 182 "PalletStack$Item" "x" "I"]
def wsX3_brokenRule_r2 : List Cond := [Cond.fieldLink RX3 185 "PalletStack$Item" "width" "I", Cond.fieldLink RX3 176 "PalletStack$Item" "y" "I", Cond.fieldLink RX3 179 "PalletStack$Item" "depth" "I", Cond.methodLink RX3 264 yX3_isGround, Cond.instanceMethod yX3_isGround, Cond.selects RX3 yX3_isGround yX3_isGround, Cond.code yX3_isGround cX3_isGround 3 (some .boolean), Cond.methodLink RX3 124 yX3_topOf, Cond.instanceMethod yX3_topOf, Cond.selects RX3 yX3_topOf yX3_topOf, Cond.code yX3_topOf cX3_topOf 4 (some .int), Cond.fieldLink RX3 47 "PalletStack" "tops" "[I", Cond.methodLink RX3 274 yX3_findSupports, Cond.instanceMethod yX3_findSupports, Cond.selects RX3 yX3_findSupports yX3_findSupports, Cond.code yX3_findSupports cX3_findSupports 3 none, Cond.fieldLink RX3 211 "PalletStack$Item" "supportCount" "I", Cond.fieldLink RX3 38 "PalletStack" "cameCount" "I", Cond.methodLink RX3 96 yX3_itemOf, Cond.instanceMethod yX3_itemOf, Cond.selects RX3 yX3_itemOf yX3_itemOf, Cond.code yX3_itemOf cX3_itemOf 3 (some (.object "PalletStack$Item")), Cond.fieldLink RX3 34 "PalletStack" "items" "[LPalletStack$Item;", Cond.fieldLink RX3 104 "PalletStack$Item" "isOnPallet" "Z"]
def wsX3_brokenRule_r3 : List Cond := [Cond.methodLink RX3 257 yX0_cellsInCommon, Cond.instanceMethod yX0_cellsInCommon, Cond.selects RX0 yX0_cellsInCommon yX0_cellsInCommon, Cond.code yX0_cellsInCommon cX0_cellsInCommon 4 (some .int), Cond.fieldLink RX0 31 "PalletStack$Item" "x" "I", Cond.methodLink RX0 78 Lib.Math.min.name, Cond.static Lib.Math.min.name, Cond.initialized "java/lang/Math", Cond.code Lib.Math.min.name Lib.Math.min.code 2 (some .int), Cond.methodLink RX0 84 Lib.Math.max.name, Cond.static Lib.Math.max.name, Cond.code Lib.Math.max.name Lib.Math.max.code 2 (some .int), Cond.fieldLink RX0 34 "PalletStack$Item" "y" "I", Cond.methodLink RX3 260 yX0_addSupport, Cond.instanceMethod yX0_addSupport, Cond.selects RX0 yX0_addSupport yX0_addSupport, Cond.code yX0_addSupport cX0_addSupport 3 none, Cond.fieldLink RX0 58 "PalletStack$Item" "supportCount" "I", Cond.fieldLink RX0 61 "PalletStack$Item" "supports" "[LPalletStack$Item;", Cond.fieldLink RX0 65 "PalletStack$Item" "supportCells" "[I", Cond.methodLink RX3 277 yX3_isTooMuchLoad, Cond.instanceMethod yX3_isTooMuchLoad, Cond.selects RX3 yX3_isTooMuchLoad yX3_isTooMuchLoad, Cond.code yX3_isTooMuchLoad cX3_isTooMuchLoad 3 (some .boolean)]
def wsX3_brokenRule_r4 : List Cond := [Cond.fieldLink RX3 233 "PalletStack$Item" "nextLoad" "I", Cond.fieldLink RX3 242 "PalletStack$Item" "strength" "I", Cond.methodLink RX3 236 yX3_forgetNextLoads, Cond.instanceMethod yX3_forgetNextLoads, Cond.selects RX3 yX3_forgetNextLoads yX3_forgetNextLoads, Cond.code yX3_forgetNextLoads cX3_forgetNextLoads 3 none, Cond.methodLink RX3 239 yX0_passLoadDown, Cond.instanceMethod yX0_passLoadDown, Cond.selects RX0 yX0_passLoadDown yX0_passLoadDown, Cond.code yX0_passLoadDown cX0_passLoadDown 3 none, Cond.fieldLink RX0 43 "PalletStack$Item" "ground" "I", Cond.fieldLink RX0 49 "PalletStack$Item" "nextLoad" "I", Cond.fieldLink RX0 15 "PalletStack$Item" "weight" "I"]
def wsX3_brokenRule : List Cond := .code yX3_brokenRule cX3_brokenRule 2 (some .int) :: ((wsX3_brokenRule_r1 ++ (wsX3_brokenRule_r2 ++ (wsX3_brokenRule_r3 ++ wsX3_brokenRule_r4))) ++ wsX30 ++ wsX00 ++ wsX10)
def wsX3_xOf : List Cond := .code yX3_xOf cX3_xOf 1 (some .int) :: ([])
def wsX3_yOf : List Cond := .code yX3_yOf cX3_yOf 1 (some .int) :: ([])
def wsX3_isTurnedIn : List Cond := .code yX3_isTurnedIn cX3_isTurnedIn 1 (some .boolean) :: ([])
def wsX3_bestPlace_r1 : List Cond := [Cond.fieldLink RX3 52 "PalletStack" "trial" "LPalletStack$Item;", Cond.fieldLink RX3 131 "PalletStack$Item" "bottom" "I", Cond.fieldLink RX3 214 "PalletStack$Item" "ground" "I", Cond.methodLink RX3 291 yX3_xOf, Cond.static yX3_xOf, Cond.initialized RX3, Cond.code yX3_xOf cX3_xOf 1 (some .int), Cond.methodLink RX3 294 yX3_yOf, Cond.static yX3_yOf, Cond.code yX3_yOf cX3_yOf 1 (some .int), Cond.methodLink RX3 297 yX3_isTurnedIn, Cond.static yX3_isTurnedIn, Cond.code yX3_isTurnedIn cX3_isTurnedIn 1 (some .boolean), Cond.methodLink RX3 280 yX3_isInField, Cond.static yX3_isInField, Cond.code yX3_isInField cX3_isInField 6 (some .boolean), Cond.fieldLink RX3 245 "PalletStack$Kind" "canTurn" "Z", Cond.fieldLink RX3 248 "PalletStack$Kind" "depth" "I", Cond.fieldLink RX3 249 "PalletStack$Kind" "width" "I", Cond.methodLink RX3 65 yX3_isWithin, Cond.static yX3_isWithin, Cond.code yX3_isWithin cX3_isWithin 3 (some .boolean), Cond.methodLink RX3 284 yX3_letDown, Cond.instanceMethod yX3_letDown]
def wsX3_bestPlace_r2 : List Cond := [Cond.selects RX3 yX3_letDown yX3_letDown, Cond.code yX3_letDown cX3_letDown 10 none, Cond.fieldLink RX3 182 "PalletStack$Item" "x" "I", Cond.fieldLink RX3 176 "PalletStack$Item" "y" "I", Cond.fieldLink RX3 179 "PalletStack$Item" "depth" "I", Cond.fieldLink RX3 185 "PalletStack$Item" "width" "I", Cond.fieldLink RX3 254 "PalletStack$Kind" "height" "I", Cond.fieldLink RX3 134 "PalletStack$Item" "top" "I", Cond.methodLink RX3 250 yX0_shape, Cond.instanceMethod yX0_shape, Cond.selects RX0 yX0_shape yX0_shape, Cond.initialized RX0, Cond.code yX0_shape cX0_shape 3 none, Cond.fieldLink RX0 69 "PalletStack$Kind" "number" "I", Cond.fieldLink RX0 9 "PalletStack$Item" "kind" "I", Cond.fieldLink RX0 74 "PalletStack$Kind" "weight" "I", Cond.fieldLink RX0 15 "PalletStack$Item" "weight" "I", Cond.fieldLink RX0 75 "PalletStack$Kind" "strength" "I", Cond.fieldLink RX0 18 "PalletStack$Item" "strength" "I", Cond.fieldLink RX0 21 "PalletStack$Item" "isTurned" "Z", Cond.fieldLink RX0 76 "PalletStack$Kind" "depth" "I", Cond.fieldLink RX0 77 "PalletStack$Kind" "width" "I", Cond.fieldLink RX0 25 "PalletStack$Item" "width" "I", Cond.fieldLink RX0 28 "PalletStack$Item" "depth" "I"]
def wsX3_bestPlace_r3 : List Cond := [Cond.methodLink RX3 124 yX3_topOf, Cond.instanceMethod yX3_topOf, Cond.selects RX3 yX3_topOf yX3_topOf, Cond.code yX3_topOf cX3_topOf 4 (some .int), Cond.fieldLink RX3 47 "PalletStack" "tops" "[I", Cond.methodLink RX3 288 yX3_brokenRule, Cond.instanceMethod yX3_brokenRule, Cond.selects RX3 yX3_brokenRule yX3_brokenRule, Cond.code yX3_brokenRule cX3_brokenRule 2 (some .int), Cond.fieldLink RX3 19 "PalletStack" "greatestHeight" "I", Cond.fieldLink RX3 267 "PalletStack$Kind" "needsDeck" "Z", Cond.fieldLink RX3 22 "PalletStack" "support" "I", Cond.fieldLink RX3 28 "PalletStack" "hasCornerRule" "Z", Cond.fieldLink RX3 44 "PalletStack" "weightOnPallet" "I", Cond.fieldLink RX3 107 "PalletStack$Item" "weight" "I", Cond.fieldLink RX3 25 "PalletStack" "limit" "I", Cond.methodLink RX3 188 yX0_cells, Cond.instanceMethod yX0_cells, Cond.selects RX0 yX0_cells yX0_cells, Cond.code yX0_cells cX0_cells 1 (some .int), Cond.methodLink RX3 270 yX3_hasGroundAtCorners, Cond.instanceMethod yX3_hasGroundAtCorners, Cond.selects RX3 yX3_hasGroundAtCorners yX3_hasGroundAtCorners, Cond.code yX3_hasGroundAtCorners cX3_hasGroundAtCorners 3 (some .boolean)]
def wsX3_bestPlace_r4 : List Cond := [Cond.methodLink RX3 264 yX3_isGround, Cond.instanceMethod yX3_isGround, Cond.selects RX3 yX3_isGround yX3_isGround, Cond.code yX3_isGround cX3_isGround 3 (some .boolean), Cond.methodLink RX3 274 yX3_findSupports, Cond.instanceMethod yX3_findSupports, Cond.selects RX3 yX3_findSupports yX3_findSupports, Cond.code yX3_findSupports cX3_findSupports 3 none, Cond.fieldLink RX3 211 "PalletStack$Item" "supportCount" "I", Cond.fieldLink RX3 38 "PalletStack" "cameCount" "I", Cond.methodLink RX3 96 yX3_itemOf, Cond.instanceMethod yX3_itemOf, Cond.selects RX3 yX3_itemOf yX3_itemOf, Cond.code yX3_itemOf cX3_itemOf 3 (some (.object "PalletStack$Item")), Cond.fieldLink RX3 34 "PalletStack" "items" "[LPalletStack$Item;", Cond.fieldLink RX3 104 "PalletStack$Item" "isOnPallet" "Z", Cond.methodLink RX3 257 yX0_cellsInCommon, Cond.instanceMethod yX0_cellsInCommon, Cond.selects RX0 yX0_cellsInCommon yX0_cellsInCommon, Cond.code yX0_cellsInCommon cX0_cellsInCommon 4 (some .int), Cond.fieldLink RX0 31 "PalletStack$Item" "x" "I", Cond.methodLink RX0 78 Lib.Math.min.name, Cond.static Lib.Math.min.name, Cond.initialized "java/lang/Math"]
def wsX3_bestPlace_r5 : List Cond := [Cond.code Lib.Math.min.name Lib.Math.min.code 2 (some .int), Cond.methodLink RX0 84 Lib.Math.max.name, Cond.static Lib.Math.max.name, Cond.code Lib.Math.max.name Lib.Math.max.code 2 (some .int), Cond.fieldLink RX0 34 "PalletStack$Item" "y" "I", Cond.methodLink RX3 260 yX0_addSupport, Cond.instanceMethod yX0_addSupport, Cond.selects RX0 yX0_addSupport yX0_addSupport, Cond.code yX0_addSupport cX0_addSupport 3 none, Cond.fieldLink RX0 58 "PalletStack$Item" "supportCount" "I", Cond.fieldLink RX0 61 "PalletStack$Item" "supports" "[LPalletStack$Item;", Cond.fieldLink RX0 65 "PalletStack$Item" "supportCells" "[I", Cond.methodLink RX3 277 yX3_isTooMuchLoad, Cond.instanceMethod yX3_isTooMuchLoad, Cond.selects RX3 yX3_isTooMuchLoad yX3_isTooMuchLoad, Cond.code yX3_isTooMuchLoad cX3_isTooMuchLoad 3 (some .boolean), Cond.fieldLink RX3 233 "PalletStack$Item" "nextLoad" "I", Cond.fieldLink RX3 242 "PalletStack$Item" "strength" "I", Cond.methodLink RX3 236 yX3_forgetNextLoads, Cond.instanceMethod yX3_forgetNextLoads, Cond.selects RX3 yX3_forgetNextLoads yX3_forgetNextLoads, Cond.code yX3_forgetNextLoads cX3_forgetNextLoads 3 none, Cond.methodLink RX3 239 yX0_passLoadDown, Cond.instanceMethod yX0_passLoadDown]
def wsX3_bestPlace_r6 : List Cond := [Cond.selects RX0 yX0_passLoadDown yX0_passLoadDown, Cond.code yX0_passLoadDown cX0_passLoadDown 3 none, Cond.fieldLink RX0 43 "PalletStack$Item" "ground" "I", Cond.fieldLink RX0 49 "PalletStack$Item" "nextLoad" "I"]
def wsX3_bestPlace : List Cond := .code yX3_bestPlace cX3_bestPlace 7 (some .int) :: ((wsX3_bestPlace_r1 ++ (wsX3_bestPlace_r2 ++ (wsX3_bestPlace_r3 ++ (wsX3_bestPlace_r4 ++ (wsX3_bestPlace_r5 ++ wsX3_bestPlace_r6))))) ++ wsX30 ++ wsX00 ++ wsX10)
def wsX3_putAtBest_r1 : List Cond := [Cond.fieldLink RX3 38 "PalletStack" "cameCount" "I", Cond.methodLink RX3 141 yX3_bestPlace, Cond.instanceMethod yX3_bestPlace, Cond.selects RX3 yX3_bestPlace yX3_bestPlace, Cond.initialized RX3, Cond.code yX3_bestPlace cX3_bestPlace 7 (some .int), Cond.fieldLink RX3 52 "PalletStack" "trial" "LPalletStack$Item;", Cond.fieldLink RX3 131 "PalletStack$Item" "bottom" "I", Cond.fieldLink RX3 214 "PalletStack$Item" "ground" "I", Cond.methodLink RX3 291 yX3_xOf, Cond.static yX3_xOf, Cond.code yX3_xOf cX3_xOf 1 (some .int), Cond.methodLink RX3 294 yX3_yOf, Cond.static yX3_yOf, Cond.code yX3_yOf cX3_yOf 1 (some .int), Cond.methodLink RX3 297 yX3_isTurnedIn, Cond.static yX3_isTurnedIn, Cond.code yX3_isTurnedIn cX3_isTurnedIn 1 (some .boolean), Cond.methodLink RX3 280 yX3_isInField, Cond.static yX3_isInField, Cond.code yX3_isInField cX3_isInField 6 (some .boolean), Cond.fieldLink RX3 245 "PalletStack$Kind" "canTurn" "Z", Cond.fieldLink RX3 248 "PalletStack$Kind" "depth" "I", Cond.fieldLink RX3 249 "PalletStack$Kind" "width" "I"]
def wsX3_putAtBest_r2 : List Cond := [Cond.methodLink RX3 65 yX3_isWithin, Cond.static yX3_isWithin, Cond.code yX3_isWithin cX3_isWithin 3 (some .boolean), Cond.methodLink RX3 284 yX3_letDown, Cond.instanceMethod yX3_letDown, Cond.selects RX3 yX3_letDown yX3_letDown, Cond.code yX3_letDown cX3_letDown 10 none, Cond.fieldLink RX3 182 "PalletStack$Item" "x" "I", Cond.fieldLink RX3 176 "PalletStack$Item" "y" "I", Cond.fieldLink RX3 179 "PalletStack$Item" "depth" "I", Cond.fieldLink RX3 185 "PalletStack$Item" "width" "I", Cond.fieldLink RX3 254 "PalletStack$Kind" "height" "I", Cond.fieldLink RX3 134 "PalletStack$Item" "top" "I", Cond.methodLink RX3 250 yX0_shape, Cond.instanceMethod yX0_shape, Cond.selects RX0 yX0_shape yX0_shape, Cond.initialized RX0, Cond.code yX0_shape cX0_shape 3 none, Cond.fieldLink RX0 69 "PalletStack$Kind" "number" "I", Cond.fieldLink RX0 9 "PalletStack$Item" "kind" "I", Cond.fieldLink RX0 74 "PalletStack$Kind" "weight" "I", Cond.fieldLink RX0 15 "PalletStack$Item" "weight" "I", Cond.fieldLink RX0 75 "PalletStack$Kind" "strength" "I", Cond.fieldLink RX0 18 "PalletStack$Item" "strength" "I"]
def wsX3_putAtBest_r3 : List Cond := [Cond.fieldLink RX0 21 "PalletStack$Item" "isTurned" "Z", Cond.fieldLink RX0 76 "PalletStack$Kind" "depth" "I", Cond.fieldLink RX0 77 "PalletStack$Kind" "width" "I", Cond.fieldLink RX0 25 "PalletStack$Item" "width" "I", Cond.fieldLink RX0 28 "PalletStack$Item" "depth" "I", Cond.methodLink RX3 124 yX3_topOf, Cond.instanceMethod yX3_topOf, Cond.selects RX3 yX3_topOf yX3_topOf, Cond.code yX3_topOf cX3_topOf 4 (some .int), Cond.fieldLink RX3 47 "PalletStack" "tops" "[I", Cond.methodLink RX3 288 yX3_brokenRule, Cond.instanceMethod yX3_brokenRule, Cond.selects RX3 yX3_brokenRule yX3_brokenRule, Cond.code yX3_brokenRule cX3_brokenRule 2 (some .int), Cond.fieldLink RX3 19 "PalletStack" "greatestHeight" "I", Cond.fieldLink RX3 267 "PalletStack$Kind" "needsDeck" "Z", Cond.fieldLink RX3 22 "PalletStack" "support" "I", Cond.fieldLink RX3 28 "PalletStack" "hasCornerRule" "Z", Cond.fieldLink RX3 44 "PalletStack" "weightOnPallet" "I", Cond.fieldLink RX3 107 "PalletStack$Item" "weight" "I", Cond.fieldLink RX3 25 "PalletStack" "limit" "I", Cond.methodLink RX3 188 yX0_cells, Cond.instanceMethod yX0_cells, Cond.selects RX0 yX0_cells yX0_cells]
def wsX3_putAtBest_r4 : List Cond := [Cond.code yX0_cells cX0_cells 1 (some .int), Cond.methodLink RX3 270 yX3_hasGroundAtCorners, Cond.instanceMethod yX3_hasGroundAtCorners, Cond.selects RX3 yX3_hasGroundAtCorners yX3_hasGroundAtCorners, Cond.code yX3_hasGroundAtCorners cX3_hasGroundAtCorners 3 (some .boolean), Cond.methodLink RX3 264 yX3_isGround, Cond.instanceMethod yX3_isGround, Cond.selects RX3 yX3_isGround yX3_isGround, Cond.code yX3_isGround cX3_isGround 3 (some .boolean), Cond.methodLink RX3 274 yX3_findSupports, Cond.instanceMethod yX3_findSupports, Cond.selects RX3 yX3_findSupports yX3_findSupports, Cond.code yX3_findSupports cX3_findSupports 3 none, Cond.fieldLink RX3 211 "PalletStack$Item" "supportCount" "I", Cond.methodLink RX3 96 yX3_itemOf, Cond.instanceMethod yX3_itemOf, Cond.selects RX3 yX3_itemOf yX3_itemOf, Cond.code yX3_itemOf cX3_itemOf 3 (some (.object "PalletStack$Item")), Cond.fieldLink RX3 34 "PalletStack" "items" "[LPalletStack$Item;", Cond.fieldLink RX3 104 "PalletStack$Item" "isOnPallet" "Z", Cond.methodLink RX3 257 yX0_cellsInCommon, Cond.instanceMethod yX0_cellsInCommon, Cond.selects RX0 yX0_cellsInCommon yX0_cellsInCommon, Cond.code yX0_cellsInCommon cX0_cellsInCommon 4 (some .int)]
def wsX3_putAtBest_r5 : List Cond := [Cond.fieldLink RX0 31 "PalletStack$Item" "x" "I", Cond.methodLink RX0 78 Lib.Math.min.name, Cond.static Lib.Math.min.name, Cond.initialized "java/lang/Math", Cond.code Lib.Math.min.name Lib.Math.min.code 2 (some .int), Cond.methodLink RX0 84 Lib.Math.max.name, Cond.static Lib.Math.max.name, Cond.code Lib.Math.max.name Lib.Math.max.code 2 (some .int), Cond.fieldLink RX0 34 "PalletStack$Item" "y" "I", Cond.methodLink RX3 260 yX0_addSupport, Cond.instanceMethod yX0_addSupport, Cond.selects RX0 yX0_addSupport yX0_addSupport, Cond.code yX0_addSupport cX0_addSupport 3 none, Cond.fieldLink RX0 58 "PalletStack$Item" "supportCount" "I", Cond.fieldLink RX0 61 "PalletStack$Item" "supports" "[LPalletStack$Item;", Cond.fieldLink RX0 65 "PalletStack$Item" "supportCells" "[I", Cond.methodLink RX3 277 yX3_isTooMuchLoad, Cond.instanceMethod yX3_isTooMuchLoad, Cond.selects RX3 yX3_isTooMuchLoad yX3_isTooMuchLoad, Cond.code yX3_isTooMuchLoad cX3_isTooMuchLoad 3 (some .boolean), Cond.fieldLink RX3 233 "PalletStack$Item" "nextLoad" "I", Cond.fieldLink RX3 242 "PalletStack$Item" "strength" "I", Cond.methodLink RX3 236 yX3_forgetNextLoads, Cond.instanceMethod yX3_forgetNextLoads]
def wsX3_putAtBest_r6 : List Cond := [Cond.selects RX3 yX3_forgetNextLoads yX3_forgetNextLoads, Cond.code yX3_forgetNextLoads cX3_forgetNextLoads 3 none, Cond.methodLink RX3 239 yX0_passLoadDown, Cond.instanceMethod yX0_passLoadDown, Cond.selects RX0 yX0_passLoadDown yX0_passLoadDown, Cond.code yX0_passLoadDown cX0_passLoadDown 3 none, Cond.fieldLink RX0 43 "PalletStack$Item" "ground" "I", Cond.fieldLink RX0 49 "PalletStack$Item" "nextLoad" "I", Cond.methodLink RX3 93 yX3_putTrial, Cond.instanceMethod yX3_putTrial, Cond.selects RX3 yX3_putTrial yX3_putTrial, Cond.code yX3_putTrial cX3_putTrial 4 none, Cond.fieldLink RX3 41 "PalletStack" "onPalletCount" "I", Cond.methodLink RX3 301 yX3_layTop, Cond.instanceMethod yX3_layTop, Cond.selects RX3 yX3_layTop yX3_layTop, Cond.code yX3_layTop cX3_layTop 4 none, Cond.methodLink RX3 120 yX3_isCell, Cond.static yX3_isCell, Cond.code yX3_isCell cX3_isCell 2 (some .boolean), Cond.methodLink RX3 113 yX3_settleLoads, Cond.instanceMethod yX3_settleLoads, Cond.selects RX3 yX3_settleLoads yX3_settleLoads, Cond.code yX3_settleLoads cX3_settleLoads 3 none]
def wsX3_putAtBest_r7 : List Cond := [Cond.fieldLink RX3 208 "PalletStack$Item" "load" "I"]
def wsX3_putAtBest : List Cond := .code yX3_putAtBest cX3_putAtBest 3 (some .boolean) :: ((wsX3_putAtBest_r1 ++ (wsX3_putAtBest_r2 ++ (wsX3_putAtBest_r3 ++ (wsX3_putAtBest_r4 ++ (wsX3_putAtBest_r5 ++ (wsX3_putAtBest_r6 ++ wsX3_putAtBest_r7)))))) ++ wsX30 ++ wsX00 ++ wsX10)
def wsX3_addLine_r1 : List Cond := [Cond.classLink RX3 78 "java/lang/IndexOutOfBoundsException", Cond.initialized "java/lang/IndexOutOfBoundsException", Cond.classLink RX3 69 "java/lang/IllegalArgumentException", Cond.initialized "java/lang/IllegalArgumentException", Cond.classLink RX3 72 "java/lang/IllegalStateException", Cond.initialized "java/lang/IllegalStateException", Cond.fieldLink RX3 62 "PalletStack" "lineCount" "I", Cond.fieldLink RX3 58 "PalletStack" "lines" "[LPalletStack$Line;", Cond.classLink RX3 56 RX2, Cond.instantiable RX2 3, Cond.initialized RX2, Cond.methodLink RX3 85 yX3_kindOf, Cond.instanceMethod yX3_kindOf, Cond.selects RX3 yX3_kindOf yX3_kindOf, Cond.initialized RX3, Cond.code yX3_kindOf cX3_kindOf 2 (some (.object "PalletStack$Kind")), Cond.fieldLink RX3 15 "PalletStack" "kindCount" "I", Cond.fieldLink RX3 11 "PalletStack" "kinds" "[LPalletStack$Kind;", Cond.methodLink RX3 65 yX3_isWithin, Cond.static yX3_isWithin, Cond.code yX3_isWithin cX3_isWithin 3 (some .boolean), Cond.methodLink RX3 149 yX2_init, Cond.instanceMethod yX2_init, Cond.code yX2_init cX2_init 3 none]
def wsX3_addLine_r2 : List Cond := [Cond.methodLink RX2 1 objectInit, Cond.instanceMethod objectInit, Cond.code objectInit ⟨#[0xb1]⟩ 1 none, Cond.fieldLink RX2 7 "PalletStack$Line" "isAside" "Z", Cond.fieldLink RX2 13 "PalletStack$Line" "kind" "LPalletStack$Kind;", Cond.fieldLink RX2 17 "PalletStack$Line" "count" "I"]
def wsX3_addLine : List Cond := .code yX3_addLine cX3_addLine 5 (some .int) :: ((wsX3_addLine_r1 ++ wsX3_addLine_r2) ++ wsX30 ++ wsX20 ++ (vx_at0 RX3 80 "java/lang/IndexOutOfBoundsException" ["java/lang/RuntimeException", "java/lang/Exception"]).filter goodWord ++ (vx_at0 RX3 71 "java/lang/IllegalArgumentException" ["java/lang/RuntimeException", "java/lang/Exception"]).filter goodWord ++ (vx_at0 RX3 74 "java/lang/IllegalStateException" ["java/lang/RuntimeException", "java/lang/Exception"]).filter goodWord)
def wsX3_lineOf : List Cond := .code yX3_lineOf cX3_lineOf 2 (some (.object "PalletStack$Line")) :: ([.fieldLink RX3 62 "PalletStack" "lineCount" "I", .fieldLink RX3 58 "PalletStack" "lines" "[LPalletStack$Line;", .methodLink RX3 65 yX3_isWithin, .static yX3_isWithin, .initialized RX3, .code yX3_isWithin cX3_isWithin 3 (some .boolean)] ++ wsX30)
def wsX3_nextLine : List Cond := .code yX3_nextLine cX3_nextLine 4 (some (.object "PalletStack$Line")) :: ([.fieldLink RX3 62 "PalletStack" "lineCount" "I", .fieldLink RX3 167 "PalletStack$Line" "count" "I", .fieldLink RX3 156 "PalletStack$Line" "isAside" "Z", .fieldLink RX3 163 "PalletStack$Line" "kind" "LPalletStack$Kind;", .methodLink RX3 152 yX3_lineOf, .instanceMethod yX3_lineOf, .selects RX3 yX3_lineOf yX3_lineOf, .initialized RX3, .code yX3_lineOf cX3_lineOf 2 (some (.object "PalletStack$Line")), .fieldLink RX3 58 "PalletStack" "lines" "[LPalletStack$Line;", .methodLink RX3 65 yX3_isWithin, .static yX3_isWithin, .code yX3_isWithin cX3_isWithin 3 (some .boolean), .methodLink RX3 305 yX1_comesBefore, .instanceMethod yX1_comesBefore, .selects RX1 yX1_comesBefore yX1_comesBefore, .initialized RX1, .code yX1_comesBefore cX1_comesBefore 2 (some .boolean), .fieldLink RX1 32 "PalletStack$Kind" "needsDeck" "Z", .fieldLink RX1 25 "PalletStack$Kind" "strength" "I", .fieldLink RX1 22 "PalletStack$Kind" "weight" "I"] ++ wsX30 ++ wsX20 ++ wsX10)
def wsX3_stack_r1 : List Cond := [Cond.fieldLink RX3 62 "PalletStack" "lineCount" "I", Cond.fieldLink RX3 156 "PalletStack$Line" "isAside" "Z", Cond.fieldLink RX3 163 "PalletStack$Line" "kind" "LPalletStack$Kind;", Cond.fieldLink RX3 167 "PalletStack$Line" "count" "I", Cond.methodLink RX3 152 yX3_lineOf, Cond.instanceMethod yX3_lineOf, Cond.selects RX3 yX3_lineOf yX3_lineOf, Cond.initialized RX3, Cond.code yX3_lineOf cX3_lineOf 2 (some (.object "PalletStack$Line")), Cond.fieldLink RX3 58 "PalletStack" "lines" "[LPalletStack$Line;", Cond.methodLink RX3 65 yX3_isWithin, Cond.static yX3_isWithin, Cond.code yX3_isWithin cX3_isWithin 3 (some .boolean), Cond.methodLink RX3 159 yX3_nextLine, Cond.instanceMethod yX3_nextLine, Cond.selects RX3 yX3_nextLine yX3_nextLine, Cond.code yX3_nextLine cX3_nextLine 4 (some (.object "PalletStack$Line")), Cond.methodLink RX3 305 yX1_comesBefore, Cond.instanceMethod yX1_comesBefore, Cond.selects RX1 yX1_comesBefore yX1_comesBefore, Cond.initialized RX1, Cond.code yX1_comesBefore cX1_comesBefore 2 (some .boolean), Cond.fieldLink RX1 32 "PalletStack$Kind" "needsDeck" "Z", Cond.fieldLink RX1 25 "PalletStack$Kind" "strength" "I"]
def wsX3_stack_r2 : List Cond := [Cond.fieldLink RX1 22 "PalletStack$Kind" "weight" "I", Cond.methodLink RX3 145 yX3_putAtBest, Cond.instanceMethod yX3_putAtBest, Cond.selects RX3 yX3_putAtBest yX3_putAtBest, Cond.code yX3_putAtBest cX3_putAtBest 3 (some .boolean), Cond.fieldLink RX3 38 "PalletStack" "cameCount" "I", Cond.methodLink RX3 141 yX3_bestPlace, Cond.instanceMethod yX3_bestPlace, Cond.selects RX3 yX3_bestPlace yX3_bestPlace, Cond.code yX3_bestPlace cX3_bestPlace 7 (some .int), Cond.fieldLink RX3 52 "PalletStack" "trial" "LPalletStack$Item;", Cond.fieldLink RX3 131 "PalletStack$Item" "bottom" "I", Cond.fieldLink RX3 214 "PalletStack$Item" "ground" "I", Cond.methodLink RX3 291 yX3_xOf, Cond.static yX3_xOf, Cond.code yX3_xOf cX3_xOf 1 (some .int), Cond.methodLink RX3 294 yX3_yOf, Cond.static yX3_yOf, Cond.code yX3_yOf cX3_yOf 1 (some .int), Cond.methodLink RX3 297 yX3_isTurnedIn, Cond.static yX3_isTurnedIn, Cond.code yX3_isTurnedIn cX3_isTurnedIn 1 (some .boolean), Cond.methodLink RX3 280 yX3_isInField, Cond.static yX3_isInField]
def wsX3_stack_r3 : List Cond := [Cond.code yX3_isInField cX3_isInField 6 (some .boolean), Cond.fieldLink RX3 245 "PalletStack$Kind" "canTurn" "Z", Cond.fieldLink RX3 248 "PalletStack$Kind" "depth" "I", Cond.fieldLink RX3 249 "PalletStack$Kind" "width" "I", Cond.methodLink RX3 284 yX3_letDown, Cond.instanceMethod yX3_letDown, Cond.selects RX3 yX3_letDown yX3_letDown, Cond.code yX3_letDown cX3_letDown 10 none, Cond.fieldLink RX3 182 "PalletStack$Item" "x" "I", Cond.fieldLink RX3 176 "PalletStack$Item" "y" "I", Cond.fieldLink RX3 179 "PalletStack$Item" "depth" "I", Cond.fieldLink RX3 185 "PalletStack$Item" "width" "I", Cond.fieldLink RX3 254 "PalletStack$Kind" "height" "I", Cond.fieldLink RX3 134 "PalletStack$Item" "top" "I", Cond.methodLink RX3 250 yX0_shape, Cond.instanceMethod yX0_shape, Cond.selects RX0 yX0_shape yX0_shape, Cond.initialized RX0, Cond.code yX0_shape cX0_shape 3 none, Cond.fieldLink RX0 69 "PalletStack$Kind" "number" "I", Cond.fieldLink RX0 9 "PalletStack$Item" "kind" "I", Cond.fieldLink RX0 74 "PalletStack$Kind" "weight" "I", Cond.fieldLink RX0 15 "PalletStack$Item" "weight" "I", Cond.fieldLink RX0 75 "PalletStack$Kind" "strength" "I"]
def wsX3_stack_r4 : List Cond := [Cond.fieldLink RX0 18 "PalletStack$Item" "strength" "I", Cond.fieldLink RX0 21 "PalletStack$Item" "isTurned" "Z", Cond.fieldLink RX0 76 "PalletStack$Kind" "depth" "I", Cond.fieldLink RX0 77 "PalletStack$Kind" "width" "I", Cond.fieldLink RX0 25 "PalletStack$Item" "width" "I", Cond.fieldLink RX0 28 "PalletStack$Item" "depth" "I", Cond.methodLink RX3 124 yX3_topOf, Cond.instanceMethod yX3_topOf, Cond.selects RX3 yX3_topOf yX3_topOf, Cond.code yX3_topOf cX3_topOf 4 (some .int), Cond.fieldLink RX3 47 "PalletStack" "tops" "[I", Cond.methodLink RX3 288 yX3_brokenRule, Cond.instanceMethod yX3_brokenRule, Cond.selects RX3 yX3_brokenRule yX3_brokenRule, Cond.code yX3_brokenRule cX3_brokenRule 2 (some .int), Cond.fieldLink RX3 19 "PalletStack" "greatestHeight" "I", Cond.fieldLink RX3 267 "PalletStack$Kind" "needsDeck" "Z", Cond.fieldLink RX3 22 "PalletStack" "support" "I", Cond.fieldLink RX3 28 "PalletStack" "hasCornerRule" "Z", Cond.fieldLink RX3 44 "PalletStack" "weightOnPallet" "I", Cond.fieldLink RX3 107 "PalletStack$Item" "weight" "I", Cond.fieldLink RX3 25 "PalletStack" "limit" "I", Cond.methodLink RX3 188 yX0_cells, Cond.instanceMethod yX0_cells]
def wsX3_stack_r5 : List Cond := [Cond.selects RX0 yX0_cells yX0_cells, Cond.code yX0_cells cX0_cells 1 (some .int), Cond.methodLink RX3 270 yX3_hasGroundAtCorners, Cond.instanceMethod yX3_hasGroundAtCorners, Cond.selects RX3 yX3_hasGroundAtCorners yX3_hasGroundAtCorners, Cond.code yX3_hasGroundAtCorners cX3_hasGroundAtCorners 3 (some .boolean), Cond.methodLink RX3 264 yX3_isGround, Cond.instanceMethod yX3_isGround, Cond.selects RX3 yX3_isGround yX3_isGround, Cond.code yX3_isGround cX3_isGround 3 (some .boolean), Cond.methodLink RX3 274 yX3_findSupports, Cond.instanceMethod yX3_findSupports, Cond.selects RX3 yX3_findSupports yX3_findSupports, Cond.code yX3_findSupports cX3_findSupports 3 none, Cond.fieldLink RX3 211 "PalletStack$Item" "supportCount" "I", Cond.methodLink RX3 96 yX3_itemOf, Cond.instanceMethod yX3_itemOf, Cond.selects RX3 yX3_itemOf yX3_itemOf, Cond.code yX3_itemOf cX3_itemOf 3 (some (.object "PalletStack$Item")), Cond.fieldLink RX3 34 "PalletStack" "items" "[LPalletStack$Item;", Cond.fieldLink RX3 104 "PalletStack$Item" "isOnPallet" "Z", Cond.methodLink RX3 257 yX0_cellsInCommon, Cond.instanceMethod yX0_cellsInCommon, Cond.selects RX0 yX0_cellsInCommon yX0_cellsInCommon]
def wsX3_stack_r6 : List Cond := [Cond.code yX0_cellsInCommon cX0_cellsInCommon 4 (some .int), Cond.fieldLink RX0 31 "PalletStack$Item" "x" "I", Cond.methodLink RX0 78 Lib.Math.min.name, Cond.static Lib.Math.min.name, Cond.initialized "java/lang/Math", Cond.code Lib.Math.min.name Lib.Math.min.code 2 (some .int), Cond.methodLink RX0 84 Lib.Math.max.name, Cond.static Lib.Math.max.name, Cond.code Lib.Math.max.name Lib.Math.max.code 2 (some .int), Cond.fieldLink RX0 34 "PalletStack$Item" "y" "I", Cond.methodLink RX3 260 yX0_addSupport, Cond.instanceMethod yX0_addSupport, Cond.selects RX0 yX0_addSupport yX0_addSupport, Cond.code yX0_addSupport cX0_addSupport 3 none, Cond.fieldLink RX0 58 "PalletStack$Item" "supportCount" "I", Cond.fieldLink RX0 61 "PalletStack$Item" "supports" "[LPalletStack$Item;", Cond.fieldLink RX0 65 "PalletStack$Item" "supportCells" "[I", Cond.methodLink RX3 277 yX3_isTooMuchLoad, Cond.instanceMethod yX3_isTooMuchLoad, Cond.selects RX3 yX3_isTooMuchLoad yX3_isTooMuchLoad, Cond.code yX3_isTooMuchLoad cX3_isTooMuchLoad 3 (some .boolean), Cond.fieldLink RX3 233 "PalletStack$Item" "nextLoad" "I", Cond.fieldLink RX3 242 "PalletStack$Item" "strength" "I", Cond.methodLink RX3 236 yX3_forgetNextLoads]
def wsX3_stack_r7 : List Cond := [Cond.instanceMethod yX3_forgetNextLoads, Cond.selects RX3 yX3_forgetNextLoads yX3_forgetNextLoads, Cond.code yX3_forgetNextLoads cX3_forgetNextLoads 3 none, Cond.methodLink RX3 239 yX0_passLoadDown, Cond.instanceMethod yX0_passLoadDown, Cond.selects RX0 yX0_passLoadDown yX0_passLoadDown, Cond.code yX0_passLoadDown cX0_passLoadDown 3 none, Cond.fieldLink RX0 43 "PalletStack$Item" "ground" "I", Cond.fieldLink RX0 49 "PalletStack$Item" "nextLoad" "I", Cond.methodLink RX3 93 yX3_putTrial, Cond.instanceMethod yX3_putTrial, Cond.selects RX3 yX3_putTrial yX3_putTrial, Cond.code yX3_putTrial cX3_putTrial 4 none, Cond.fieldLink RX3 41 "PalletStack" "onPalletCount" "I", Cond.methodLink RX3 301 yX3_layTop, Cond.instanceMethod yX3_layTop, Cond.selects RX3 yX3_layTop yX3_layTop, Cond.code yX3_layTop cX3_layTop 4 none, Cond.methodLink RX3 120 yX3_isCell, Cond.static yX3_isCell, Cond.code yX3_isCell cX3_isCell 2 (some .boolean), Cond.methodLink RX3 113 yX3_settleLoads, Cond.instanceMethod yX3_settleLoads, Cond.selects RX3 yX3_settleLoads yX3_settleLoads]
def wsX3_stack_r8 : List Cond := [Cond.code yX3_settleLoads cX3_settleLoads 3 none, Cond.fieldLink RX3 208 "PalletStack$Item" "load" "I"]
def wsX3_stack : List Cond := .code yX3_stack cX3_stack 4 (some .int) :: ((wsX3_stack_r1 ++ (wsX3_stack_r2 ++ (wsX3_stack_r3 ++ (wsX3_stack_r4 ++ (wsX3_stack_r5 ++ (wsX3_stack_r6 ++ (wsX3_stack_r7 ++ wsX3_stack_r8))))))) ++ wsX30 ++ wsX20 ++ wsX10 ++ wsX00)
def wsX4_init : List Cond := .code yX4_init cX4_init 1 none :: ([.methodLink RX4 1 objectInit, .instanceMethod objectInit, .code objectInit ⟨#[0xb1]⟩ 1 none, .arrayClass .int, .fieldLink RX4 9 "PalletStackModel" "kindTable" "[I", .fieldLink RX4 13 "PalletStackModel" "highest" "I", .fieldLink RX4 17 "PalletStackModel" "support" "I", .fieldLink RX4 20 "PalletStackModel" "limit" "I", .fieldLink RX4 23 "PalletStackModel" "table" "[I", .fieldLink RX4 26 "PalletStackModel" "loads" "[I", .fieldLink RX4 29 "PalletStackModel" "lineKinds" "[I", .fieldLink RX4 32 "PalletStackModel" "lineCounts" "[I"] ++ wsX40)
def wsX4_isIn : List Cond := .code yX4_isIn cX4_isIn 3 (some .boolean) :: ([])
def wsX4_isKind : List Cond := .code yX4_isKind cX4_isKind 2 (some .boolean) :: ([.fieldLink RX4 38 "PalletStackModel" "kinds" "I", .methodLink RX4 41 yX4_isIn, .static yX4_isIn, .initialized RX4, .code yX4_isIn cX4_isIn 3 (some .boolean)] ++ wsX40)
def wsX4_kind : List Cond := .code yX4_kind cX4_kind 3 (some .int) :: ([.fieldLink RX4 9 "PalletStackModel" "kindTable" "[I"] ++ wsX40)
def wsX4_canTurn : List Cond := .code yX4_canTurn cX4_canTurn 1 (some .boolean) :: ([])
def wsX4_needsDeck : List Cond := .code yX4_needsDeck cX4_needsDeck 1 (some .boolean) :: ([])
def wsX4_addKind : List Cond := .code yX4_addKind cX4_addKind 8 (some .int) :: ([.fieldLink RX4 35 "PalletStackModel" "thrown" "I", .fieldLink RX4 38 "PalletStackModel" "kinds" "I", .arrayClass .int, .fieldLink RX4 9 "PalletStackModel" "kindTable" "[I", .methodLink RX4 49 arraycopyName, .native arraycopyName, .static arraycopyName, .initialized "java/lang/System", .methodLink RX4 41 yX4_isIn, .static yX4_isIn, .initialized RX4, .code yX4_isIn cX4_isIn 3 (some .boolean), .methodLink RX4 45 yX4_fail, .instanceMethod yX4_fail, .selects RX4 yX4_fail yX4_fail, .code yX4_fail cX4_fail 2 (some .int)] ++ wsX40)
def wsX4_setRules : List Cond := .code yX4_setRules cX4_setRules 6 (some .int) :: ([.fieldLink RX4 35 "PalletStackModel" "thrown" "I", .fieldLink RX4 13 "PalletStackModel" "highest" "I", .fieldLink RX4 17 "PalletStackModel" "support" "I", .fieldLink RX4 20 "PalletStackModel" "limit" "I", .fieldLink RX4 55 "PalletStackModel" "areCorners" "Z", .methodLink RX4 41 yX4_isIn, .static yX4_isIn, .initialized RX4, .code yX4_isIn cX4_isIn 3 (some .boolean), .methodLink RX4 45 yX4_fail, .instanceMethod yX4_fail, .selects RX4 yX4_fail yX4_fail, .code yX4_fail cX4_fail 2 (some .int)] ++ wsX40)
def wsX4_get : List Cond := .code yX4_get cX4_get 3 (some .int) :: ([.fieldLink RX4 23 "PalletStackModel" "table" "[I"] ++ wsX40)
def wsX4_topOf : List Cond := .code yX4_topOf cX4_topOf 2 (some .int) :: ([.methodLink RX4 76 yX4_get, .instanceMethod yX4_get, .selects RX4 yX4_get yX4_get, .initialized RX4, .code yX4_get cX4_get 3 (some .int), .fieldLink RX4 23 "PalletStackModel" "table" "[I", .methodLink RX4 80 yX4_kind, .instanceMethod yX4_kind, .selects RX4 yX4_kind yX4_kind, .code yX4_kind cX4_kind 3 (some .int), .fieldLink RX4 9 "PalletStackModel" "kindTable" "[I"] ++ wsX40)
def wsX4_lay_r1 : List Cond := [Cond.arrayClass .int, Cond.fieldLink RX4 23 "PalletStackModel" "table" "[I", Cond.methodLink RX4 49 arraycopyName, Cond.native arraycopyName, Cond.static arraycopyName, Cond.initialized "java/lang/System", Cond.fieldLink RX4 59 "PalletStackModel" "came" "I", Cond.methodLink RX4 94 Lib.Math.max.name, Cond.static Lib.Math.max.name, Cond.initialized "java/lang/Math", Cond.code Lib.Math.max.name Lib.Math.max.code 2 (some .int), Cond.methodLink RX4 62 yX4_isHere, Cond.instanceMethod yX4_isHere, Cond.selects RX4 yX4_isHere yX4_isHere, Cond.initialized RX4, Cond.code yX4_isHere cX4_isHere 2 (some .boolean), Cond.methodLink RX4 104 yX4_common, Cond.instanceMethod yX4_common, Cond.selects RX4 yX4_common yX4_common, Cond.code yX4_common cX4_common 3 (some .int), Cond.methodLink RX4 76 yX4_get, Cond.instanceMethod yX4_get, Cond.selects RX4 yX4_get yX4_get, Cond.code yX4_get cX4_get 3 (some .int)]
def wsX4_lay_r2 : List Cond := [Cond.methodLink RX4 83 yX4_wide, Cond.instanceMethod yX4_wide, Cond.selects RX4 yX4_wide yX4_wide, Cond.code yX4_wide cX4_wide 2 (some .int), Cond.methodLink RX4 80 yX4_kind, Cond.instanceMethod yX4_kind, Cond.selects RX4 yX4_kind yX4_kind, Cond.code yX4_kind cX4_kind 3 (some .int), Cond.fieldLink RX4 9 "PalletStackModel" "kindTable" "[I", Cond.methodLink RX4 97 yX4_overlap, Cond.static yX4_overlap, Cond.code yX4_overlap cX4_overlap 4 (some .int), Cond.methodLink RX4 89 Lib.Math.min.name, Cond.static Lib.Math.min.name, Cond.code Lib.Math.min.name Lib.Math.min.code 2 (some .int), Cond.methodLink RX4 86 yX4_deep, Cond.instanceMethod yX4_deep, Cond.selects RX4 yX4_deep yX4_deep, Cond.code yX4_deep cX4_deep 2 (some .int), Cond.methodLink RX4 101 yX4_topOf, Cond.instanceMethod yX4_topOf, Cond.selects RX4 yX4_topOf yX4_topOf, Cond.code yX4_topOf cX4_topOf 2 (some .int)]
def wsX4_lay : List Cond := .code yX4_lay cX4_lay 9 none :: ((wsX4_lay_r1 ++ wsX4_lay_r2) ++ wsX40)
def wsX4_why_r1 : List Cond := [Cond.fieldLink RX4 13 "PalletStackModel" "highest" "I", Cond.fieldLink RX4 23 "PalletStackModel" "table" "[I", Cond.fieldLink RX4 17 "PalletStackModel" "support" "I", Cond.fieldLink RX4 55 "PalletStackModel" "areCorners" "Z", Cond.fieldLink RX4 20 "PalletStackModel" "limit" "I", Cond.fieldLink RX4 149 "PalletStackModel" "tried" "I", Cond.methodLink RX4 80 yX4_kind, Cond.instanceMethod yX4_kind, Cond.selects RX4 yX4_kind yX4_kind, Cond.initialized RX4, Cond.code yX4_kind cX4_kind 3 (some .int), Cond.fieldLink RX4 9 "PalletStackModel" "kindTable" "[I", Cond.methodLink RX4 129 yX4_canTurn, Cond.static yX4_canTurn, Cond.code yX4_canTurn cX4_canTurn 1 (some .boolean), Cond.methodLink RX4 41 yX4_isIn, Cond.static yX4_isIn, Cond.code yX4_isIn cX4_isIn 3 (some .boolean), Cond.methodLink RX4 132 yX4_lay, Cond.instanceMethod yX4_lay, Cond.selects RX4 yX4_lay yX4_lay, Cond.code yX4_lay cX4_lay 9 none, Cond.arrayClass .int, Cond.methodLink RX4 49 arraycopyName]
def wsX4_why_r2 : List Cond := [Cond.native arraycopyName, Cond.static arraycopyName, Cond.initialized "java/lang/System", Cond.fieldLink RX4 59 "PalletStackModel" "came" "I", Cond.methodLink RX4 94 Lib.Math.max.name, Cond.static Lib.Math.max.name, Cond.initialized "java/lang/Math", Cond.code Lib.Math.max.name Lib.Math.max.code 2 (some .int), Cond.methodLink RX4 62 yX4_isHere, Cond.instanceMethod yX4_isHere, Cond.selects RX4 yX4_isHere yX4_isHere, Cond.code yX4_isHere cX4_isHere 2 (some .boolean), Cond.methodLink RX4 104 yX4_common, Cond.instanceMethod yX4_common, Cond.selects RX4 yX4_common yX4_common, Cond.code yX4_common cX4_common 3 (some .int), Cond.methodLink RX4 76 yX4_get, Cond.instanceMethod yX4_get, Cond.selects RX4 yX4_get yX4_get, Cond.code yX4_get cX4_get 3 (some .int), Cond.methodLink RX4 83 yX4_wide, Cond.instanceMethod yX4_wide, Cond.selects RX4 yX4_wide yX4_wide, Cond.code yX4_wide cX4_wide 2 (some .int)]
def wsX4_why_r3 : List Cond := [Cond.methodLink RX4 97 yX4_overlap, Cond.static yX4_overlap, Cond.code yX4_overlap cX4_overlap 4 (some .int), Cond.methodLink RX4 89 Lib.Math.min.name, Cond.static Lib.Math.min.name, Cond.code Lib.Math.min.name Lib.Math.min.code 2 (some .int), Cond.methodLink RX4 86 yX4_deep, Cond.instanceMethod yX4_deep, Cond.selects RX4 yX4_deep yX4_deep, Cond.code yX4_deep cX4_deep 2 (some .int), Cond.methodLink RX4 101 yX4_topOf, Cond.instanceMethod yX4_topOf, Cond.selects RX4 yX4_topOf yX4_topOf, Cond.code yX4_topOf cX4_topOf 2 (some .int), Cond.methodLink RX4 136 yX4_needsDeck, Cond.static yX4_needsDeck, Cond.code yX4_needsDeck cX4_needsDeck 1 (some .boolean), Cond.methodLink RX4 123 yX4_ground, Cond.instanceMethod yX4_ground, Cond.selects RX4 yX4_ground yX4_ground, Cond.code yX4_ground cX4_ground 4 (some .int), Cond.methodLink RX4 107 yX4_cells, Cond.instanceMethod yX4_cells, Cond.selects RX4 yX4_cells yX4_cells]
def wsX4_why_r4 : List Cond := [Cond.code yX4_cells cX4_cells 2 (some .int), Cond.methodLink RX4 110 yX4_standsOn, Cond.instanceMethod yX4_standsOn, Cond.selects RX4 yX4_standsOn yX4_standsOn, Cond.code yX4_standsOn cX4_standsOn 3 (some .boolean), Cond.methodLink RX4 139 yX4_hasCorners, Cond.instanceMethod yX4_hasCorners, Cond.selects RX4 yX4_hasCorners yX4_hasCorners, Cond.code yX4_hasCorners cX4_hasCorners 6 (some .boolean), Cond.methodLink RX4 117 yX4_isGround, Cond.instanceMethod yX4_isGround, Cond.selects RX4 yX4_isGround yX4_isGround, Cond.code yX4_isGround cX4_isGround 6 (some .boolean), Cond.methodLink RX4 114 yX4_covers, Cond.instanceMethod yX4_covers, Cond.selects RX4 yX4_covers yX4_covers, Cond.code yX4_covers cX4_covers 4 (some .boolean), Cond.methodLink RX4 142 yX4_isTooMuch, Cond.instanceMethod yX4_isTooMuch, Cond.selects RX4 yX4_isTooMuch yX4_isTooMuch, Cond.code yX4_isTooMuch cX4_isTooMuch 3 (some .boolean), Cond.fieldLink RX4 26 "PalletStackModel" "loads" "[I", Cond.methodLink RX4 126 yX4_reckonLoads, Cond.instanceMethod yX4_reckonLoads]
def wsX4_why_r5 : List Cond := [Cond.selects RX4 yX4_reckonLoads yX4_reckonLoads, Cond.code yX4_reckonLoads cX4_reckonLoads 7 none, Cond.methodLink RX4 120 yX4_weight, Cond.instanceMethod yX4_weight, Cond.selects RX4 yX4_weight yX4_weight, Cond.code yX4_weight cX4_weight 2 (some .int), Cond.methodLink RX4 146 yX4_weights, Cond.instanceMethod yX4_weights, Cond.selects RX4 yX4_weights yX4_weights, Cond.code yX4_weights cX4_weights 3 (some .int)]
def wsX4_why : List Cond := .code yX4_why cX4_why 9 (some .int) :: ((wsX4_why_r1 ++ (wsX4_why_r2 ++ (wsX4_why_r3 ++ (wsX4_why_r4 ++ wsX4_why_r5)))) ++ wsX40)
def wsX4_bestFor_r1 : List Cond := [Cond.fieldLink RX4 149 "PalletStackModel" "tried" "I", Cond.methodLink RX4 155 yX4_why, Cond.instanceMethod yX4_why, Cond.selects RX4 yX4_why yX4_why, Cond.initialized RX4, Cond.code yX4_why cX4_why 9 (some .int), Cond.fieldLink RX4 13 "PalletStackModel" "highest" "I", Cond.fieldLink RX4 23 "PalletStackModel" "table" "[I", Cond.fieldLink RX4 17 "PalletStackModel" "support" "I", Cond.fieldLink RX4 55 "PalletStackModel" "areCorners" "Z", Cond.fieldLink RX4 20 "PalletStackModel" "limit" "I", Cond.methodLink RX4 80 yX4_kind, Cond.instanceMethod yX4_kind, Cond.selects RX4 yX4_kind yX4_kind, Cond.code yX4_kind cX4_kind 3 (some .int), Cond.fieldLink RX4 9 "PalletStackModel" "kindTable" "[I", Cond.methodLink RX4 129 yX4_canTurn, Cond.static yX4_canTurn, Cond.code yX4_canTurn cX4_canTurn 1 (some .boolean), Cond.methodLink RX4 41 yX4_isIn, Cond.static yX4_isIn, Cond.code yX4_isIn cX4_isIn 3 (some .boolean), Cond.methodLink RX4 132 yX4_lay, Cond.instanceMethod yX4_lay]
def wsX4_bestFor_r2 : List Cond := [Cond.selects RX4 yX4_lay yX4_lay, Cond.code yX4_lay cX4_lay 9 none, Cond.arrayClass .int, Cond.methodLink RX4 49 arraycopyName, Cond.native arraycopyName, Cond.static arraycopyName, Cond.initialized "java/lang/System", Cond.fieldLink RX4 59 "PalletStackModel" "came" "I", Cond.methodLink RX4 94 Lib.Math.max.name, Cond.static Lib.Math.max.name, Cond.initialized "java/lang/Math", Cond.code Lib.Math.max.name Lib.Math.max.code 2 (some .int), Cond.methodLink RX4 62 yX4_isHere, Cond.instanceMethod yX4_isHere, Cond.selects RX4 yX4_isHere yX4_isHere, Cond.code yX4_isHere cX4_isHere 2 (some .boolean), Cond.methodLink RX4 104 yX4_common, Cond.instanceMethod yX4_common, Cond.selects RX4 yX4_common yX4_common, Cond.code yX4_common cX4_common 3 (some .int), Cond.methodLink RX4 76 yX4_get, Cond.instanceMethod yX4_get, Cond.selects RX4 yX4_get yX4_get, Cond.code yX4_get cX4_get 3 (some .int)]
def wsX4_bestFor_r3 : List Cond := [Cond.methodLink RX4 83 yX4_wide, Cond.instanceMethod yX4_wide, Cond.selects RX4 yX4_wide yX4_wide, Cond.code yX4_wide cX4_wide 2 (some .int), Cond.methodLink RX4 97 yX4_overlap, Cond.static yX4_overlap, Cond.code yX4_overlap cX4_overlap 4 (some .int), Cond.methodLink RX4 89 Lib.Math.min.name, Cond.static Lib.Math.min.name, Cond.code Lib.Math.min.name Lib.Math.min.code 2 (some .int), Cond.methodLink RX4 86 yX4_deep, Cond.instanceMethod yX4_deep, Cond.selects RX4 yX4_deep yX4_deep, Cond.code yX4_deep cX4_deep 2 (some .int), Cond.methodLink RX4 101 yX4_topOf, Cond.instanceMethod yX4_topOf, Cond.selects RX4 yX4_topOf yX4_topOf, Cond.code yX4_topOf cX4_topOf 2 (some .int), Cond.methodLink RX4 136 yX4_needsDeck, Cond.static yX4_needsDeck, Cond.code yX4_needsDeck cX4_needsDeck 1 (some .boolean), Cond.methodLink RX4 123 yX4_ground, Cond.instanceMethod yX4_ground, Cond.selects RX4 yX4_ground yX4_ground]
def wsX4_bestFor_r4 : List Cond := [Cond.code yX4_ground cX4_ground 4 (some .int), Cond.methodLink RX4 107 yX4_cells, Cond.instanceMethod yX4_cells, Cond.selects RX4 yX4_cells yX4_cells, Cond.code yX4_cells cX4_cells 2 (some .int), Cond.methodLink RX4 110 yX4_standsOn, Cond.instanceMethod yX4_standsOn, Cond.selects RX4 yX4_standsOn yX4_standsOn, Cond.code yX4_standsOn cX4_standsOn 3 (some .boolean), Cond.methodLink RX4 139 yX4_hasCorners, Cond.instanceMethod yX4_hasCorners, Cond.selects RX4 yX4_hasCorners yX4_hasCorners, Cond.code yX4_hasCorners cX4_hasCorners 6 (some .boolean), Cond.methodLink RX4 117 yX4_isGround, Cond.instanceMethod yX4_isGround, Cond.selects RX4 yX4_isGround yX4_isGround, Cond.code yX4_isGround cX4_isGround 6 (some .boolean), Cond.methodLink RX4 114 yX4_covers, Cond.instanceMethod yX4_covers, Cond.selects RX4 yX4_covers yX4_covers, Cond.code yX4_covers cX4_covers 4 (some .boolean), Cond.methodLink RX4 142 yX4_isTooMuch, Cond.instanceMethod yX4_isTooMuch, Cond.selects RX4 yX4_isTooMuch yX4_isTooMuch]
def wsX4_bestFor_r5 : List Cond := [Cond.code yX4_isTooMuch cX4_isTooMuch 3 (some .boolean), Cond.fieldLink RX4 26 "PalletStackModel" "loads" "[I", Cond.methodLink RX4 126 yX4_reckonLoads, Cond.instanceMethod yX4_reckonLoads, Cond.selects RX4 yX4_reckonLoads yX4_reckonLoads, Cond.code yX4_reckonLoads cX4_reckonLoads 7 none, Cond.methodLink RX4 120 yX4_weight, Cond.instanceMethod yX4_weight, Cond.selects RX4 yX4_weight yX4_weight, Cond.code yX4_weight cX4_weight 2 (some .int), Cond.methodLink RX4 146 yX4_weights, Cond.instanceMethod yX4_weights, Cond.selects RX4 yX4_weights yX4_weights, Cond.code yX4_weights cX4_weights 3 (some .int)]
def wsX4_bestFor : List Cond := .code yX4_bestFor cX4_bestFor 8 (some .int) :: ((wsX4_bestFor_r1 ++ (wsX4_bestFor_r2 ++ (wsX4_bestFor_r3 ++ (wsX4_bestFor_r4 ++ wsX4_bestFor_r5)))) ++ wsX40)
def wsX4_putBest_r1 : List Cond := [Cond.fieldLink RX4 59 "PalletStackModel" "came" "I", Cond.methodLink RX4 181 yX4_bestFor, Cond.instanceMethod yX4_bestFor, Cond.selects RX4 yX4_bestFor yX4_bestFor, Cond.initialized RX4, Cond.code yX4_bestFor cX4_bestFor 8 (some .int), Cond.fieldLink RX4 149 "PalletStackModel" "tried" "I", Cond.methodLink RX4 155 yX4_why, Cond.instanceMethod yX4_why, Cond.selects RX4 yX4_why yX4_why, Cond.code yX4_why cX4_why 9 (some .int), Cond.fieldLink RX4 13 "PalletStackModel" "highest" "I", Cond.fieldLink RX4 23 "PalletStackModel" "table" "[I", Cond.fieldLink RX4 17 "PalletStackModel" "support" "I", Cond.fieldLink RX4 55 "PalletStackModel" "areCorners" "Z", Cond.fieldLink RX4 20 "PalletStackModel" "limit" "I", Cond.methodLink RX4 80 yX4_kind, Cond.instanceMethod yX4_kind, Cond.selects RX4 yX4_kind yX4_kind, Cond.code yX4_kind cX4_kind 3 (some .int), Cond.fieldLink RX4 9 "PalletStackModel" "kindTable" "[I", Cond.methodLink RX4 129 yX4_canTurn, Cond.static yX4_canTurn, Cond.code yX4_canTurn cX4_canTurn 1 (some .boolean)]
def wsX4_putBest_r2 : List Cond := [Cond.methodLink RX4 41 yX4_isIn, Cond.static yX4_isIn, Cond.code yX4_isIn cX4_isIn 3 (some .boolean), Cond.methodLink RX4 132 yX4_lay, Cond.instanceMethod yX4_lay, Cond.selects RX4 yX4_lay yX4_lay, Cond.code yX4_lay cX4_lay 9 none, Cond.arrayClass .int, Cond.methodLink RX4 49 arraycopyName, Cond.native arraycopyName, Cond.static arraycopyName, Cond.initialized "java/lang/System", Cond.methodLink RX4 94 Lib.Math.max.name, Cond.static Lib.Math.max.name, Cond.initialized "java/lang/Math", Cond.code Lib.Math.max.name Lib.Math.max.code 2 (some .int), Cond.methodLink RX4 62 yX4_isHere, Cond.instanceMethod yX4_isHere, Cond.selects RX4 yX4_isHere yX4_isHere, Cond.code yX4_isHere cX4_isHere 2 (some .boolean), Cond.methodLink RX4 104 yX4_common, Cond.instanceMethod yX4_common, Cond.selects RX4 yX4_common yX4_common, Cond.code yX4_common cX4_common 3 (some .int)]
def wsX4_putBest_r3 : List Cond := [Cond.methodLink RX4 76 yX4_get, Cond.instanceMethod yX4_get, Cond.selects RX4 yX4_get yX4_get, Cond.code yX4_get cX4_get 3 (some .int), Cond.methodLink RX4 83 yX4_wide, Cond.instanceMethod yX4_wide, Cond.selects RX4 yX4_wide yX4_wide, Cond.code yX4_wide cX4_wide 2 (some .int), Cond.methodLink RX4 97 yX4_overlap, Cond.static yX4_overlap, Cond.code yX4_overlap cX4_overlap 4 (some .int), Cond.methodLink RX4 89 Lib.Math.min.name, Cond.static Lib.Math.min.name, Cond.code Lib.Math.min.name Lib.Math.min.code 2 (some .int), Cond.methodLink RX4 86 yX4_deep, Cond.instanceMethod yX4_deep, Cond.selects RX4 yX4_deep yX4_deep, Cond.code yX4_deep cX4_deep 2 (some .int), Cond.methodLink RX4 101 yX4_topOf, Cond.instanceMethod yX4_topOf, Cond.selects RX4 yX4_topOf yX4_topOf, Cond.code yX4_topOf cX4_topOf 2 (some .int), Cond.methodLink RX4 136 yX4_needsDeck, Cond.static yX4_needsDeck]
def wsX4_putBest_r4 : List Cond := [Cond.code yX4_needsDeck cX4_needsDeck 1 (some .boolean), Cond.methodLink RX4 123 yX4_ground, Cond.instanceMethod yX4_ground, Cond.selects RX4 yX4_ground yX4_ground, Cond.code yX4_ground cX4_ground 4 (some .int), Cond.methodLink RX4 107 yX4_cells, Cond.instanceMethod yX4_cells, Cond.selects RX4 yX4_cells yX4_cells, Cond.code yX4_cells cX4_cells 2 (some .int), Cond.methodLink RX4 110 yX4_standsOn, Cond.instanceMethod yX4_standsOn, Cond.selects RX4 yX4_standsOn yX4_standsOn, Cond.code yX4_standsOn cX4_standsOn 3 (some .boolean), Cond.methodLink RX4 139 yX4_hasCorners, Cond.instanceMethod yX4_hasCorners, Cond.selects RX4 yX4_hasCorners yX4_hasCorners, Cond.code yX4_hasCorners cX4_hasCorners 6 (some .boolean), Cond.methodLink RX4 117 yX4_isGround, Cond.instanceMethod yX4_isGround, Cond.selects RX4 yX4_isGround yX4_isGround, Cond.code yX4_isGround cX4_isGround 6 (some .boolean), Cond.methodLink RX4 114 yX4_covers, Cond.instanceMethod yX4_covers, Cond.selects RX4 yX4_covers yX4_covers]
def wsX4_putBest_r5 : List Cond := [Cond.code yX4_covers cX4_covers 4 (some .boolean), Cond.methodLink RX4 142 yX4_isTooMuch, Cond.instanceMethod yX4_isTooMuch, Cond.selects RX4 yX4_isTooMuch yX4_isTooMuch, Cond.code yX4_isTooMuch cX4_isTooMuch 3 (some .boolean), Cond.fieldLink RX4 26 "PalletStackModel" "loads" "[I", Cond.methodLink RX4 126 yX4_reckonLoads, Cond.instanceMethod yX4_reckonLoads, Cond.selects RX4 yX4_reckonLoads yX4_reckonLoads, Cond.code yX4_reckonLoads cX4_reckonLoads 7 none, Cond.methodLink RX4 120 yX4_weight, Cond.instanceMethod yX4_weight, Cond.selects RX4 yX4_weight yX4_weight, Cond.code yX4_weight cX4_weight 2 (some .int), Cond.methodLink RX4 146 yX4_weights, Cond.instanceMethod yX4_weights, Cond.selects RX4 yX4_weights yX4_weights, Cond.code yX4_weights cX4_weights 3 (some .int), Cond.methodLink RX4 159 yX4_add, Cond.instanceMethod yX4_add, Cond.selects RX4 yX4_add yX4_add, Cond.code yX4_add cX4_add 5 none]
def wsX4_putBest : List Cond := .code yX4_putBest cX4_putBest 3 (some .boolean) :: ((wsX4_putBest_r1 ++ (wsX4_putBest_r2 ++ (wsX4_putBest_r3 ++ (wsX4_putBest_r4 ++ wsX4_putBest_r5)))) ++ wsX40)
def wsX4_addLine : List Cond := .code yX4_addLine cX4_addLine 3 (some .int) :: ([.fieldLink RX4 35 "PalletStackModel" "thrown" "I", .fieldLink RX4 70 "PalletStackModel" "lines" "I", .fieldLink RX4 29 "PalletStackModel" "lineKinds" "[I", .fieldLink RX4 32 "PalletStackModel" "lineCounts" "[I", .methodLink RX4 152 yX4_isKind, .instanceMethod yX4_isKind, .selects RX4 yX4_isKind yX4_isKind, .initialized RX4, .code yX4_isKind cX4_isKind 2 (some .boolean), .fieldLink RX4 38 "PalletStackModel" "kinds" "I", .methodLink RX4 41 yX4_isIn, .static yX4_isIn, .code yX4_isIn cX4_isIn 3 (some .boolean), .methodLink RX4 45 yX4_fail, .instanceMethod yX4_fail, .selects RX4 yX4_fail yX4_fail, .code yX4_fail cX4_fail 2 (some .int)] ++ wsX40)
def wsX4_isAhead : List Cond := .code yX4_isAhead cX4_isAhead 5 (some .boolean) :: ([.fieldLink RX4 29 "PalletStackModel" "lineKinds" "[I", .methodLink RX4 80 yX4_kind, .instanceMethod yX4_kind, .selects RX4 yX4_kind yX4_kind, .initialized RX4, .code yX4_kind cX4_kind 3 (some .int), .fieldLink RX4 9 "PalletStackModel" "kindTable" "[I", .methodLink RX4 136 yX4_needsDeck, .static yX4_needsDeck, .code yX4_needsDeck cX4_needsDeck 1 (some .boolean)] ++ wsX40)
def wsX4_stack_r1 : List Cond := [Cond.fieldLink RX4 35 "PalletStackModel" "thrown" "I", Cond.arrayClass .boolean, Cond.fieldLink RX4 70 "PalletStackModel" "lines" "I", Cond.fieldLink RX4 32 "PalletStackModel" "lineCounts" "[I", Cond.fieldLink RX4 29 "PalletStackModel" "lineKinds" "[I", Cond.methodLink RX4 187 yX4_isAhead, Cond.instanceMethod yX4_isAhead, Cond.selects RX4 yX4_isAhead yX4_isAhead, Cond.initialized RX4, Cond.code yX4_isAhead cX4_isAhead 5 (some .boolean), Cond.methodLink RX4 80 yX4_kind, Cond.instanceMethod yX4_kind, Cond.selects RX4 yX4_kind yX4_kind, Cond.code yX4_kind cX4_kind 3 (some .int), Cond.fieldLink RX4 9 "PalletStackModel" "kindTable" "[I", Cond.methodLink RX4 136 yX4_needsDeck, Cond.static yX4_needsDeck, Cond.code yX4_needsDeck cX4_needsDeck 1 (some .boolean), Cond.methodLink RX4 184 yX4_putBest, Cond.instanceMethod yX4_putBest, Cond.selects RX4 yX4_putBest yX4_putBest, Cond.code yX4_putBest cX4_putBest 3 (some .boolean), Cond.fieldLink RX4 59 "PalletStackModel" "came" "I", Cond.methodLink RX4 181 yX4_bestFor]
def wsX4_stack_r2 : List Cond := [Cond.instanceMethod yX4_bestFor, Cond.selects RX4 yX4_bestFor yX4_bestFor, Cond.code yX4_bestFor cX4_bestFor 8 (some .int), Cond.fieldLink RX4 149 "PalletStackModel" "tried" "I", Cond.methodLink RX4 155 yX4_why, Cond.instanceMethod yX4_why, Cond.selects RX4 yX4_why yX4_why, Cond.code yX4_why cX4_why 9 (some .int), Cond.fieldLink RX4 13 "PalletStackModel" "highest" "I", Cond.fieldLink RX4 23 "PalletStackModel" "table" "[I", Cond.fieldLink RX4 17 "PalletStackModel" "support" "I", Cond.fieldLink RX4 55 "PalletStackModel" "areCorners" "Z", Cond.fieldLink RX4 20 "PalletStackModel" "limit" "I", Cond.methodLink RX4 129 yX4_canTurn, Cond.static yX4_canTurn, Cond.code yX4_canTurn cX4_canTurn 1 (some .boolean), Cond.methodLink RX4 41 yX4_isIn, Cond.static yX4_isIn, Cond.code yX4_isIn cX4_isIn 3 (some .boolean), Cond.methodLink RX4 132 yX4_lay, Cond.instanceMethod yX4_lay, Cond.selects RX4 yX4_lay yX4_lay, Cond.code yX4_lay cX4_lay 9 none, Cond.arrayClass .int]
def wsX4_stack_r3 : List Cond := [Cond.methodLink RX4 49 arraycopyName, Cond.native arraycopyName, Cond.static arraycopyName, Cond.initialized "java/lang/System", Cond.methodLink RX4 94 Lib.Math.max.name, Cond.static Lib.Math.max.name, Cond.initialized "java/lang/Math", Cond.code Lib.Math.max.name Lib.Math.max.code 2 (some .int), Cond.methodLink RX4 62 yX4_isHere, Cond.instanceMethod yX4_isHere, Cond.selects RX4 yX4_isHere yX4_isHere, Cond.code yX4_isHere cX4_isHere 2 (some .boolean), Cond.methodLink RX4 104 yX4_common, Cond.instanceMethod yX4_common, Cond.selects RX4 yX4_common yX4_common, Cond.code yX4_common cX4_common 3 (some .int), Cond.methodLink RX4 76 yX4_get, Cond.instanceMethod yX4_get, Cond.selects RX4 yX4_get yX4_get, Cond.code yX4_get cX4_get 3 (some .int), Cond.methodLink RX4 83 yX4_wide, Cond.instanceMethod yX4_wide, Cond.selects RX4 yX4_wide yX4_wide, Cond.code yX4_wide cX4_wide 2 (some .int)]
def wsX4_stack_r4 : List Cond := [Cond.methodLink RX4 97 yX4_overlap, Cond.static yX4_overlap, Cond.code yX4_overlap cX4_overlap 4 (some .int), Cond.methodLink RX4 89 Lib.Math.min.name, Cond.static Lib.Math.min.name, Cond.code Lib.Math.min.name Lib.Math.min.code 2 (some .int), Cond.methodLink RX4 86 yX4_deep, Cond.instanceMethod yX4_deep, Cond.selects RX4 yX4_deep yX4_deep, Cond.code yX4_deep cX4_deep 2 (some .int), Cond.methodLink RX4 101 yX4_topOf, Cond.instanceMethod yX4_topOf, Cond.selects RX4 yX4_topOf yX4_topOf, Cond.code yX4_topOf cX4_topOf 2 (some .int), Cond.methodLink RX4 123 yX4_ground, Cond.instanceMethod yX4_ground, Cond.selects RX4 yX4_ground yX4_ground, Cond.code yX4_ground cX4_ground 4 (some .int), Cond.methodLink RX4 107 yX4_cells, Cond.instanceMethod yX4_cells, Cond.selects RX4 yX4_cells yX4_cells, Cond.code yX4_cells cX4_cells 2 (some .int), Cond.methodLink RX4 110 yX4_standsOn, Cond.instanceMethod yX4_standsOn]
def wsX4_stack_r5 : List Cond := [Cond.selects RX4 yX4_standsOn yX4_standsOn, Cond.code yX4_standsOn cX4_standsOn 3 (some .boolean), Cond.methodLink RX4 139 yX4_hasCorners, Cond.instanceMethod yX4_hasCorners, Cond.selects RX4 yX4_hasCorners yX4_hasCorners, Cond.code yX4_hasCorners cX4_hasCorners 6 (some .boolean), Cond.methodLink RX4 117 yX4_isGround, Cond.instanceMethod yX4_isGround, Cond.selects RX4 yX4_isGround yX4_isGround, Cond.code yX4_isGround cX4_isGround 6 (some .boolean), Cond.methodLink RX4 114 yX4_covers, Cond.instanceMethod yX4_covers, Cond.selects RX4 yX4_covers yX4_covers, Cond.code yX4_covers cX4_covers 4 (some .boolean), Cond.methodLink RX4 142 yX4_isTooMuch, Cond.instanceMethod yX4_isTooMuch, Cond.selects RX4 yX4_isTooMuch yX4_isTooMuch, Cond.code yX4_isTooMuch cX4_isTooMuch 3 (some .boolean), Cond.fieldLink RX4 26 "PalletStackModel" "loads" "[I", Cond.methodLink RX4 126 yX4_reckonLoads, Cond.instanceMethod yX4_reckonLoads, Cond.selects RX4 yX4_reckonLoads yX4_reckonLoads, Cond.code yX4_reckonLoads cX4_reckonLoads 7 none, Cond.methodLink RX4 120 yX4_weight]
def wsX4_stack_r6 : List Cond := [Cond.instanceMethod yX4_weight, Cond.selects RX4 yX4_weight yX4_weight, Cond.code yX4_weight cX4_weight 2 (some .int), Cond.methodLink RX4 146 yX4_weights, Cond.instanceMethod yX4_weights, Cond.selects RX4 yX4_weights yX4_weights, Cond.code yX4_weights cX4_weights 3 (some .int), Cond.methodLink RX4 159 yX4_add, Cond.instanceMethod yX4_add, Cond.selects RX4 yX4_add yX4_add, Cond.code yX4_add cX4_add 5 none]
def wsX4_stack : List Cond := .code yX4_stack cX4_stack 5 (some .int) :: ((wsX4_stack_r1 ++ (wsX4_stack_r2 ++ (wsX4_stack_r3 ++ (wsX4_stack_r4 ++ (wsX4_stack_r5 ++ wsX4_stack_r6))))) ++ wsX40)
def wsJ9_max_7cf53 : List Cond := .code yJ9_max_7cf53 cJ9_max_7cf53 2 (some .int) :: ([])
def wsJ9_min_7cf53 : List Cond := .code yJ9_min_7cf53 cJ9_min_7cf53 2 (some .int) :: ([])
def wsL_addKind_r1 : List Cond := [Cond.classLink RL 13 "java/lang/IllegalArgumentException", Cond.classLink RL 15 "java/lang/IllegalStateException", Cond.methodLink RL 7 yX3_addKind, Cond.instanceMethod yX3_addKind, Cond.selects RX3 yX3_addKind yX3_addKind, Cond.initialized RX3, Cond.code yX3_addKind cX3_addKind 8 (some .int), Cond.classLink RX3 69 "java/lang/IllegalArgumentException", Cond.initialized "java/lang/IllegalArgumentException", Cond.classLink RX3 72 "java/lang/IllegalStateException", Cond.initialized "java/lang/IllegalStateException", Cond.fieldLink RX3 15 "PalletStack" "kindCount" "I", Cond.fieldLink RX3 11 "PalletStack" "kinds" "[LPalletStack$Kind;", Cond.classLink RX3 9 RX1, Cond.instantiable RX1 8, Cond.initialized RX1, Cond.methodLink RX3 65 yX3_isWithin, Cond.static yX3_isWithin, Cond.code yX3_isWithin cX3_isWithin 3 (some .boolean), Cond.methodLink RX3 75 yX1_init, Cond.instanceMethod yX1_init, Cond.code yX1_init cX1_init 8 none, Cond.methodLink RX1 1 objectInit, Cond.instanceMethod objectInit]
def wsL_addKind_r2 : List Cond := [Cond.code objectInit ⟨#[0xb1]⟩ 1 none, Cond.fieldLink RX1 7 "PalletStack$Kind" "number" "I", Cond.fieldLink RX1 13 "PalletStack$Kind" "width" "I", Cond.fieldLink RX1 16 "PalletStack$Kind" "depth" "I", Cond.fieldLink RX1 19 "PalletStack$Kind" "height" "I", Cond.fieldLink RX1 22 "PalletStack$Kind" "weight" "I", Cond.fieldLink RX1 25 "PalletStack$Kind" "strength" "I", Cond.fieldLink RX1 28 "PalletStack$Kind" "canTurn" "Z", Cond.fieldLink RX1 32 "PalletStack$Kind" "needsDeck" "Z"]
def wsL_addKind : List Cond := .codeWith yL_addKind cL_addKind 9 (some .int) [(0, 18, 21, 13), (0, 18, 25, 15)] :: ((wsL_addKind_r1 ++ wsL_addKind_r2) ++ wsX30 ++ wsX10 ++ (vx_at0 RX3 71 "java/lang/IllegalArgumentException" ["java/lang/RuntimeException", "java/lang/Exception"]).filter goodWord ++ (vx_at0 RX3 74 "java/lang/IllegalStateException" ["java/lang/RuntimeException", "java/lang/Exception"]).filter goodWord)
def wsL_setRules : List Cond := .codeWith yL_setRules cL_setRules 7 (some .int) [(0, 14, 17, 13)] :: ([.classLink RL 13 "java/lang/IllegalArgumentException", .methodLink RL 17 yX3_setRules, .instanceMethod yX3_setRules, .selects RX3 yX3_setRules yX3_setRules, .initialized RX3, .code yX3_setRules cX3_setRules 6 (some .int), .classLink RX3 69 "java/lang/IllegalArgumentException", .initialized "java/lang/IllegalArgumentException", .fieldLink RX3 19 "PalletStack" "greatestHeight" "I", .fieldLink RX3 22 "PalletStack" "support" "I", .fieldLink RX3 25 "PalletStack" "limit" "I", .fieldLink RX3 28 "PalletStack" "hasCornerRule" "Z", .methodLink RX3 65 yX3_isWithin, .static yX3_isWithin, .code yX3_isWithin cX3_isWithin 3 (some .boolean)] ++ wsX30 ++ (vx_at0 RX3 71 "java/lang/IllegalArgumentException" ["java/lang/RuntimeException", "java/lang/Exception"]).filter goodWord)
def wsL_addLine_r1 : List Cond := [Cond.classLink RL 25 "java/lang/IndexOutOfBoundsException", Cond.classLink RL 13 "java/lang/IllegalArgumentException", Cond.classLink RL 15 "java/lang/IllegalStateException", Cond.methodLink RL 57 yX3_addLine, Cond.instanceMethod yX3_addLine, Cond.selects RX3 yX3_addLine yX3_addLine, Cond.initialized RX3, Cond.code yX3_addLine cX3_addLine 5 (some .int), Cond.classLink RX3 78 "java/lang/IndexOutOfBoundsException", Cond.initialized "java/lang/IndexOutOfBoundsException", Cond.classLink RX3 69 "java/lang/IllegalArgumentException", Cond.initialized "java/lang/IllegalArgumentException", Cond.classLink RX3 72 "java/lang/IllegalStateException", Cond.initialized "java/lang/IllegalStateException", Cond.fieldLink RX3 62 "PalletStack" "lineCount" "I", Cond.fieldLink RX3 58 "PalletStack" "lines" "[LPalletStack$Line;", Cond.classLink RX3 56 RX2, Cond.instantiable RX2 3, Cond.initialized RX2, Cond.methodLink RX3 85 yX3_kindOf, Cond.instanceMethod yX3_kindOf, Cond.selects RX3 yX3_kindOf yX3_kindOf, Cond.code yX3_kindOf cX3_kindOf 2 (some (.object "PalletStack$Kind")), Cond.fieldLink RX3 15 "PalletStack" "kindCount" "I"]
def wsL_addLine_r2 : List Cond := [Cond.fieldLink RX3 11 "PalletStack" "kinds" "[LPalletStack$Kind;", Cond.methodLink RX3 65 yX3_isWithin, Cond.static yX3_isWithin, Cond.code yX3_isWithin cX3_isWithin 3 (some .boolean), Cond.methodLink RX3 149 yX2_init, Cond.instanceMethod yX2_init, Cond.code yX2_init cX2_init 3 none, Cond.methodLink RX2 1 objectInit, Cond.instanceMethod objectInit, Cond.code objectInit ⟨#[0xb1]⟩ 1 none, Cond.fieldLink RX2 7 "PalletStack$Line" "isAside" "Z", Cond.fieldLink RX2 13 "PalletStack$Line" "kind" "LPalletStack$Kind;", Cond.fieldLink RX2 17 "PalletStack$Line" "count" "I"]
def wsL_addLine : List Cond := .codeWith yL_addLine cL_addLine 5 (some .int) [(0, 10, 13, 25), (0, 10, 17, 13), (0, 10, 21, 15)] :: ((wsL_addLine_r1 ++ wsL_addLine_r2) ++ wsX30 ++ wsX20 ++ (vx_at0 RX3 80 "java/lang/IndexOutOfBoundsException" ["java/lang/RuntimeException", "java/lang/Exception"]).filter goodWord ++ (vx_at0 RX3 71 "java/lang/IllegalArgumentException" ["java/lang/RuntimeException", "java/lang/Exception"]).filter goodWord ++ (vx_at0 RX3 74 "java/lang/IllegalStateException" ["java/lang/RuntimeException", "java/lang/Exception"]).filter goodWord)
def wsL_law0_r1 : List Cond := [Cond.classLink RL 8 RX3, Cond.instantiable RX3 14, Cond.initialized RX3, Cond.classLink RL 68 RX4, Cond.instantiable RX4 14, Cond.initialized RX4, Cond.arrayClass .long, Cond.methodLink RL 67 yX3_init, Cond.instanceMethod yX3_init, Cond.code yX3_init cX3_init 2 none, Cond.methodLink RX3 3 objectInit, Cond.instanceMethod objectInit, Cond.code objectInit ⟨#[0xb1]⟩ 1 none, Cond.classLink RX3 9 RX1, Cond.fieldLink RX3 11 "PalletStack" "kinds" "[LPalletStack$Kind;", Cond.fieldLink RX3 15 "PalletStack" "kindCount" "I", Cond.fieldLink RX3 19 "PalletStack" "greatestHeight" "I", Cond.fieldLink RX3 22 "PalletStack" "support" "I", Cond.fieldLink RX3 25 "PalletStack" "limit" "I", Cond.fieldLink RX3 28 "PalletStack" "hasCornerRule" "Z", Cond.classLink RX3 32 RX0, Cond.fieldLink RX3 34 "PalletStack" "items" "[LPalletStack$Item;", Cond.fieldLink RX3 38 "PalletStack" "cameCount" "I", Cond.fieldLink RX3 41 "PalletStack" "onPalletCount" "I"]
def wsL_law0_r2 : List Cond := [Cond.fieldLink RX3 44 "PalletStack" "weightOnPallet" "I", Cond.arrayClass .int, Cond.fieldLink RX3 47 "PalletStack" "tops" "[I", Cond.instantiable RX0 18, Cond.initialized RX0, Cond.fieldLink RX3 52 "PalletStack" "trial" "LPalletStack$Item;", Cond.classLink RX3 56 RX2, Cond.fieldLink RX3 58 "PalletStack" "lines" "[LPalletStack$Line;", Cond.fieldLink RX3 62 "PalletStack" "lineCount" "I", Cond.instanceMethod yX0_init, Cond.code yX0_init cX0_init 1 none, Cond.methodLink RX0 3 objectInit, Cond.fieldLink RX0 9 "PalletStack$Item" "kind" "I", Cond.fieldLink RX0 15 "PalletStack$Item" "weight" "I", Cond.fieldLink RX0 18 "PalletStack$Item" "strength" "I", Cond.fieldLink RX0 21 "PalletStack$Item" "isTurned" "Z", Cond.fieldLink RX0 25 "PalletStack$Item" "width" "I", Cond.fieldLink RX0 28 "PalletStack$Item" "depth" "I", Cond.fieldLink RX0 31 "PalletStack$Item" "x" "I", Cond.fieldLink RX0 34 "PalletStack$Item" "y" "I", Cond.fieldLink RX0 37 "PalletStack$Item" "bottom" "I", Cond.fieldLink RX0 40 "PalletStack$Item" "top" "I", Cond.fieldLink RX0 43 "PalletStack$Item" "ground" "I", Cond.fieldLink RX0 46 "PalletStack$Item" "load" "I"]
def wsL_law0_r3 : List Cond := [Cond.fieldLink RX0 49 "PalletStack$Item" "nextLoad" "I", Cond.fieldLink RX0 52 "PalletStack$Item" "isOnPallet" "Z", Cond.fieldLink RX0 55 "PalletStack$Item" "isReached" "Z", Cond.fieldLink RX0 58 "PalletStack$Item" "supportCount" "I", Cond.classLink RX0 10 RX0, Cond.fieldLink RX0 61 "PalletStack$Item" "supports" "[LPalletStack$Item;", Cond.fieldLink RX0 65 "PalletStack$Item" "supportCells" "[I", Cond.methodLink RL 70 yX4_init, Cond.instanceMethod yX4_init, Cond.code yX4_init cX4_init 1 none, Cond.methodLink RX4 1 objectInit, Cond.fieldLink RX4 9 "PalletStackModel" "kindTable" "[I", Cond.fieldLink RX4 13 "PalletStackModel" "highest" "I", Cond.fieldLink RX4 17 "PalletStackModel" "support" "I", Cond.fieldLink RX4 20 "PalletStackModel" "limit" "I", Cond.fieldLink RX4 23 "PalletStackModel" "table" "[I", Cond.fieldLink RX4 26 "PalletStackModel" "loads" "[I", Cond.fieldLink RX4 29 "PalletStackModel" "lineKinds" "[I", Cond.fieldLink RX4 32 "PalletStackModel" "lineCounts" "[I", Cond.methodLink RL 71 yL_addKind, Cond.static yL_addKind, Cond.initialized RL, Cond.codeWith yL_addKind cL_addKind 9 (some .int) [(0, 18, 21, 13), (0, 18, 25, 15)], Cond.classLink RL 13 "java/lang/IllegalArgumentException"]
def wsL_law0_r4 : List Cond := [Cond.classLink RL 15 "java/lang/IllegalStateException", Cond.methodLink RL 7 yX3_addKind, Cond.instanceMethod yX3_addKind, Cond.selects RX3 yX3_addKind yX3_addKind, Cond.code yX3_addKind cX3_addKind 8 (some .int), Cond.classLink RX3 69 "java/lang/IllegalArgumentException", Cond.initialized "java/lang/IllegalArgumentException", Cond.classLink RX3 72 "java/lang/IllegalStateException", Cond.initialized "java/lang/IllegalStateException", Cond.instantiable RX1 8, Cond.initialized RX1, Cond.methodLink RX3 65 yX3_isWithin, Cond.static yX3_isWithin, Cond.code yX3_isWithin cX3_isWithin 3 (some .boolean), Cond.methodLink RX3 75 yX1_init, Cond.instanceMethod yX1_init, Cond.code yX1_init cX1_init 8 none, Cond.methodLink RX1 1 objectInit, Cond.fieldLink RX1 7 "PalletStack$Kind" "number" "I", Cond.fieldLink RX1 13 "PalletStack$Kind" "width" "I", Cond.fieldLink RX1 16 "PalletStack$Kind" "depth" "I", Cond.fieldLink RX1 19 "PalletStack$Kind" "height" "I", Cond.fieldLink RX1 22 "PalletStack$Kind" "weight" "I", Cond.fieldLink RX1 25 "PalletStack$Kind" "strength" "I"]
def wsL_law0_r5 : List Cond := [Cond.fieldLink RX1 28 "PalletStack$Kind" "canTurn" "Z", Cond.fieldLink RX1 32 "PalletStack$Kind" "needsDeck" "Z", Cond.methodLink RL 76 yX4_addKind, Cond.instanceMethod yX4_addKind, Cond.selects RX4 yX4_addKind yX4_addKind, Cond.code yX4_addKind cX4_addKind 8 (some .int), Cond.fieldLink RX4 35 "PalletStackModel" "thrown" "I", Cond.fieldLink RX4 38 "PalletStackModel" "kinds" "I", Cond.methodLink RX4 49 arraycopyName, Cond.native arraycopyName, Cond.static arraycopyName, Cond.initialized "java/lang/System", Cond.methodLink RX4 41 yX4_isIn, Cond.static yX4_isIn, Cond.code yX4_isIn cX4_isIn 3 (some .boolean), Cond.methodLink RX4 45 yX4_fail, Cond.instanceMethod yX4_fail, Cond.selects RX4 yX4_fail yX4_fail, Cond.code yX4_fail cX4_fail 2 (some .int), Cond.methodLink RL 77 yL_setRules, Cond.static yL_setRules, Cond.codeWith yL_setRules cL_setRules 7 (some .int) [(0, 14, 17, 13)], Cond.methodLink RL 17 yX3_setRules, Cond.instanceMethod yX3_setRules]
def wsL_law0_r6 : List Cond := [Cond.selects RX3 yX3_setRules yX3_setRules, Cond.code yX3_setRules cX3_setRules 6 (some .int), Cond.methodLink RL 80 yX4_setRules, Cond.instanceMethod yX4_setRules, Cond.selects RX4 yX4_setRules yX4_setRules, Cond.code yX4_setRules cX4_setRules 6 (some .int), Cond.fieldLink RX4 55 "PalletStackModel" "areCorners" "Z", Cond.methodLink RL 81 yL_count, Cond.static yL_count, Cond.codeWith yL_count cL_count 4 (some .int) [(0, 9, 12, 25)], Cond.classLink RL 25 "java/lang/IndexOutOfBoundsException", Cond.methodLink RL 21 yX3_count, Cond.instanceMethod yX3_count, Cond.selects RX3 yX3_count yX3_count, Cond.code yX3_count cX3_count 2 (some .int), Cond.classLink RX3 78 "java/lang/IndexOutOfBoundsException", Cond.initialized "java/lang/IndexOutOfBoundsException", Cond.methodLink RX3 81 yX3_countOf, Cond.instanceMethod yX3_countOf, Cond.selects RX3 yX3_countOf yX3_countOf, Cond.code yX3_countOf cX3_countOf 2 (some .int), Cond.methodLink RL 84 yX4_count, Cond.instanceMethod yX4_count, Cond.selects RX4 yX4_count yX4_count]
def wsL_law0_r7 : List Cond := [Cond.code yX4_count cX4_count 2 (some .int), Cond.methodLink RX4 73 yX4_counted, Cond.instanceMethod yX4_counted, Cond.selects RX4 yX4_counted yX4_counted, Cond.code yX4_counted cX4_counted 2 (some .int), Cond.fieldLink RX4 59 "PalletStackModel" "came" "I", Cond.fieldLink RX4 70 "PalletStackModel" "lines" "I", Cond.methodLink RX4 66 yX4_present, Cond.instanceMethod yX4_present, Cond.selects RX4 yX4_present yX4_present, Cond.code yX4_present cX4_present 3 (some .int), Cond.methodLink RX4 62 yX4_isHere, Cond.instanceMethod yX4_isHere, Cond.selects RX4 yX4_isHere yX4_isHere, Cond.code yX4_isHere cX4_isHere 2 (some .boolean), Cond.methodLink RL 85 yL_reason, Cond.static yL_reason, Cond.codeWith yL_reason cL_reason 7 (some .int) [(0, 14, 17, 25)], Cond.methodLink RL 27 yX3_reason, Cond.instanceMethod yX3_reason, Cond.selects RX3 yX3_reason yX3_reason, Cond.code yX3_reason cX3_reason 6 (some .int), Cond.methodLink RX3 85 yX3_kindOf, Cond.instanceMethod yX3_kindOf]
def wsL_law0_r8 : List Cond := [Cond.selects RX3 yX3_kindOf yX3_kindOf, Cond.code yX3_kindOf cX3_kindOf 2 (some (.object "PalletStack$Kind")), Cond.methodLink RX3 89 yX3_firstReason, Cond.instanceMethod yX3_firstReason, Cond.selects RX3 yX3_firstReason yX3_firstReason, Cond.code yX3_firstReason cX3_firstReason 5 (some .int), Cond.methodLink RX3 280 yX3_isInField, Cond.static yX3_isInField, Cond.code yX3_isInField cX3_isInField 6 (some .boolean), Cond.fieldLink RX3 245 "PalletStack$Kind" "canTurn" "Z", Cond.fieldLink RX3 248 "PalletStack$Kind" "depth" "I", Cond.fieldLink RX3 249 "PalletStack$Kind" "width" "I", Cond.methodLink RX3 284 yX3_letDown, Cond.instanceMethod yX3_letDown, Cond.selects RX3 yX3_letDown yX3_letDown, Cond.code yX3_letDown cX3_letDown 10 none, Cond.fieldLink RX3 182 "PalletStack$Item" "x" "I", Cond.fieldLink RX3 176 "PalletStack$Item" "y" "I", Cond.fieldLink RX3 179 "PalletStack$Item" "depth" "I", Cond.fieldLink RX3 185 "PalletStack$Item" "width" "I", Cond.fieldLink RX3 131 "PalletStack$Item" "bottom" "I", Cond.fieldLink RX3 254 "PalletStack$Kind" "height" "I", Cond.fieldLink RX3 134 "PalletStack$Item" "top" "I", Cond.fieldLink RX3 214 "PalletStack$Item" "ground" "I"]
def wsL_law0_r9 : List Cond := [Cond.methodLink RX3 250 yX0_shape, Cond.instanceMethod yX0_shape, Cond.selects RX0 yX0_shape yX0_shape, Cond.code yX0_shape cX0_shape 3 none, Cond.fieldLink RX0 69 "PalletStack$Kind" "number" "I", Cond.fieldLink RX0 74 "PalletStack$Kind" "weight" "I", Cond.fieldLink RX0 75 "PalletStack$Kind" "strength" "I", Cond.fieldLink RX0 76 "PalletStack$Kind" "depth" "I", Cond.fieldLink RX0 77 "PalletStack$Kind" "width" "I", Cond.methodLink RX3 124 yX3_topOf, Cond.instanceMethod yX3_topOf, Cond.selects RX3 yX3_topOf yX3_topOf, Cond.code yX3_topOf cX3_topOf 4 (some .int), Cond.methodLink RX3 288 yX3_brokenRule, Cond.instanceMethod yX3_brokenRule, Cond.selects RX3 yX3_brokenRule yX3_brokenRule, Cond.code yX3_brokenRule cX3_brokenRule 2 (some .int), Cond.fieldLink RX3 267 "PalletStack$Kind" "needsDeck" "Z", Cond.fieldLink RX3 107 "PalletStack$Item" "weight" "I", Cond.methodLink RX3 188 yX0_cells, Cond.instanceMethod yX0_cells, Cond.selects RX0 yX0_cells yX0_cells, Cond.code yX0_cells cX0_cells 1 (some .int), Cond.methodLink RX3 270 yX3_hasGroundAtCorners]
def wsL_law0_r10 : List Cond := [Cond.instanceMethod yX3_hasGroundAtCorners, Cond.selects RX3 yX3_hasGroundAtCorners yX3_hasGroundAtCorners, Cond.code yX3_hasGroundAtCorners cX3_hasGroundAtCorners 3 (some .boolean), Cond.methodLink RX3 264 yX3_isGround, Cond.instanceMethod yX3_isGround, Cond.selects RX3 yX3_isGround yX3_isGround, Cond.code yX3_isGround cX3_isGround 3 (some .boolean), Cond.methodLink RX3 274 yX3_findSupports, Cond.instanceMethod yX3_findSupports, Cond.selects RX3 yX3_findSupports yX3_findSupports, Cond.code yX3_findSupports cX3_findSupports 3 none, Cond.fieldLink RX3 211 "PalletStack$Item" "supportCount" "I", Cond.methodLink RX3 96 yX3_itemOf, Cond.instanceMethod yX3_itemOf, Cond.selects RX3 yX3_itemOf yX3_itemOf, Cond.code yX3_itemOf cX3_itemOf 3 (some (.object "PalletStack$Item")), Cond.fieldLink RX3 104 "PalletStack$Item" "isOnPallet" "Z", Cond.methodLink RX3 257 yX0_cellsInCommon, Cond.instanceMethod yX0_cellsInCommon, Cond.selects RX0 yX0_cellsInCommon yX0_cellsInCommon, Cond.code yX0_cellsInCommon cX0_cellsInCommon 4 (some .int), Cond.methodLink RX0 78 Lib.Math.min.name, Cond.static Lib.Math.min.name, Cond.initialized "java/lang/Math"]
def wsL_law0_r11 : List Cond := [Cond.code Lib.Math.min.name Lib.Math.min.code 2 (some .int), Cond.methodLink RX0 84 Lib.Math.max.name, Cond.static Lib.Math.max.name, Cond.code Lib.Math.max.name Lib.Math.max.code 2 (some .int), Cond.methodLink RX3 260 yX0_addSupport, Cond.instanceMethod yX0_addSupport, Cond.selects RX0 yX0_addSupport yX0_addSupport, Cond.code yX0_addSupport cX0_addSupport 3 none, Cond.methodLink RX3 277 yX3_isTooMuchLoad, Cond.instanceMethod yX3_isTooMuchLoad, Cond.selects RX3 yX3_isTooMuchLoad yX3_isTooMuchLoad, Cond.code yX3_isTooMuchLoad cX3_isTooMuchLoad 3 (some .boolean), Cond.fieldLink RX3 233 "PalletStack$Item" "nextLoad" "I", Cond.fieldLink RX3 242 "PalletStack$Item" "strength" "I", Cond.methodLink RX3 236 yX3_forgetNextLoads, Cond.instanceMethod yX3_forgetNextLoads, Cond.selects RX3 yX3_forgetNextLoads yX3_forgetNextLoads, Cond.code yX3_forgetNextLoads cX3_forgetNextLoads 3 none, Cond.methodLink RX3 239 yX0_passLoadDown, Cond.instanceMethod yX0_passLoadDown, Cond.selects RX0 yX0_passLoadDown yX0_passLoadDown, Cond.code yX0_passLoadDown cX0_passLoadDown 3 none, Cond.methodLink RL 87 yX4_reason, Cond.instanceMethod yX4_reason]
def wsL_law0_r12 : List Cond := [Cond.selects RX4 yX4_reason yX4_reason, Cond.code yX4_reason cX4_reason 5 (some .int), Cond.methodLink RX4 152 yX4_isKind, Cond.instanceMethod yX4_isKind, Cond.selects RX4 yX4_isKind yX4_isKind, Cond.code yX4_isKind cX4_isKind 2 (some .boolean), Cond.methodLink RX4 155 yX4_why, Cond.instanceMethod yX4_why, Cond.selects RX4 yX4_why yX4_why, Cond.code yX4_why cX4_why 9 (some .int), Cond.fieldLink RX4 149 "PalletStackModel" "tried" "I", Cond.methodLink RX4 80 yX4_kind, Cond.instanceMethod yX4_kind, Cond.selects RX4 yX4_kind yX4_kind, Cond.code yX4_kind cX4_kind 3 (some .int), Cond.methodLink RX4 129 yX4_canTurn, Cond.static yX4_canTurn, Cond.code yX4_canTurn cX4_canTurn 1 (some .boolean), Cond.methodLink RX4 132 yX4_lay, Cond.instanceMethod yX4_lay, Cond.selects RX4 yX4_lay yX4_lay, Cond.code yX4_lay cX4_lay 9 none, Cond.methodLink RX4 94 Lib.Math.max.name, Cond.methodLink RX4 104 yX4_common]
def wsL_law0_r13 : List Cond := [Cond.instanceMethod yX4_common, Cond.selects RX4 yX4_common yX4_common, Cond.code yX4_common cX4_common 3 (some .int), Cond.methodLink RX4 76 yX4_get, Cond.instanceMethod yX4_get, Cond.selects RX4 yX4_get yX4_get, Cond.code yX4_get cX4_get 3 (some .int), Cond.methodLink RX4 83 yX4_wide, Cond.instanceMethod yX4_wide, Cond.selects RX4 yX4_wide yX4_wide, Cond.code yX4_wide cX4_wide 2 (some .int), Cond.methodLink RX4 97 yX4_overlap, Cond.static yX4_overlap, Cond.code yX4_overlap cX4_overlap 4 (some .int), Cond.methodLink RX4 89 Lib.Math.min.name, Cond.methodLink RX4 86 yX4_deep, Cond.instanceMethod yX4_deep, Cond.selects RX4 yX4_deep yX4_deep, Cond.code yX4_deep cX4_deep 2 (some .int), Cond.methodLink RX4 101 yX4_topOf, Cond.instanceMethod yX4_topOf, Cond.selects RX4 yX4_topOf yX4_topOf, Cond.code yX4_topOf cX4_topOf 2 (some .int), Cond.methodLink RX4 136 yX4_needsDeck]
def wsL_law0_r14 : List Cond := [Cond.static yX4_needsDeck, Cond.code yX4_needsDeck cX4_needsDeck 1 (some .boolean), Cond.methodLink RX4 123 yX4_ground, Cond.instanceMethod yX4_ground, Cond.selects RX4 yX4_ground yX4_ground, Cond.code yX4_ground cX4_ground 4 (some .int), Cond.methodLink RX4 107 yX4_cells, Cond.instanceMethod yX4_cells, Cond.selects RX4 yX4_cells yX4_cells, Cond.code yX4_cells cX4_cells 2 (some .int), Cond.methodLink RX4 110 yX4_standsOn, Cond.instanceMethod yX4_standsOn, Cond.selects RX4 yX4_standsOn yX4_standsOn, Cond.code yX4_standsOn cX4_standsOn 3 (some .boolean), Cond.methodLink RX4 139 yX4_hasCorners, Cond.instanceMethod yX4_hasCorners, Cond.selects RX4 yX4_hasCorners yX4_hasCorners, Cond.code yX4_hasCorners cX4_hasCorners 6 (some .boolean), Cond.methodLink RX4 117 yX4_isGround, Cond.instanceMethod yX4_isGround, Cond.selects RX4 yX4_isGround yX4_isGround, Cond.code yX4_isGround cX4_isGround 6 (some .boolean), Cond.methodLink RX4 114 yX4_covers, Cond.instanceMethod yX4_covers]
def wsL_law0_r15 : List Cond := [Cond.selects RX4 yX4_covers yX4_covers, Cond.code yX4_covers cX4_covers 4 (some .boolean), Cond.methodLink RX4 142 yX4_isTooMuch, Cond.instanceMethod yX4_isTooMuch, Cond.selects RX4 yX4_isTooMuch yX4_isTooMuch, Cond.code yX4_isTooMuch cX4_isTooMuch 3 (some .boolean), Cond.methodLink RX4 126 yX4_reckonLoads, Cond.instanceMethod yX4_reckonLoads, Cond.selects RX4 yX4_reckonLoads yX4_reckonLoads, Cond.code yX4_reckonLoads cX4_reckonLoads 7 none, Cond.methodLink RX4 120 yX4_weight, Cond.instanceMethod yX4_weight, Cond.selects RX4 yX4_weight yX4_weight, Cond.code yX4_weight cX4_weight 2 (some .int), Cond.methodLink RX4 146 yX4_weights, Cond.instanceMethod yX4_weights, Cond.selects RX4 yX4_weights yX4_weights, Cond.code yX4_weights cX4_weights 3 (some .int), Cond.methodLink RL 88 yL_put, Cond.static yL_put, Cond.codeWith yL_put cL_put 7 (some .int) [(0, 14, 17, 25), (0, 14, 21, 15)], Cond.methodLink RL 30 yX3_put, Cond.instanceMethod yX3_put, Cond.selects RX3 yX3_put yX3_put]
def wsL_law0_r16 : List Cond := [Cond.code yX3_put cX3_put 6 (some .int), Cond.methodLink RX3 93 yX3_putTrial, Cond.instanceMethod yX3_putTrial, Cond.selects RX3 yX3_putTrial yX3_putTrial, Cond.code yX3_putTrial cX3_putTrial 4 none, Cond.methodLink RX3 301 yX3_layTop, Cond.instanceMethod yX3_layTop, Cond.selects RX3 yX3_layTop yX3_layTop, Cond.code yX3_layTop cX3_layTop 4 none, Cond.methodLink RX3 120 yX3_isCell, Cond.static yX3_isCell, Cond.code yX3_isCell cX3_isCell 2 (some .boolean), Cond.methodLink RX3 113 yX3_settleLoads, Cond.instanceMethod yX3_settleLoads, Cond.selects RX3 yX3_settleLoads yX3_settleLoads, Cond.code yX3_settleLoads cX3_settleLoads 3 none, Cond.fieldLink RX3 208 "PalletStack$Item" "load" "I", Cond.methodLink RL 90 yX4_put, Cond.instanceMethod yX4_put, Cond.selects RX4 yX4_put yX4_put, Cond.code yX4_put cX4_put 5 (some .int), Cond.methodLink RX4 159 yX4_add, Cond.instanceMethod yX4_add, Cond.selects RX4 yX4_add yX4_add]
def wsL_law0_r17 : List Cond := [Cond.code yX4_add cX4_add 5 none, Cond.methodLink RL 91 yL_takeOff, Cond.static yL_takeOff, Cond.codeWith yL_takeOff cL_takeOff 4 (some .int) [(0, 9, 12, 25), (0, 9, 15, 15)], Cond.methodLink RL 33 yX3_takeOff, Cond.instanceMethod yX3_takeOff, Cond.selects RX3 yX3_takeOff yX3_takeOff, Cond.code yX3_takeOff cX3_takeOff 3 (some .int), Cond.methodLink RX3 100 yX3_standingOn, Cond.instanceMethod yX3_standingOn, Cond.selects RX3 yX3_standingOn yX3_standingOn, Cond.code yX3_standingOn cX3_standingOn 5 (some .int), Cond.methodLink RX3 223 yX0_standsOn, Cond.instanceMethod yX0_standsOn, Cond.selects RX0 yX0_standsOn yX0_standsOn, Cond.code yX0_standsOn cX0_standsOn 2 (some .boolean), Cond.methodLink RX0 87 yX0_cellsInCommon, Cond.methodLink RX3 110 yX3_layAllTops, Cond.instanceMethod yX3_layAllTops, Cond.selects RX3 yX3_layAllTops yX3_layAllTops, Cond.code yX3_layAllTops cX3_layAllTops 3 none, Cond.methodLink RL 93 yX4_takeOff, Cond.instanceMethod yX4_takeOff, Cond.selects RX4 yX4_takeOff yX4_takeOff]
def wsL_law0_r18 : List Cond := [Cond.code yX4_takeOff cX4_takeOff 2 (some .int), Cond.methodLink RX4 163 yX4_isItem, Cond.instanceMethod yX4_isItem, Cond.selects RX4 yX4_isItem yX4_isItem, Cond.code yX4_isItem cX4_isItem 2 (some .boolean), Cond.methodLink RX4 166 yX4_above, Cond.instanceMethod yX4_above, Cond.selects RX4 yX4_above yX4_above, Cond.code yX4_above cX4_above 4 (some .int), Cond.methodLink RL 94 yL_item, Cond.static yL_item, Cond.codeWith yL_item cL_item 5 (some .int) [(0, 10, 13, 25)], Cond.methodLink RL 36 yX3_item, Cond.instanceMethod yX3_item, Cond.selects RX3 yX3_item yX3_item, Cond.code yX3_item cX3_item 4 (some .int), Cond.methodLink RX3 116 yX3_factOf, Cond.instanceMethod yX3_factOf, Cond.selects RX3 yX3_factOf yX3_factOf, Cond.code yX3_factOf cX3_factOf 3 (some .int), Cond.fieldLink RX3 203 "PalletStack$Item" "kind" "I", Cond.fieldLink RX3 205 "PalletStack$Item" "isTurned" "Z", Cond.methodLink RL 97 yX4_item, Cond.instanceMethod yX4_item]
def wsL_law0_r19 : List Cond := [Cond.selects RX4 yX4_item yX4_item, Cond.code yX4_item cX4_item 3 (some .int), Cond.methodLink RX4 172 yX4_itemTold, Cond.instanceMethod yX4_itemTold, Cond.selects RX4 yX4_itemTold yX4_itemTold, Cond.code yX4_itemTold cX4_itemTold 3 (some .int), Cond.methodLink RX4 169 yX4_below, Cond.instanceMethod yX4_below, Cond.selects RX4 yX4_below yX4_below, Cond.code yX4_below cX4_below 4 (some .int), Cond.methodLink RL 98 yL_top, Cond.static yL_top, Cond.codeWith yL_top cL_top 5 (some .int) [(0, 10, 13, 25)], Cond.methodLink RL 40 yX3_top, Cond.instanceMethod yX3_top, Cond.selects RX3 yX3_top yX3_top, Cond.code yX3_top cX3_top 3 (some .int), Cond.methodLink RL 100 yX4_top, Cond.instanceMethod yX4_top, Cond.selects RX4 yX4_top yX4_top, Cond.code yX4_top cX4_top 5 (some .int), Cond.methodLink RX4 175 yX4_isCell, Cond.static yX4_isCell, Cond.code yX4_isCell cX4_isCell 2 (some .boolean)]
def wsL_law0_r20 : List Cond := [Cond.methodLink RL 101 yL_at, Cond.static yL_at, Cond.codeWith yL_at cL_at 6 (some .int) [(0, 12, 15, 25)], Cond.methodLink RL 43 yX3_at, Cond.instanceMethod yX3_at, Cond.selects RX3 yX3_at yX3_at, Cond.code yX3_at cX3_at 6 (some .int), Cond.methodLink RX3 128 yX0_covers, Cond.instanceMethod yX0_covers, Cond.selects RX0 yX0_covers yX0_covers, Cond.code yX0_covers cX0_covers 3 (some .boolean), Cond.methodLink RL 104 yX4_at, Cond.instanceMethod yX4_at, Cond.selects RX4 yX4_at yX4_at, Cond.code yX4_at cX4_at 5 (some .int), Cond.methodLink RL 105 yL_restsOn, Cond.static yL_restsOn, Cond.codeWith yL_restsOn cL_restsOn 5 (some .int) [(0, 17, 20, 25)], Cond.methodLink RL 47 yX3_restsOn, Cond.instanceMethod yX3_restsOn, Cond.selects RX3 yX3_restsOn yX3_restsOn, Cond.code yX3_restsOn cX3_restsOn 5 (some .boolean), Cond.methodLink RX3 137 yX3_isCarriedBy, Cond.instanceMethod yX3_isCarriedBy]
def wsL_law0_r21 : List Cond := [Cond.selects RX3 yX3_isCarriedBy yX3_isCarriedBy, Cond.code yX3_isCarriedBy cX3_isCarriedBy 5 (some .boolean), Cond.fieldLink RX3 227 "PalletStack$Item" "isReached" "Z", Cond.methodLink RX3 230 yX0_reachSupports, Cond.instanceMethod yX0_reachSupports, Cond.selects RX0 yX0_reachSupports yX0_reachSupports, Cond.code yX0_reachSupports cX0_reachSupports 3 none, Cond.methodLink RL 107 yX4_restsOn, Cond.instanceMethod yX4_restsOn, Cond.selects RX4 yX4_restsOn yX4_restsOn, Cond.code yX4_restsOn cX4_restsOn 3 (some .boolean), Cond.methodLink RX4 178 yX4_rests, Cond.instanceMethod yX4_rests, Cond.selects RX4 yX4_rests yX4_rests, Cond.code yX4_rests cX4_rests 8 (some .boolean), Cond.arrayClass .boolean, Cond.methodLink RL 108 yL_best, Cond.static yL_best, Cond.codeWith yL_best cL_best 4 (some .int) [(0, 9, 12, 25)], Cond.methodLink RL 51 yX3_best, Cond.instanceMethod yX3_best, Cond.selects RX3 yX3_best yX3_best, Cond.code yX3_best cX3_best 3 (some .int), Cond.methodLink RX3 141 yX3_bestPlace]
def wsL_law0_r22 : List Cond := [Cond.instanceMethod yX3_bestPlace, Cond.selects RX3 yX3_bestPlace yX3_bestPlace, Cond.code yX3_bestPlace cX3_bestPlace 7 (some .int), Cond.methodLink RX3 291 yX3_xOf, Cond.static yX3_xOf, Cond.code yX3_xOf cX3_xOf 1 (some .int), Cond.methodLink RX3 294 yX3_yOf, Cond.static yX3_yOf, Cond.code yX3_yOf cX3_yOf 1 (some .int), Cond.methodLink RX3 297 yX3_isTurnedIn, Cond.static yX3_isTurnedIn, Cond.code yX3_isTurnedIn cX3_isTurnedIn 1 (some .boolean), Cond.methodLink RL 110 yX4_best, Cond.instanceMethod yX4_best, Cond.selects RX4 yX4_best yX4_best, Cond.code yX4_best cX4_best 2 (some .int), Cond.methodLink RX4 181 yX4_bestFor, Cond.instanceMethod yX4_bestFor, Cond.selects RX4 yX4_bestFor yX4_bestFor, Cond.code yX4_bestFor cX4_bestFor 8 (some .int), Cond.methodLink RL 111 yL_fill, Cond.static yL_fill, Cond.codeWith yL_fill cL_fill 5 (some .int) [(0, 10, 13, 25), (0, 10, 17, 13)], Cond.methodLink RL 54 yX3_fill]
def wsL_law0_r23 : List Cond := [Cond.instanceMethod yX3_fill, Cond.selects RX3 yX3_fill yX3_fill, Cond.code yX3_fill cX3_fill 5 (some .int), Cond.methodLink RX3 145 yX3_putAtBest, Cond.instanceMethod yX3_putAtBest, Cond.selects RX3 yX3_putAtBest yX3_putAtBest, Cond.code yX3_putAtBest cX3_putAtBest 3 (some .boolean), Cond.methodLink RL 113 yX4_fill, Cond.instanceMethod yX4_fill, Cond.selects RX4 yX4_fill yX4_fill, Cond.code yX4_fill cX4_fill 4 (some .int), Cond.methodLink RX4 184 yX4_putBest, Cond.instanceMethod yX4_putBest, Cond.selects RX4 yX4_putBest yX4_putBest, Cond.code yX4_putBest cX4_putBest 3 (some .boolean), Cond.methodLink RL 114 yL_addLine, Cond.static yL_addLine, Cond.codeWith yL_addLine cL_addLine 5 (some .int) [(0, 10, 13, 25), (0, 10, 17, 13), (0, 10, 21, 15)], Cond.methodLink RL 57 yX3_addLine, Cond.instanceMethod yX3_addLine, Cond.selects RX3 yX3_addLine yX3_addLine, Cond.code yX3_addLine cX3_addLine 5 (some .int), Cond.instantiable RX2 3, Cond.initialized RX2]
def wsL_law0_r24 : List Cond := [Cond.methodLink RX3 149 yX2_init, Cond.instanceMethod yX2_init, Cond.code yX2_init cX2_init 3 none, Cond.methodLink RX2 1 objectInit, Cond.fieldLink RX2 7 "PalletStack$Line" "isAside" "Z", Cond.fieldLink RX2 13 "PalletStack$Line" "kind" "LPalletStack$Kind;", Cond.fieldLink RX2 17 "PalletStack$Line" "count" "I", Cond.methodLink RL 116 yX4_addLine, Cond.instanceMethod yX4_addLine, Cond.selects RX4 yX4_addLine yX4_addLine, Cond.code yX4_addLine cX4_addLine 3 (some .int), Cond.methodLink RL 117 yX3_stack, Cond.instanceMethod yX3_stack, Cond.selects RX3 yX3_stack yX3_stack, Cond.code yX3_stack cX3_stack 4 (some .int), Cond.fieldLink RX3 156 "PalletStack$Line" "isAside" "Z", Cond.fieldLink RX3 163 "PalletStack$Line" "kind" "LPalletStack$Kind;", Cond.fieldLink RX3 167 "PalletStack$Line" "count" "I", Cond.methodLink RX3 152 yX3_lineOf, Cond.instanceMethod yX3_lineOf, Cond.selects RX3 yX3_lineOf yX3_lineOf, Cond.code yX3_lineOf cX3_lineOf 2 (some (.object "PalletStack$Line")), Cond.methodLink RX3 159 yX3_nextLine, Cond.instanceMethod yX3_nextLine]
def wsL_law0_r25 : List Cond := [Cond.selects RX3 yX3_nextLine yX3_nextLine, Cond.code yX3_nextLine cX3_nextLine 4 (some (.object "PalletStack$Line")), Cond.methodLink RX3 305 yX1_comesBefore, Cond.instanceMethod yX1_comesBefore, Cond.selects RX1 yX1_comesBefore yX1_comesBefore, Cond.code yX1_comesBefore cX1_comesBefore 2 (some .boolean), Cond.methodLink RL 121 yX4_stack, Cond.instanceMethod yX4_stack, Cond.selects RX4 yX4_stack yX4_stack, Cond.code yX4_stack cX4_stack 5 (some .int), Cond.methodLink RX4 187 yX4_isAhead, Cond.instanceMethod yX4_isAhead, Cond.selects RX4 yX4_isAhead yX4_isAhead, Cond.code yX4_isAhead cX4_isAhead 5 (some .boolean), Cond.methodLink RL 122 yL_line, Cond.static yL_line, Cond.codeWith yL_line cL_line 5 (some .int) [(0, 10, 13, 25)], Cond.methodLink RL 60 yX3_line, Cond.instanceMethod yX3_line, Cond.selects RX3 yX3_line yX3_line, Cond.code yX3_line cX3_line 4 (some .int), Cond.fieldLink RX3 170 "PalletStack$Kind" "number" "I", Cond.methodLink RL 125 yX4_line, Cond.instanceMethod yX4_line]
def wsL_law0_r26 : List Cond := [Cond.selects RX4 yX4_line yX4_line, Cond.code yX4_line cX4_line 3 (some .int), Cond.methodLink RL 126 yX3_clear, Cond.instanceMethod yX3_clear, Cond.selects RX3 yX3_clear yX3_clear, Cond.code yX3_clear cX3_clear 4 (some .int), Cond.methodLink RL 129 yX4_clear, Cond.instanceMethod yX4_clear, Cond.selects RX4 yX4_clear yX4_clear, Cond.code yX4_clear cX4_clear 3 (some .int), Cond.methodLink RL 130 yL_sum, Cond.static yL_sum, Cond.codeWith yL_sum cL_sum 4 (some .int) [(0, 9, 12, 25)], Cond.methodLink RL 64 yX3_sum, Cond.instanceMethod yX3_sum, Cond.selects RX3 yX3_sum yX3_sum, Cond.code yX3_sum cX3_sum 2 (some .int), Cond.methodLink RX3 173 yX3_sumOf, Cond.instanceMethod yX3_sumOf, Cond.selects RX3 yX3_sumOf yX3_sumOf, Cond.code yX3_sumOf cX3_sumOf 2 (some .int), Cond.methodLink RX3 192 yX3_greatestTop, Cond.instanceMethod yX3_greatestTop, Cond.selects RX3 yX3_greatestTop yX3_greatestTop]
def wsL_law0_r27 : List Cond := [Cond.code yX3_greatestTop cX3_greatestTop 4 (some .int), Cond.methodLink RX3 217 yX3_greatestLoad, Cond.instanceMethod yX3_greatestLoad, Cond.selects RX3 yX3_greatestLoad yX3_greatestLoad, Cond.code yX3_greatestLoad cX3_greatestLoad 4 (some .int), Cond.methodLink RX3 220 yX3_coveredDeck, Cond.instanceMethod yX3_coveredDeck, Cond.selects RX3 yX3_coveredDeck yX3_coveredDeck, Cond.code yX3_coveredDeck cX3_coveredDeck 4 (some .int), Cond.methodLink RL 132 yX4_sum, Cond.instanceMethod yX4_sum, Cond.selects RX4 yX4_sum yX4_sum, Cond.code yX4_sum cX4_sum 2 (some .int), Cond.methodLink RX4 190 yX4_sumOf, Cond.instanceMethod yX4_sumOf, Cond.selects RX4 yX4_sumOf yX4_sumOf, Cond.code yX4_sumOf cX4_sumOf 4 (some .int), Cond.methodLink RL 133 yX3_middle, Cond.instanceMethod yX3_middle, Cond.selects RX3 yX3_middle yX3_middle, Cond.code yX3_middle cX3_middle 5 (some .double), Cond.methodLink RL 137 yX4_middle, Cond.instanceMethod yX4_middle, Cond.selects RX4 yX4_middle yX4_middle]
def wsL_law0_r28 : List Cond := [Cond.code yX4_middle cX4_middle 4 (some .double), Cond.methodLink RL 138 yX3_filled, Cond.instanceMethod yX3_filled, Cond.selects RX3 yX3_filled yX3_filled, Cond.code yX3_filled cX3_filled 4 (some .double), Cond.methodLink RL 142 yX4_filled, Cond.instanceMethod yX4_filled, Cond.selects RX4 yX4_filled yX4_filled, Cond.code yX4_filled cX4_filled 3 (some .double), Cond.methodLink RL 143 yX3_digest, Cond.instanceMethod yX3_digest, Cond.selects RX3 yX3_digest yX3_digest, Cond.code yX3_digest cX3_digest 5 (some .long), Cond.constantLong RX3 195 (349), Cond.constantLong RX3 197 (31), Cond.methodLink RX3 199 yX3_withFacts, Cond.instanceMethod yX3_withFacts, Cond.selects RX3 yX3_withFacts yX3_withFacts, Cond.code yX3_withFacts cX3_withFacts 7 (some .long), Cond.methodLink RL 147 yX4_digest, Cond.instanceMethod yX4_digest, Cond.selects RX4 yX4_digest yX4_digest, Cond.code yX4_digest cX4_digest 5 (some .long), Cond.constantLong RX4 193 (349)]
def wsL_law0_r29 : List Cond := [Cond.constantLong RX4 195 (31)]
def wsL_law0 : List Cond := (wsL_law0_r1 ++ (wsL_law0_r2 ++ (wsL_law0_r3 ++ (wsL_law0_r4 ++ (wsL_law0_r5 ++ (wsL_law0_r6 ++ (wsL_law0_r7 ++ (wsL_law0_r8 ++ (wsL_law0_r9 ++ (wsL_law0_r10 ++ (wsL_law0_r11 ++ (wsL_law0_r12 ++ (wsL_law0_r13 ++ (wsL_law0_r14 ++ (wsL_law0_r15 ++ (wsL_law0_r16 ++ (wsL_law0_r17 ++ (wsL_law0_r18 ++ (wsL_law0_r19 ++ (wsL_law0_r20 ++ (wsL_law0_r21 ++ (wsL_law0_r22 ++ (wsL_law0_r23 ++ (wsL_law0_r24 ++ (wsL_law0_r25 ++ (wsL_law0_r26 ++ (wsL_law0_r27 ++ (wsL_law0_r28 ++ wsL_law0_r29)))))))))))))))))))))))))))) ++ wsX30 ++ wsX40 ++ wsX00 ++ wsX10 ++ wsX20 ++ ([] : List Cond)
def wsL_law : List Cond := wsL_law0 ++ (vx_at0 RX3 71 "java/lang/IllegalArgumentException" ["java/lang/RuntimeException", "java/lang/Exception"]).filter goodWord ++ (vx_at0 RX3 74 "java/lang/IllegalStateException" ["java/lang/RuntimeException", "java/lang/Exception"]).filter goodWord ++ (vx_at0 RX3 80 "java/lang/IndexOutOfBoundsException" ["java/lang/RuntimeException", "java/lang/Exception"]).filter goodWord
theorem wsL_law_x0 : ∀ w ∈ (vx_at0 RX3 71 "java/lang/IllegalArgumentException" ["java/lang/RuntimeException", "java/lang/Exception"]).filter goodWord, w ∈ lw_tbl := by decide +kernel
theorem wsL_law_x1 : ∀ w ∈ (vx_at0 RX3 74 "java/lang/IllegalStateException" ["java/lang/RuntimeException", "java/lang/Exception"]).filter goodWord, w ∈ lw_tbl := by decide +kernel
theorem wsL_law_x2 : ∀ w ∈ (vx_at0 RX3 80 "java/lang/IndexOutOfBoundsException" ["java/lang/RuntimeException", "java/lang/Exception"]).filter goodWord, w ∈ lw_tbl := by decide +kernel
theorem inJ9 : ∀ w ∈ wsJ90, w ∈ lw_tbl := by decide +kernel
theorem inJ10 : ∀ w ∈ wsJ100, w ∈ lw_tbl := by decide +kernel
theorem dJ9_max_7cf53_0 : decode cJ9_max_7cf53 0 = .ok (.iload_n 0, 1) := by decide +kernel
theorem dJ9_max_7cf53_1 : decode cJ9_max_7cf53 1 = .ok (.iload_n 1, 1) := by decide +kernel
theorem dJ9_max_7cf53_2 : decode cJ9_max_7cf53 2 = .ok (.if_icmp .lt 7, 3) := by decide +kernel
theorem dJ9_max_7cf53_5 : decode cJ9_max_7cf53 5 = .ok (.iload_n 0, 1) := by decide +kernel
theorem dJ9_max_7cf53_6 : decode cJ9_max_7cf53 6 = .ok (.goto 4, 3) := by decide +kernel
theorem dJ9_max_7cf53_9 : decode cJ9_max_7cf53 9 = .ok (.iload_n 1, 1) := by decide +kernel
theorem dJ9_max_7cf53_10 : decode cJ9_max_7cf53 10 = .ok (.ireturn, 1) := by decide +kernel
theorem dJ9_min_7cf53_0 : decode cJ9_min_7cf53 0 = .ok (.iload_n 0, 1) := by decide +kernel
theorem dJ9_min_7cf53_1 : decode cJ9_min_7cf53 1 = .ok (.iload_n 1, 1) := by decide +kernel
theorem dJ9_min_7cf53_2 : decode cJ9_min_7cf53 2 = .ok (.if_icmp .gt 7, 3) := by decide +kernel
theorem dJ9_min_7cf53_5 : decode cJ9_min_7cf53 5 = .ok (.iload_n 0, 1) := by decide +kernel
theorem dJ9_min_7cf53_6 : decode cJ9_min_7cf53 6 = .ok (.goto 4, 3) := by decide +kernel
theorem dJ9_min_7cf53_9 : decode cJ9_min_7cf53 9 = .ok (.iload_n 1, 1) := by decide +kernel
theorem dJ9_min_7cf53_10 : decode cJ9_min_7cf53 10 = .ok (.ireturn, 1) := by decide +kernel
abbrev vwCl : List vw_C := [(RX0, TX0, 18), (RX1, TX1, 8), (RX2, TX2, 3), (RX3, TX3, 14), (RX4, TX4, 14)]
