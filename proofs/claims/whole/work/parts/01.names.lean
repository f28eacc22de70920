/-- a private method of a class that the tables say can be made, by its rows of tables_1 -/
def lw_okq (q : MethodName × Nat) : Prop := (q.1.cls ≠ "java/lang/invoke/MethodHandle" ∧ q.1.cls ≠ "java/lang/invoke/VarHandle") ∧ Cond.instantiable q.1.cls q.2 ∈ tables_1 ∧ Cond.privateMethod q.1 ∈ tables_1 ∧ Cond.instanceMethod q.1 ∈ tables_1
theorem lw_p0 : lw_okq (⟨"BreadOvens", "keepChange", "()V"⟩, 9) := ⟨⟨by decide +kernel, by decide +kernel⟩, List.mem_of_getElem? (i := 15) (by decide +kernel), List.mem_of_getElem? (i := 297) (by decide +kernel), List.mem_of_getElem? (i := 298) (by decide +kernel)⟩
theorem lw_p1 : lw_okq (⟨"BreadOvens", "workOut", "()V"⟩, 9) := ⟨⟨by decide +kernel, by decide +kernel⟩, List.mem_of_getElem? (i := 15) (by decide +kernel), List.mem_of_getElem? (i := 315) (by decide +kernel), List.mem_of_getElem? (i := 316) (by decide +kernel)⟩
theorem lw_p2 : lw_okq (⟨"BreadOvens$Ways", "takeRoads", "(LBreadOvens$Valley;)V"⟩, 1) := ⟨⟨by decide +kernel, by decide +kernel⟩, List.mem_of_getElem? (i := 100) (by decide +kernel), List.mem_of_getElem? (i := 323) (by decide +kernel), List.mem_of_getElem? (i := 324) (by decide +kernel)⟩
theorem lw_p3 : lw_okq (⟨"BreadOvens$Ways", "shorten", "(III)V"⟩, 1) := ⟨⟨by decide +kernel, by decide +kernel⟩, List.mem_of_getElem? (i := 100) (by decide +kernel), List.mem_of_getElem? (i := 332) (by decide +kernel), List.mem_of_getElem? (i := 333) (by decide +kernel)⟩
theorem lw_p4 : lw_okq (⟨"BreadOvens$Ovens", "carriedOver", "(II)I"⟩, 4) := ⟨⟨by decide +kernel, by decide +kernel⟩, List.mem_of_getElem? (i := 110) (by decide +kernel), List.mem_of_getElem? (i := 349) (by decide +kernel), List.mem_of_getElem? (i := 350) (by decide +kernel)⟩
theorem lw_p5 : lw_okq (⟨"BreadOvens", "refusalToDraw", "(LBreadOvens$Chart;II)I"⟩, 9) := ⟨⟨by decide +kernel, by decide +kernel⟩, List.mem_of_getElem? (i := 15) (by decide +kernel), List.mem_of_getElem? (i := 430) (by decide +kernel), List.mem_of_getElem? (i := 431) (by decide +kernel)⟩
theorem lw_p6 : lw_okq (⟨"BreadOvens", "paveFrom", "(LBreadOvens$Chart;I)V"⟩, 9) := ⟨⟨by decide +kernel, by decide +kernel⟩, List.mem_of_getElem? (i := 15) (by decide +kernel), List.mem_of_getElem? (i := 438) (by decide +kernel), List.mem_of_getElem? (i := 439) (by decide +kernel)⟩
theorem lw_p7 : lw_okq (⟨"BreadOvens$Ways", "nextOf", "(LBreadOvens$Valley;II)I"⟩, 1) := ⟨⟨by decide +kernel, by decide +kernel⟩, List.mem_of_getElem? (i := 100) (by decide +kernel), List.mem_of_getElem? (i := 456) (by decide +kernel), List.mem_of_getElem? (i := 457) (by decide +kernel)⟩
theorem lw_p8 : lw_okq (⟨"BreadOvens$Ovens", "feeds", "(III)Z"⟩, 4) := ⟨⟨by decide +kernel, by decide +kernel⟩, List.mem_of_getElem? (i := 110) (by decide +kernel), List.mem_of_getElem? (i := 519) (by decide +kernel), List.mem_of_getElem? (i := 520) (by decide +kernel)⟩
theorem lw_p9 : lw_okq (⟨"BreadOvens", "surveyChoices", "()V"⟩, 9) := ⟨⟨by decide +kernel, by decide +kernel⟩, List.mem_of_getElem? (i := 15) (by decide +kernel), List.mem_of_getElem? (i := 538) (by decide +kernel), List.mem_of_getElem? (i := 539) (by decide +kernel)⟩
theorem lw_p10 : lw_okq (⟨"BreadOvens$Survey", "forget", "()V"⟩, 10) := ⟨⟨by decide +kernel, by decide +kernel⟩, List.mem_of_getElem? (i := 133) (by decide +kernel), List.mem_of_getElem? (i := 546) (by decide +kernel), List.mem_of_getElem? (i := 547) (by decide +kernel)⟩
theorem lw_p11 : lw_okq (⟨"BreadOvens$Survey", "noteCost", "(IJ)V"⟩, 10) := ⟨⟨by decide +kernel, by decide +kernel⟩, List.mem_of_getElem? (i := 133) (by decide +kernel), List.mem_of_getElem? (i := 555) (by decide +kernel), List.mem_of_getElem? (i := 556) (by decide +kernel)⟩
theorem lw_p12 : lw_okq (⟨"BreadOvens$Survey", "noteLosses", "(IJ)V"⟩, 10) := ⟨⟨by decide +kernel, by decide +kernel⟩, List.mem_of_getElem? (i := 133) (by decide +kernel), List.mem_of_getElem? (i := 559) (by decide +kernel), List.mem_of_getElem? (i := 560) (by decide +kernel)⟩
theorem lw_p13 : lw_okq (⟨"BreadOvens$Survey", "noteFar", "(II)V"⟩, 10) := ⟨⟨by decide +kernel, by decide +kernel⟩, List.mem_of_getElem? (i := 133) (by decide +kernel), List.mem_of_getElem? (i := 571) (by decide +kernel), List.mem_of_getElem? (i := 572) (by decide +kernel)⟩
theorem lw_p14 : lw_okq (⟨"BreadOvens$Builder", "withOneMore", "(I)I"⟩, 4) := ⟨⟨by decide +kernel, by decide +kernel⟩, List.mem_of_getElem? (i := 180) (by decide +kernel), List.mem_of_getElem? (i := 622) (by decide +kernel), List.mem_of_getElem? (i := 623) (by decide +kernel)⟩
theorem lw_p15 : lw_okq (⟨"BreadOvens$Builder", "startFrom", "(I)V"⟩, 4) := ⟨⟨by decide +kernel, by decide +kernel⟩, List.mem_of_getElem? (i := 180) (by decide +kernel), List.mem_of_getElem? (i := 626) (by decide +kernel), List.mem_of_getElem? (i := 627) (by decide +kernel)⟩
def lw_privs_1 : List (MethodName × Nat) := [(⟨"BreadOvens", "keepChange", "()V"⟩, 9), (⟨"BreadOvens", "workOut", "()V"⟩, 9), (⟨"BreadOvens$Ways", "takeRoads", "(LBreadOvens$Valley;)V"⟩, 1), (⟨"BreadOvens$Ways", "shorten", "(III)V"⟩, 1), (⟨"BreadOvens$Ovens", "carriedOver", "(II)I"⟩, 4), (⟨"BreadOvens", "refusalToDraw", "(LBreadOvens$Chart;II)I"⟩, 9), (⟨"BreadOvens", "paveFrom", "(LBreadOvens$Chart;I)V"⟩, 9), (⟨"BreadOvens$Ways", "nextOf", "(LBreadOvens$Valley;II)I"⟩, 1), (⟨"BreadOvens$Ovens", "feeds", "(III)Z"⟩, 4), (⟨"BreadOvens", "surveyChoices", "()V"⟩, 9), (⟨"BreadOvens$Survey", "forget", "()V"⟩, 10), (⟨"BreadOvens$Survey", "noteCost", "(IJ)V"⟩, 10), (⟨"BreadOvens$Survey", "noteLosses", "(IJ)V"⟩, 10), (⟨"BreadOvens$Survey", "noteFar", "(II)V"⟩, 10), (⟨"BreadOvens$Builder", "withOneMore", "(I)I"⟩, 4), (⟨"BreadOvens$Builder", "startFrom", "(I)V"⟩, 4)]
theorem lw_r1 : ∀ q ∈ lw_privs_1, lw_okq q := List.forall_mem_cons.mpr ⟨lw_p0, List.forall_mem_cons.mpr ⟨lw_p1, List.forall_mem_cons.mpr ⟨lw_p2, List.forall_mem_cons.mpr ⟨lw_p3, List.forall_mem_cons.mpr ⟨lw_p4, List.forall_mem_cons.mpr ⟨lw_p5, List.forall_mem_cons.mpr ⟨lw_p6, List.forall_mem_cons.mpr ⟨lw_p7, List.forall_mem_cons.mpr ⟨lw_p8, List.forall_mem_cons.mpr ⟨lw_p9, List.forall_mem_cons.mpr ⟨lw_p10, List.forall_mem_cons.mpr ⟨lw_p11, List.forall_mem_cons.mpr ⟨lw_p12, List.forall_mem_cons.mpr ⟨lw_p13, List.forall_mem_cons.mpr ⟨lw_p14, List.forall_mem_cons.mpr ⟨lw_p15, fun _ h => absurd h List.not_mem_nil⟩⟩⟩⟩⟩⟩⟩⟩⟩⟩⟩⟩⟩⟩⟩⟩
theorem lw_p16 : lw_okq (⟨"BreadOvens$Builder", "consider", "(I)V"⟩, 4) := ⟨⟨by decide +kernel, by decide +kernel⟩, List.mem_of_getElem? (i := 180) (by decide +kernel), List.mem_of_getElem? (i := 632) (by decide +kernel), List.mem_of_getElem? (i := 633) (by decide +kernel)⟩
theorem lw_p17 : lw_okq (⟨"BreadOvens$Builder", "withOneForAnother", "(I)I"⟩, 4) := ⟨⟨by decide +kernel, by decide +kernel⟩, List.mem_of_getElem? (i := 180) (by decide +kernel), List.mem_of_getElem? (i := 645) (by decide +kernel), List.mem_of_getElem? (i := 646) (by decide +kernel)⟩
theorem lw_p18 : lw_okq (⟨"BreadOvens$Purse", "addUpWorths", "()V"⟩, 6) := ⟨⟨by decide +kernel, by decide +kernel⟩, List.mem_of_getElem? (i := 200) (by decide +kernel), List.mem_of_getElem? (i := 693) (by decide +kernel), List.mem_of_getElem? (i := 694) (by decide +kernel)⟩
theorem lw_p19 : lw_okq (⟨"BreadOvens$Purse", "movePrices", "(I)I"⟩, 6) := ⟨⟨by decide +kernel, by decide +kernel⟩, List.mem_of_getElem? (i := 200) (by decide +kernel), List.mem_of_getElem? (i := 713) (by decide +kernel), List.mem_of_getElem? (i := 714) (by decide +kernel)⟩
theorem lw_p20 : lw_okq (⟨"BreadOvens$Purse", "giversOfTop", "(I)I"⟩, 6) := ⟨⟨by decide +kernel, by decide +kernel⟩, List.mem_of_getElem? (i := 200) (by decide +kernel), List.mem_of_getElem? (i := 717) (by decide +kernel), List.mem_of_getElem? (i := 718) (by decide +kernel)⟩
theorem lw_p21 : lw_okq (⟨"BreadOvensModel", "keep", "()V"⟩, 39) := ⟨⟨by decide +kernel, by decide +kernel⟩, List.mem_of_getElem? (i := 758) (by decide +kernel), List.mem_of_getElem? (i := 894) (by decide +kernel), List.mem_of_getElem? (i := 895) (by decide +kernel)⟩
theorem lw_p22 : lw_okq (⟨"BreadOvensModel", "isVillage", "(I)Z"⟩, 39) := ⟨⟨by decide +kernel, by decide +kernel⟩, List.mem_of_getElem? (i := 758) (by decide +kernel), List.mem_of_getElem? (i := 902) (by decide +kernel), List.mem_of_getElem? (i := 903) (by decide +kernel)⟩
theorem lw_p23 : lw_okq (⟨"BreadOvensModel", "isRoad", "(JJJ)Z"⟩, 39) := ⟨⟨by decide +kernel, by decide +kernel⟩, List.mem_of_getElem? (i := 758) (by decide +kernel), List.mem_of_getElem? (i := 910) (by decide +kernel), List.mem_of_getElem? (i := 911) (by decide +kernel)⟩
theorem lw_p24 : lw_okq (⟨"BreadOvensModel", "isPlace", "(I)Z"⟩, 39) := ⟨⟨by decide +kernel, by decide +kernel⟩, List.mem_of_getElem? (i := 758) (by decide +kernel), List.mem_of_getElem? (i := 924) (by decide +kernel), List.mem_of_getElem? (i := 925) (by decide +kernel)⟩
theorem lw_p25 : lw_okq (⟨"BreadOvensModel", "findWays", "()V"⟩, 39) := ⟨⟨by decide +kernel, by decide +kernel⟩, List.mem_of_getElem? (i := 758) (by decide +kernel), List.mem_of_getElem? (i := 952) (by decide +kernel), List.mem_of_getElem? (i := 953) (by decide +kernel)⟩
theorem lw_p26 : lw_okq (⟨"BreadOvensModel", "isChoice", "(I)Z"⟩, 39) := ⟨⟨by decide +kernel, by decide +kernel⟩, List.mem_of_getElem? (i := 758) (by decide +kernel), List.mem_of_getElem? (i := 964) (by decide +kernel), List.mem_of_getElem? (i := 965) (by decide +kernel)⟩
theorem lw_p27 : lw_okq (⟨"BreadOvensModel", "isAllowed", "(I)Z"⟩, 39) := ⟨⟨by decide +kernel, by decide +kernel⟩, List.mem_of_getElem? (i := 758) (by decide +kernel), List.mem_of_getElem? (i := 968) (by decide +kernel), List.mem_of_getElem? (i := 969) (by decide +kernel)⟩
theorem lw_p28 : lw_okq (⟨"BreadOvensModel", "weigh", "(I)V"⟩, 39) := ⟨⟨by decide +kernel, by decide +kernel⟩, List.mem_of_getElem? (i := 758) (by decide +kernel), List.mem_of_getElem? (i := 977) (by decide +kernel), List.mem_of_getElem? (i := 978) (by decide +kernel)⟩
theorem lw_p29 : lw_okq (⟨"BreadOvensModel", "ovenCost", "(I)I"⟩, 39) := ⟨⟨by decide +kernel, by decide +kernel⟩, List.mem_of_getElem? (i := 758) (by decide +kernel), List.mem_of_getElem? (i := 981) (by decide +kernel), List.mem_of_getElem? (i := 982) (by decide +kernel)⟩
theorem lw_p30 : lw_okq (⟨"BreadOvensModel", "servedBy", "(II)I"⟩, 39) := ⟨⟨by decide +kernel, by decide +kernel⟩, List.mem_of_getElem? (i := 758) (by decide +kernel), List.mem_of_getElem? (i := 985) (by decide +kernel), List.mem_of_getElem? (i := 986) (by decide +kernel)⟩
theorem lw_p31 : lw_okq (⟨"BreadOvensModel", "carried", "(II)I"⟩, 39) := ⟨⟨by decide +kernel, by decide +kernel⟩, List.mem_of_getElem? (i := 758) (by decide +kernel), List.mem_of_getElem? (i := 989) (by decide +kernel), List.mem_of_getElem? (i := 990) (by decide +kernel)⟩
def lw_privs_2 : List (MethodName × Nat) := [(⟨"BreadOvens$Builder", "consider", "(I)V"⟩, 4), (⟨"BreadOvens$Builder", "withOneForAnother", "(I)I"⟩, 4), (⟨"BreadOvens$Purse", "addUpWorths", "()V"⟩, 6), (⟨"BreadOvens$Purse", "movePrices", "(I)I"⟩, 6), (⟨"BreadOvens$Purse", "giversOfTop", "(I)I"⟩, 6), (⟨"BreadOvensModel", "keep", "()V"⟩, 39), (⟨"BreadOvensModel", "isVillage", "(I)Z"⟩, 39), (⟨"BreadOvensModel", "isRoad", "(JJJ)Z"⟩, 39), (⟨"BreadOvensModel", "isPlace", "(I)Z"⟩, 39), (⟨"BreadOvensModel", "findWays", "()V"⟩, 39), (⟨"BreadOvensModel", "isChoice", "(I)Z"⟩, 39), (⟨"BreadOvensModel", "isAllowed", "(I)Z"⟩, 39), (⟨"BreadOvensModel", "weigh", "(I)V"⟩, 39), (⟨"BreadOvensModel", "ovenCost", "(I)I"⟩, 39), (⟨"BreadOvensModel", "servedBy", "(II)I"⟩, 39), (⟨"BreadOvensModel", "carried", "(II)I"⟩, 39)]
theorem lw_r2 : ∀ q ∈ lw_privs_2, lw_okq q := List.forall_mem_cons.mpr ⟨lw_p16, List.forall_mem_cons.mpr ⟨lw_p17, List.forall_mem_cons.mpr ⟨lw_p18, List.forall_mem_cons.mpr ⟨lw_p19, List.forall_mem_cons.mpr ⟨lw_p20, List.forall_mem_cons.mpr ⟨lw_p21, List.forall_mem_cons.mpr ⟨lw_p22, List.forall_mem_cons.mpr ⟨lw_p23, List.forall_mem_cons.mpr ⟨lw_p24, List.forall_mem_cons.mpr ⟨lw_p25, List.forall_mem_cons.mpr ⟨lw_p26, List.forall_mem_cons.mpr ⟨lw_p27, List.forall_mem_cons.mpr ⟨lw_p28, List.forall_mem_cons.mpr ⟨lw_p29, List.forall_mem_cons.mpr ⟨lw_p30, List.forall_mem_cons.mpr ⟨lw_p31, fun _ h => absurd h List.not_mem_nil⟩⟩⟩⟩⟩⟩⟩⟩⟩⟩⟩⟩⟩⟩⟩⟩
theorem lw_p32 : lw_okq (⟨"BreadOvensModel", "find", "(II)V"⟩, 39) := ⟨⟨by decide +kernel, by decide +kernel⟩, List.mem_of_getElem? (i := 758) (by decide +kernel), List.mem_of_getElem? (i := 1006) (by decide +kernel), List.mem_of_getElem? (i := 1007) (by decide +kernel)⟩
theorem lw_p33 : lw_okq (⟨"BreadOvensModel", "findNearest", "()V"⟩, 39) := ⟨⟨by decide +kernel, by decide +kernel⟩, List.mem_of_getElem? (i := 758) (by decide +kernel), List.mem_of_getElem? (i := 1040) (by decide +kernel), List.mem_of_getElem? (i := 1041) (by decide +kernel)⟩
theorem lw_p34 : lw_okq (⟨"BreadOvensModel", "shrines", "()I"⟩, 39) := ⟨⟨by decide +kernel, by decide +kernel⟩, List.mem_of_getElem? (i := 758) (by decide +kernel), List.mem_of_getElem? (i := 1052) (by decide +kernel), List.mem_of_getElem? (i := 1053) (by decide +kernel)⟩
theorem lw_p35 : lw_okq (⟨"BreadOvensModel", "begins", "(I)V"⟩, 39) := ⟨⟨by decide +kernel, by decide +kernel⟩, List.mem_of_getElem? (i := 758) (by decide +kernel), List.mem_of_getElem? (i := 1056) (by decide +kernel), List.mem_of_getElem? (i := 1057) (by decide +kernel)⟩
theorem lw_p36 : lw_okq (⟨"BreadOvensModel", "isLess", "(I)Z"⟩, 39) := ⟨⟨by decide +kernel, by decide +kernel⟩, List.mem_of_getElem? (i := 758) (by decide +kernel), List.mem_of_getElem? (i := 1060) (by decide +kernel), List.mem_of_getElem? (i := 1061) (by decide +kernel)⟩
theorem lw_p37 : lw_okq (⟨"BreadOvensModel", "given", "(II)J"⟩, 39) := ⟨⟨by decide +kernel, by decide +kernel⟩, List.mem_of_getElem? (i := 758) (by decide +kernel), List.mem_of_getElem? (i := 1085) (by decide +kernel), List.mem_of_getElem? (i := 1086) (by decide +kernel)⟩
theorem lw_p38 : lw_okq (⟨"BreadOvensModel", "worthOf", "(I)J"⟩, 39) := ⟨⟨by decide +kernel, by decide +kernel⟩, List.mem_of_getElem? (i := 758) (by decide +kernel), List.mem_of_getElem? (i := 1093) (by decide +kernel), List.mem_of_getElem? (i := 1094) (by decide +kernel)⟩
theorem lw_p39 : lw_okq (⟨"BreadOvensModel", "boundNow", "()J"⟩, 39) := ⟨⟨by decide +kernel, by decide +kernel⟩, List.mem_of_getElem? (i := 758) (by decide +kernel), List.mem_of_getElem? (i := 1101) (by decide +kernel), List.mem_of_getElem? (i := 1102) (by decide +kernel)⟩
theorem lw_p40 : lw_okq (⟨"BreadOvensModel", "findRichest", "()V"⟩, 39) := ⟨⟨by decide +kernel, by decide +kernel⟩, List.mem_of_getElem? (i := 758) (by decide +kernel), List.mem_of_getElem? (i := 1105) (by decide +kernel), List.mem_of_getElem? (i := 1106) (by decide +kernel)⟩
def lw_privs_3 : List (MethodName × Nat) := [(⟨"BreadOvensModel", "find", "(II)V"⟩, 39), (⟨"BreadOvensModel", "findNearest", "()V"⟩, 39), (⟨"BreadOvensModel", "shrines", "()I"⟩, 39), (⟨"BreadOvensModel", "begins", "(I)V"⟩, 39), (⟨"BreadOvensModel", "isLess", "(I)Z"⟩, 39), (⟨"BreadOvensModel", "given", "(II)J"⟩, 39), (⟨"BreadOvensModel", "worthOf", "(I)J"⟩, 39), (⟨"BreadOvensModel", "boundNow", "()J"⟩, 39), (⟨"BreadOvensModel", "findRichest", "()V"⟩, 39)]
theorem lw_r3 : ∀ q ∈ lw_privs_3, lw_okq q := List.forall_mem_cons.mpr ⟨lw_p32, List.forall_mem_cons.mpr ⟨lw_p33, List.forall_mem_cons.mpr ⟨lw_p34, List.forall_mem_cons.mpr ⟨lw_p35, List.forall_mem_cons.mpr ⟨lw_p36, List.forall_mem_cons.mpr ⟨lw_p37, List.forall_mem_cons.mpr ⟨lw_p38, List.forall_mem_cons.mpr ⟨lw_p39, List.forall_mem_cons.mpr ⟨lw_p40, fun _ h => absurd h List.not_mem_nil⟩⟩⟩⟩⟩⟩⟩⟩⟩
def lw_privs : List (MethodName × Nat) := lw_privs_1 ++ (lw_privs_2 ++ (lw_privs_3))
def lw_tbl : List Cond := k2_sels lw_privs ++ tables_1
theorem lw_privs_ok : ∀ q ∈ lw_privs, lw_okq q := by
  show ∀ q ∈ lw_privs_1 ++ (lw_privs_2 ++ (lw_privs_3)), lw_okq q
  exact List.forall_mem_append.mpr ⟨lw_r1, List.forall_mem_append.mpr ⟨lw_r2, lw_r3⟩⟩
def RX0 : String := "BreadOvens$Builder"
def TX0 : u_T := fun k => match k with
  | 0 => ("BreadOvens$Builder", "ovens", "LBreadOvens$Ovens;", true)
  | 1 => ("BreadOvens$Builder", "steps", "I", false)
  | 2 => ("BreadOvens$Builder", "found", "I", false)
  | _ => ("BreadOvens$Builder", "foundMeasure", "J", false)
def tyX0 : Nat → FieldType := fun k => match k with
  | 0 => .object "BreadOvens$Ovens"
  | 1 => .int
  | 2 => .int
  | _ => .long
abbrev wsX00 : List Cond := u_ws RX0 TX0 4
theorem nmX0 : ∀ a, a < 4 → ∀ b, b < 4 → a ≠ b → (TX0 a).2.1 ≠ (TX0 b).2.1 := by decide +kernel
theorem tyX0_ok : ∀ k, k < 4 → parseFieldDescriptor (TX0 k).2.2.1 = some (tyX0 k) := by decide +kernel
abbrev cX0_init : ByteArray := prog_2_method_1_code
def yX0_init : MethodName := ⟨RX0, "<init>", "(LBreadOvens$Ovens;)V"⟩
abbrev cX0_putUp : ByteArray := prog_2_method_2_code
def yX0_putUp : MethodName := ⟨RX0, "putUp", "()I"⟩
abbrev cX0_improve : ByteArray := prog_2_method_3_code
def yX0_improve : MethodName := ⟨RX0, "improve", "(I)I"⟩
abbrev cX0_withOneMore : ByteArray := prog_2_method_4_code
def yX0_withOneMore : MethodName := ⟨RX0, "withOneMore", "(I)I"⟩
abbrev cX0_withOneForAnother : ByteArray := prog_2_method_5_code
def yX0_withOneForAnother : MethodName := ⟨RX0, "withOneForAnother", "(I)I"⟩
abbrev cX0_startFrom : ByteArray := prog_2_method_6_code
def yX0_startFrom : MethodName := ⟨RX0, "startFrom", "(I)V"⟩
abbrev cX0_consider : ByteArray := prog_2_method_7_code
def yX0_consider : MethodName := ⟨RX0, "consider", "(I)V"⟩
def RX1 : String := "BreadOvens$Chart"
def TX1 : u_T := fun k => match k with
  | 0 => ("BreadOvens$Chart", "lane", "I", false)
  | 1 => ("BreadOvens$Chart", "size", "I", false)
  | _ => ("BreadOvens$Chart", "cells", "[J", true)
def tyX1 : Nat → FieldType := fun k => match k with
  | 0 => .int
  | 1 => .int
  | _ => .array .long
abbrev wsX10 : List Cond := u_ws RX1 TX1 3
theorem nmX1 : ∀ a, a < 3 → ∀ b, b < 3 → a ≠ b → (TX1 a).2.1 ≠ (TX1 b).2.1 := by decide +kernel
theorem tyX1_ok : ∀ k, k < 3 → parseFieldDescriptor (TX1 k).2.2.1 = some (tyX1 k) := by decide +kernel
abbrev cX1_init : ByteArray := prog_3_method_1_code
def yX1_init : MethodName := ⟨RX1, "<init>", "()V"⟩
abbrev cX1_renew : ByteArray := prog_3_method_2_code
def yX1_renew : MethodName := ⟨RX1, "renew", "(II)V"⟩
abbrev cX1_write : ByteArray := prog_3_method_3_code
def yX1_write : MethodName := ⟨RX1, "write", "(IJ)V"⟩
abbrev cX1_holdsRoad : ByteArray := prog_3_method_4_code
def yX1_holdsRoad : MethodName := ⟨RX1, "holdsRoad", "(I)Z"⟩
def RX2 : String := "BreadOvens$Diary"
def TX2 : u_T := fun k => match k with
  | 0 => ("BreadOvens$Diary", "pages", "[LBreadOvens$Valley;", true)
  | 1 => ("BreadOvens$Diary", "next", "I", false)
  | _ => ("BreadOvens$Diary", "kept", "I", false)
def tyX2 : Nat → FieldType := fun k => match k with
  | 0 => .array (.object "BreadOvens$Valley")
  | 1 => .int
  | _ => .int
abbrev wsX20 : List Cond := u_ws RX2 TX2 3
theorem nmX2 : ∀ a, a < 3 → ∀ b, b < 3 → a ≠ b → (TX2 a).2.1 ≠ (TX2 b).2.1 := by decide +kernel
theorem tyX2_ok : ∀ k, k < 3 → parseFieldDescriptor (TX2 k).2.2.1 = some (tyX2 k) := by decide +kernel
abbrev cX2_init : ByteArray := prog_4_method_1_code
def yX2_init : MethodName := ⟨RX2, "<init>", "()V"⟩
abbrev cX2_open : ByteArray := prog_4_method_2_code
def yX2_open : MethodName := ⟨RX2, "open", "(LBreadOvens$Valley;)V"⟩
abbrev cX2_close : ByteArray := prog_4_method_3_code
def yX2_close : MethodName := ⟨RX2, "close", "(LBreadOvens$Valley;)Z"⟩
abbrev cX2_turnBack : ByteArray := prog_4_method_4_code
def yX2_turnBack : MethodName := ⟨RX2, "turnBack", "(LBreadOvens$Valley;)V"⟩
def RX3 : String := "BreadOvens$Ovens"
def TX3 : u_T := fun k => match k with
  | 0 => ("BreadOvens$Ovens", "valley", "LBreadOvens$Valley;", true)
  | 1 => ("BreadOvens$Ovens", "carried", "[I", true)
  | 2 => ("BreadOvens$Ovens", "shrines", "I", false)
  | _ => ("BreadOvens$Ovens", "bigs", "I", false)
def tyX3 : Nat → FieldType := fun k => match k with
  | 0 => .object "BreadOvens$Valley"
  | 1 => .array .int
  | 2 => .int
  | _ => .int
abbrev wsX30 : List Cond := u_ws RX3 TX3 4
theorem nmX3 : ∀ a, a < 4 → ∀ b, b < 4 → a ≠ b → (TX3 a).2.1 ≠ (TX3 b).2.1 := by decide +kernel
theorem tyX3_ok : ∀ k, k < 4 → parseFieldDescriptor (TX3 k).2.2.1 = some (tyX3 k) := by decide +kernel
abbrev cX3_init : ByteArray := prog_5_method_1_code
def yX3_init : MethodName := ⟨RX3, "<init>", "(LBreadOvens$Valley;)V"⟩
abbrev cX3_carry : ByteArray := prog_5_method_2_code
def yX3_carry : MethodName := ⟨RX3, "carry", "(LBreadOvens$Ways;)V"⟩
abbrev cX3_carriedOver : ByteArray := prog_5_method_3_code
def yX3_carriedOver : MethodName := ⟨RX3, "carriedOver", "(II)I"⟩
abbrev cX3_carriedTo : ByteArray := prog_5_method_4_code
def yX3_carriedTo : MethodName := ⟨RX3, "carriedTo", "(II)I"⟩
abbrev cX3_isChoice : ByteArray := prog_5_method_5_code
def yX3_isChoice : MethodName := ⟨RX3, "isChoice", "(I)Z"⟩
abbrev cX3_mayStand : ByteArray := prog_5_method_6_code
def yX3_mayStand : MethodName := ⟨RX3, "mayStand", "(I)Z"⟩
abbrev cX3_ovenFor : ByteArray := prog_5_method_7_code
def yX3_ovenFor : MethodName := ⟨RX3, "ovenFor", "(II)I"⟩
abbrev cX3_measureOf : ByteArray := prog_5_method_8_code
def yX3_measureOf : MethodName := ⟨RX3, "measureOf", "(I)J"⟩
abbrev cX3_feeds : ByteArray := prog_5_method_9_code
def yX3_feeds : MethodName := ⟨RX3, "feeds", "(III)Z"⟩
abbrev cX3_villagesOf : ByteArray := prog_5_method_10_code
def yX3_villagesOf : MethodName := ⟨RX3, "villagesOf", "(II)I"⟩
abbrev cX3_loavesOf : ByteArray := prog_5_method_11_code
def yX3_loavesOf : MethodName := ⟨RX3, "loavesOf", "(II)I"⟩
abbrev cX3_farthestOf : ByteArray := prog_5_method_12_code
def yX3_farthestOf : MethodName := ⟨RX3, "farthestOf", "(II)I"⟩
abbrev cX3_farthestOfAll : ByteArray := prog_5_method_13_code
def yX3_farthestOfAll : MethodName := ⟨RX3, "farthestOfAll", "(I)I"⟩
def RX4 : String := "BreadOvens$Purse"
def TX4 : u_T := fun k => match k with
  | 0 => ("BreadOvens$Purse", "valley", "LBreadOvens$Valley;", true)
  | 1 => ("BreadOvens$Purse", "ovens", "LBreadOvens$Ovens;", true)
  | 2 => ("BreadOvens$Purse", "prices", "[J", true)
  | 3 => ("BreadOvens$Purse", "worths", "[J", true)
  | 4 => ("BreadOvens$Purse", "topChoice", "I", false)
  | _ => ("BreadOvens$Purse", "highestBound", "J", false)
def tyX4 : Nat → FieldType := fun k => match k with
  | 0 => .object "BreadOvens$Valley"
  | 1 => .object "BreadOvens$Ovens"
  | 2 => .array .long
  | 3 => .array .long
  | 4 => .int
  | _ => .long
abbrev wsX40 : List Cond := u_ws RX4 TX4 6
theorem nmX4 : ∀ a, a < 6 → ∀ b, b < 6 → a ≠ b → (TX4 a).2.1 ≠ (TX4 b).2.1 := by decide +kernel
theorem tyX4_ok : ∀ k, k < 6 → parseFieldDescriptor (TX4 k).2.2.1 = some (tyX4 k) := by decide +kernel
abbrev cX4_init : ByteArray := prog_6_method_1_code
def yX4_init : MethodName := ⟨RX4, "<init>", "(LBreadOvens$Valley;LBreadOvens$Ovens;)V"⟩
abbrev cX4_forgetFrom : ByteArray := prog_6_method_2_code
def yX4_forgetFrom : MethodName := ⟨RX4, "forgetFrom", "(I)V"⟩
abbrev cX4_giftOf : ByteArray := prog_6_method_3_code
def yX4_giftOf : MethodName := ⟨RX4, "giftOf", "(II)J"⟩
abbrev cX4_worthOf : ByteArray := prog_6_method_4_code
def yX4_worthOf : MethodName := ⟨RX4, "worthOf", "(I)J"⟩
abbrev cX4_findTop : ByteArray := prog_6_method_5_code
def yX4_findTop : MethodName := ⟨RX4, "findTop", "()V"⟩
abbrev cX4_addUpWorths : ByteArray := prog_6_method_6_code
def yX4_addUpWorths : MethodName := ⟨RX4, "addUpWorths", "()V"⟩
abbrev cX4_boundOfTop : ByteArray := prog_6_method_7_code
def yX4_boundOfTop : MethodName := ⟨RX4, "boundOfTop", "()J"⟩
abbrev cX4_climbFromTop : ByteArray := prog_6_method_8_code
def yX4_climbFromTop : MethodName := ⟨RX4, "climbFromTop", "(II)I"⟩
abbrev cX4_movePrices : ByteArray := prog_6_method_9_code
def yX4_movePrices : MethodName := ⟨RX4, "movePrices", "(I)I"⟩
abbrev cX4_movedPrice : ByteArray := prog_6_method_10_code
def yX4_movedPrice : MethodName := ⟨RX4, "movedPrice", "(JII)J"⟩
abbrev cX4_giversOfTop : ByteArray := prog_6_method_11_code
def yX4_giversOfTop : MethodName := ⟨RX4, "giversOfTop", "(I)I"⟩
def RX5 : String := "BreadOvens$Survey"
def TX5 : u_T := fun k => match k with
  | 0 => ("BreadOvens$Survey", "leastCost", "J", false)
  | 1 => ("BreadOvens$Survey", "bestChoice", "I", false)
  | 2 => ("BreadOvens$Survey", "howMany", "I", false)
  | 3 => ("BreadOvens$Survey", "inAll", "I", false)
  | 4 => ("BreadOvens$Survey", "inSome", "I", false)
  | 5 => ("BreadOvens$Survey", "nextCost", "J", false)
  | 6 => ("BreadOvens$Survey", "nextChoice", "I", false)
  | 7 => ("BreadOvens$Survey", "leastFar", "I", false)
  | 8 => ("BreadOvens$Survey", "nearChoice", "I", false)
  | _ => ("BreadOvens$Survey", "costWithout", "[J", true)
def tyX5 : Nat → FieldType := fun k => match k with
  | 0 => .long
  | 1 => .int
  | 2 => .int
  | 3 => .int
  | 4 => .int
  | 5 => .long
  | 6 => .int
  | 7 => .int
  | 8 => .int
  | _ => .array .long
abbrev wsX50 : List Cond := u_ws RX5 TX5 10
theorem nmX5 : ∀ a, a < 10 → ∀ b, b < 10 → a ≠ b → (TX5 a).2.1 ≠ (TX5 b).2.1 := by decide +kernel
theorem tyX5_ok : ∀ k, k < 10 → parseFieldDescriptor (TX5 k).2.2.1 = some (tyX5 k) := by decide +kernel
abbrev cX5_init : ByteArray := prog_7_method_1_code
def yX5_init : MethodName := ⟨RX5, "<init>", "()V"⟩
abbrev cX5_take : ByteArray := prog_7_method_2_code
def yX5_take : MethodName := ⟨RX5, "take", "(LBreadOvens$Ovens;)V"⟩
abbrev cX5_forget : ByteArray := prog_7_method_3_code
def yX5_forget : MethodName := ⟨RX5, "forget", "()V"⟩
abbrev cX5_noteCost : ByteArray := prog_7_method_4_code
def yX5_noteCost : MethodName := ⟨RX5, "noteCost", "(IJ)V"⟩
abbrev cX5_noteLosses : ByteArray := prog_7_method_5_code
def yX5_noteLosses : MethodName := ⟨RX5, "noteLosses", "(IJ)V"⟩
abbrev cX5_noteFar : ByteArray := prog_7_method_6_code
def yX5_noteFar : MethodName := ⟨RX5, "noteFar", "(II)V"⟩
abbrev cX5_dearestLoss : ByteArray := prog_7_method_7_code
def yX5_dearestLoss : MethodName := ⟨RX5, "dearestLoss", "(LBreadOvens$Valley;)I"⟩
def RX6 : String := "BreadOvens$Valley"
def TX6 : u_T := fun k => match k with
  | 0 => ("BreadOvens$Valley", "villages", "I", false)
  | 1 => ("BreadOvens$Valley", "places", "I", false)
  | 2 => ("BreadOvens$Valley", "number", "I", false)
  | 3 => ("BreadOvens$Valley", "loaves", "[I", true)
  | 4 => ("BreadOvens$Valley", "lengths", "[I", true)
  | 5 => ("BreadOvens$Valley", "homes", "[I", true)
  | 6 => ("BreadOvens$Valley", "kinds", "[I", true)
  | 7 => ("BreadOvens$Valley", "builds", "[I", true)
  | _ => ("BreadOvens$Valley", "reaches", "[I", true)
def tyX6 : Nat → FieldType := fun k => match k with
  | 0 => .int
  | 1 => .int
  | 2 => .int
  | 3 => .array .int
  | 4 => .array .int
  | 5 => .array .int
  | 6 => .array .int
  | 7 => .array .int
  | _ => .array .int
abbrev wsX60 : List Cond := u_ws RX6 TX6 9
theorem nmX6 : ∀ a, a < 9 → ∀ b, b < 9 → a ≠ b → (TX6 a).2.1 ≠ (TX6 b).2.1 := by decide +kernel
theorem tyX6_ok : ∀ k, k < 9 → parseFieldDescriptor (TX6 k).2.2.1 = some (tyX6 k) := by decide +kernel
abbrev cX6_init : ByteArray := prog_8_method_1_code
def yX6_init : MethodName := ⟨RX6, "<init>", "()V"⟩
abbrev cX6_hasVillage : ByteArray := prog_8_method_2_code
def yX6_hasVillage : MethodName := ⟨RX6, "hasVillage", "(J)Z"⟩
abbrev cX6_hasPlace : ByteArray := prog_8_method_3_code
def yX6_hasPlace : MethodName := ⟨RX6, "hasPlace", "(I)Z"⟩
abbrev cX6_takesRoad : ByteArray := prog_8_method_4_code
def yX6_takesRoad : MethodName := ⟨RX6, "takesRoad", "(JJJ)Z"⟩
abbrev cX6_settle : ByteArray := prog_8_method_5_code
def yX6_settle : MethodName := ⟨RX6, "settle", "(I)I"⟩
abbrev cX6_stake : ByteArray := prog_8_method_6_code
def yX6_stake : MethodName := ⟨RX6, "stake", "(III)I"⟩
abbrev cX6_lengthOf : ByteArray := prog_8_method_7_code
def yX6_lengthOf : MethodName := ⟨RX6, "lengthOf", "(II)I"⟩
abbrev cX6_pave : ByteArray := prog_8_method_8_code
def yX6_pave : MethodName := ⟨RX6, "pave", "(III)V"⟩
abbrev cX6_roads : ByteArray := prog_8_method_9_code
def yX6_roads : MethodName := ⟨RX6, "roads", "()I"⟩
abbrev cX6_allLoaves : ByteArray := prog_8_method_10_code
def yX6_allLoaves : MethodName := ⟨RX6, "allLoaves", "()I"⟩
abbrev cX6_placesOfKind : ByteArray := prog_8_method_11_code
def yX6_placesOfKind : MethodName := ⟨RX6, "placesOfKind", "(I)I"⟩
abbrev cX6_ovenCost : ByteArray := prog_8_method_12_code
def yX6_ovenCost : MethodName := ⟨RX6, "ovenCost", "(I)I"⟩
abbrev cX6_copyFrom : ByteArray := prog_8_method_13_code
def yX6_copyFrom : MethodName := ⟨RX6, "copyFrom", "(LBreadOvens$Valley;)V"⟩
abbrev cX6_isLike : ByteArray := prog_8_method_14_code
def yX6_isLike : MethodName := ⟨RX6, "isLike", "(LBreadOvens$Valley;)Z"⟩
abbrev cX6_sameRows : ByteArray := prog_8_method_15_code
def yX6_sameRows : MethodName := ⟨RX6, "sameRows", "([I[I)Z"⟩
def RX7 : String := "BreadOvens$Ways"
def TX7 : u_T := fun k => match k with
  | _ => ("BreadOvens$Ways", "sums", "[I", true)
def tyX7 : Nat → FieldType := fun k => match k with
  | _ => .array .int
abbrev wsX70 : List Cond := u_ws RX7 TX7 1
theorem nmX7 : ∀ a, a < 1 → ∀ b, b < 1 → a ≠ b → (TX7 a).2.1 ≠ (TX7 b).2.1 := by decide +kernel
theorem tyX7_ok : ∀ k, k < 1 → parseFieldDescriptor (TX7 k).2.2.1 = some (tyX7 k) := by decide +kernel
abbrev cX7_init : ByteArray := prog_9_method_1_code
def yX7_init : MethodName := ⟨RX7, "<init>", "()V"⟩
abbrev cX7_between : ByteArray := prog_9_method_2_code
def yX7_between : MethodName := ⟨RX7, "between", "(II)I"⟩
abbrev cX7_measure : ByteArray := prog_9_method_3_code
def yX7_measure : MethodName := ⟨RX7, "measure", "(LBreadOvens$Valley;)V"⟩
abbrev cX7_takeRoads : ByteArray := prog_9_method_4_code
def yX7_takeRoads : MethodName := ⟨RX7, "takeRoads", "(LBreadOvens$Valley;)V"⟩
abbrev cX7_shorten : ByteArray := prog_9_method_5_code
def yX7_shorten : MethodName := ⟨RX7, "shorten", "(III)V"⟩
abbrev cX7_villageAt : ByteArray := prog_9_method_6_code
def yX7_villageAt : MethodName := ⟨RX7, "villageAt", "(LBreadOvens$Valley;III)I"⟩
abbrev cX7_nextOf : ByteArray := prog_9_method_7_code
def yX7_nextOf : MethodName := ⟨RX7, "nextOf", "(LBreadOvens$Valley;II)I"⟩
def RX8 : String := "BreadOvens"
def TX8 : u_T := fun k => match k with
  | 0 => ("BreadOvens", "valley", "LBreadOvens$Valley;", true)
  | 1 => ("BreadOvens", "diary", "LBreadOvens$Diary;", true)
  | 2 => ("BreadOvens", "charts", "[LBreadOvens$Chart;", true)
  | 3 => ("BreadOvens", "ways", "LBreadOvens$Ways;", true)
  | 4 => ("BreadOvens", "ovens", "LBreadOvens$Ovens;", true)
  | 5 => ("BreadOvens", "survey", "LBreadOvens$Survey;", true)
  | 6 => ("BreadOvens", "builder", "LBreadOvens$Builder;", true)
  | 7 => ("BreadOvens", "purse", "LBreadOvens$Purse;", true)
  | _ => ("BreadOvens", "surveyed", "Z", false)
def tyX8 : Nat → FieldType := fun k => match k with
  | 0 => .object "BreadOvens$Valley"
  | 1 => .object "BreadOvens$Diary"
  | 2 => .array (.object "BreadOvens$Chart")
  | 3 => .object "BreadOvens$Ways"
  | 4 => .object "BreadOvens$Ovens"
  | 5 => .object "BreadOvens$Survey"
  | 6 => .object "BreadOvens$Builder"
  | 7 => .object "BreadOvens$Purse"
  | _ => .boolean
abbrev wsX80 : List Cond := u_ws RX8 TX8 9
theorem nmX8 : ∀ a, a < 9 → ∀ b, b < 9 → a ≠ b → (TX8 a).2.1 ≠ (TX8 b).2.1 := by decide +kernel
theorem tyX8_ok : ∀ k, k < 9 → parseFieldDescriptor (TX8 k).2.2.1 = some (tyX8 k) := by decide +kernel
abbrev cX8_init : ByteArray := prog_1_method_1_code
def yX8_init : MethodName := ⟨RX8, "<init>", "()V"⟩
abbrev cX8_village : ByteArray := prog_1_method_2_code
def yX8_village : MethodName := ⟨RX8, "village", "(I)I"⟩
abbrev cX8_loaves : ByteArray := prog_1_method_3_code
def yX8_loaves : MethodName := ⟨RX8, "loaves", "(II)I"⟩
abbrev cX8_road : ByteArray := prog_1_method_4_code
def yX8_road : MethodName := ⟨RX8, "road", "(III)I"⟩
abbrev cX8_place : ByteArray := prog_1_method_5_code
def yX8_place : MethodName := ⟨RX8, "place", "(III)I"⟩
abbrev cX8_reach : ByteArray := prog_1_method_6_code
def yX8_reach : MethodName := ⟨RX8, "reach", "(II)I"⟩
abbrev cX8_number : ByteArray := prog_1_method_7_code
def yX8_number : MethodName := ⟨RX8, "number", "(I)I"⟩
abbrev cX8_map : ByteArray := prog_1_method_8_code
def yX8_map : MethodName := ⟨RX8, "map", "(III)I"⟩
abbrev cX8_lay : ByteArray := prog_1_method_9_code
def yX8_lay : MethodName := ⟨RX8, "lay", "(IIJ)I"⟩
abbrev cX8_draw : ByteArray := prog_1_method_10_code
def yX8_draw : MethodName := ⟨RX8, "draw", "(III)I"⟩
abbrev cX8_apart : ByteArray := prog_1_method_11_code
def yX8_apart : MethodName := ⟨RX8, "apart", "(II)I"⟩
abbrev cX8_way : ByteArray := prog_1_method_12_code
def yX8_way : MethodName := ⟨RX8, "way", "(III)I"⟩
abbrev cX8_allowed : ByteArray := prog_1_method_13_code
def yX8_allowed : MethodName := ⟨RX8, "allowed", "(I)I"⟩
abbrev cX8_cost : ByteArray := prog_1_method_14_code
def yX8_cost : MethodName := ⟨RX8, "cost", "(I)J"⟩
abbrev cX8_served : ByteArray := prog_1_method_15_code
def yX8_served : MethodName := ⟨RX8, "served", "(II)I"⟩
abbrev cX8_share : ByteArray := prog_1_method_16_code
def yX8_share : MethodName := ⟨RX8, "share", "(III)I"⟩
abbrev cX8_least : ByteArray := prog_1_method_17_code
def yX8_least : MethodName := ⟨RX8, "least", "()J"⟩
abbrev cX8_best : ByteArray := prog_1_method_18_code
def yX8_best : MethodName := ⟨RX8, "best", "()I"⟩
abbrev cX8_many : ByteArray := prog_1_method_19_code
def yX8_many : MethodName := ⟨RX8, "many", "()I"⟩
abbrev cX8_every : ByteArray := prog_1_method_20_code
def yX8_every : MethodName := ⟨RX8, "every", "(I)I"⟩
abbrev cX8_second : ByteArray := prog_1_method_21_code
def yX8_second : MethodName := ⟨RX8, "second", "(I)I"⟩
abbrev cX8_lose : ByteArray := prog_1_method_22_code
def yX8_lose : MethodName := ⟨RX8, "lose", "(I)J"⟩
abbrev cX8_worst : ByteArray := prog_1_method_23_code
def yX8_worst : MethodName := ⟨RX8, "worst", "()I"⟩
abbrev cX8_farthest : ByteArray := prog_1_method_24_code
def yX8_farthest : MethodName := ⟨RX8, "farthest", "()I"⟩
abbrev cX8_nearest : ByteArray := prog_1_method_25_code
def yX8_nearest : MethodName := ⟨RX8, "nearest", "()I"⟩
abbrev cX8_added : ByteArray := prog_1_method_26_code
def yX8_added : MethodName := ⟨RX8, "added", "()I"⟩
abbrev cX8_changed : ByteArray := prog_1_method_27_code
def yX8_changed : MethodName := ⟨RX8, "changed", "(I)I"⟩
abbrev cX8_moves : ByteArray := prog_1_method_28_code
def yX8_moves : MethodName := ⟨RX8, "moves", "()I"⟩
abbrev cX8_price : ByteArray := prog_1_method_29_code
def yX8_price : MethodName := ⟨RX8, "price", "(II)I"⟩
abbrev cX8_priced : ByteArray := prog_1_method_30_code
def yX8_priced : MethodName := ⟨RX8, "priced", "(I)J"⟩
abbrev cX8_gives : ByteArray := prog_1_method_31_code
def yX8_gives : MethodName := ⟨RX8, "gives", "(II)J"⟩
abbrev cX8_worth : ByteArray := prog_1_method_32_code
def yX8_worth : MethodName := ⟨RX8, "worth", "(I)J"⟩
abbrev cX8_bound : ByteArray := prog_1_method_33_code
def yX8_bound : MethodName := ⟨RX8, "bound", "()J"⟩
abbrev cX8_climb : ByteArray := prog_1_method_34_code
def yX8_climb : MethodName := ⟨RX8, "climb", "(II)I"⟩
abbrev cX8_highest : ByteArray := prog_1_method_35_code
def yX8_highest : MethodName := ⟨RX8, "highest", "()J"⟩
abbrev cX8_undo : ByteArray := prog_1_method_36_code
def yX8_undo : MethodName := ⟨RX8, "undo", "()I"⟩
abbrev cX8_count : ByteArray := prog_1_method_37_code
def yX8_count : MethodName := ⟨RX8, "count", "(I)I"⟩
abbrev cX8_isWithin : ByteArray := prog_1_method_38_code
def yX8_isWithin : MethodName := ⟨RX8, "isWithin", "(JJJ)Z"⟩
abbrev cX8_isMap : ByteArray := prog_1_method_39_code
def yX8_isMap : MethodName := ⟨RX8, "isMap", "(I)Z"⟩
abbrev cX8_isLane : ByteArray := prog_1_method_40_code
def yX8_isLane : MethodName := ⟨RX8, "isLane", "(I)Z"⟩
abbrev cX8_isIn : ByteArray := prog_1_method_41_code
def yX8_isIn : MethodName := ⟨RX8, "isIn", "(II)Z"⟩
abbrev cX8_keepChange : ByteArray := prog_1_method_42_code
def yX8_keepChange : MethodName := ⟨RX8, "keepChange", "()V"⟩
abbrev cX8_workOut : ByteArray := prog_1_method_43_code
def yX8_workOut : MethodName := ⟨RX8, "workOut", "()V"⟩
abbrev cX8_surveyChoices : ByteArray := prog_1_method_44_code
def yX8_surveyChoices : MethodName := ⟨RX8, "surveyChoices", "()V"⟩
abbrev cX8_refusalToDraw : ByteArray := prog_1_method_45_code
def yX8_refusalToDraw : MethodName := ⟨RX8, "refusalToDraw", "(LBreadOvens$Chart;II)I"⟩
abbrev cX8_paveFrom : ByteArray := prog_1_method_46_code
def yX8_paveFrom : MethodName := ⟨RX8, "paveFrom", "(LBreadOvens$Chart;I)V"⟩
def RX9 : String := "BreadOvensModel"
def TX9 : u_T := fun k => match k with
  | 0 => ("BreadOvensModel", "villages", "I", false)
  | 1 => ("BreadOvensModel", "bread", "[I", true)
  | 2 => ("BreadOvensModel", "prices", "[J", true)
  | 3 => ("BreadOvensModel", "roads", "[I", true)
  | 4 => ("BreadOvensModel", "places", "I", false)
  | 5 => ("BreadOvensModel", "at", "[I", true)
  | 6 => ("BreadOvensModel", "kinds", "[I", true)
  | 7 => ("BreadOvensModel", "builds", "[I", true)
  | 8 => ("BreadOvensModel", "reaches", "[I", true)
  | 9 => ("BreadOvensModel", "most", "I", false)
  | 10 => ("BreadOvensModel", "lanes", "[I", true)
  | 11 => ("BreadOvensModel", "sizes", "[I", true)
  | 12 => ("BreadOvensModel", "cells", "[J", true)
  | 13 => ("BreadOvensModel", "kept", "I", false)
  | 14 => ("BreadOvensModel", "oVillages", "[I", true)
  | 15 => ("BreadOvensModel", "oBread", "[I", true)
  | 16 => ("BreadOvensModel", "oRoads", "[I", true)
  | 17 => ("BreadOvensModel", "oPlaces", "[I", true)
  | 18 => ("BreadOvensModel", "oReaches", "[I", true)
  | 19 => ("BreadOvensModel", "oMost", "[I", true)
  | 20 => ("BreadOvensModel", "drafted", "[I", true)
  | 21 => ("BreadOvensModel", "ways", "[I", true)
  | 22 => ("BreadOvensModel", "unserved", "I", false)
  | 23 => ("BreadOvensModel", "costs", "J", false)
  | 24 => ("BreadOvensModel", "far", "I", false)
  | 25 => ("BreadOvensModel", "foundBest", "I", false)
  | 26 => ("BreadOvensModel", "foundLeast", "J", false)
  | 27 => ("BreadOvensModel", "foundMany", "I", false)
  | 28 => ("BreadOvensModel", "foundAll", "I", false)
  | 29 => ("BreadOvensModel", "foundAny", "I", false)
  | 30 => ("BreadOvensModel", "nearestOne", "I", false)
  | 31 => ("BreadOvensModel", "nearestFar", "I", false)
  | 32 => ("BreadOvensModel", "moved", "I", false)
  | 33 => ("BreadOvensModel", "leastUnserved", "I", false)
  | 34 => ("BreadOvensModel", "leastCosts", "J", false)
  | 35 => ("BreadOvensModel", "worths", "[J", true)
  | 36 => ("BreadOvensModel", "richest", "I", false)
  | 37 => ("BreadOvensModel", "riches", "J", false)
  | _ => ("BreadOvensModel", "high", "J", false)
def tyX9 : Nat → FieldType := fun k => match k with
  | 0 => .int
  | 1 => .array .int
  | 2 => .array .long
  | 3 => .array .int
  | 4 => .int
  | 5 => .array .int
  | 6 => .array .int
  | 7 => .array .int
  | 8 => .array .int
  | 9 => .int
  | 10 => .array .int
  | 11 => .array .int
  | 12 => .array .long
  | 13 => .int
  | 14 => .array .int
  | 15 => .array .int
  | 16 => .array .int
  | 17 => .array .int
  | 18 => .array .int
  | 19 => .array .int
  | 20 => .array .int
  | 21 => .array .int
  | 22 => .int
  | 23 => .long
  | 24 => .int
  | 25 => .int
  | 26 => .long
  | 27 => .int
  | 28 => .int
  | 29 => .int
  | 30 => .int
  | 31 => .int
  | 32 => .int
  | 33 => .int
  | 34 => .long
  | 35 => .array .long
  | 36 => .int
  | 37 => .long
  | _ => .long
abbrev wsX90 : List Cond := u_ws RX9 TX9 39
theorem nmX9 : ∀ a, a < 39 → ∀ b, b < 39 → a ≠ b → (TX9 a).2.1 ≠ (TX9 b).2.1 := by decide +kernel
theorem tyX9_ok : ∀ k, k < 39 → parseFieldDescriptor (TX9 k).2.2.1 = some (tyX9 k) := by decide +kernel
abbrev cX9_init : ByteArray := prog_11_method_1_code
def yX9_init : MethodName := ⟨RX9, "<init>", "()V"⟩
abbrev cX9_in : ByteArray := prog_11_method_3_code
def yX9_in : MethodName := ⟨RX9, "in", "(JJJ)Z"⟩
abbrev cX9_keep : ByteArray := prog_11_method_4_code
def yX9_keep : MethodName := ⟨RX9, "keep", "()V"⟩
abbrev cX9_undo : ByteArray := prog_11_method_5_code
def yX9_undo : MethodName := ⟨RX9, "undo", "()I"⟩
abbrev cX9_isVillage : ByteArray := prog_11_method_6_code
def yX9_isVillage : MethodName := ⟨RX9, "isVillage", "(I)Z"⟩
abbrev cX9_isPlace : ByteArray := prog_11_method_7_code
def yX9_isPlace : MethodName := ⟨RX9, "isPlace", "(I)Z"⟩
abbrev cX9_village : ByteArray := prog_11_method_8_code
def yX9_village : MethodName := ⟨RX9, "village", "(I)I"⟩
abbrev cX9_loaves : ByteArray := prog_11_method_9_code
def yX9_loaves : MethodName := ⟨RX9, "loaves", "(II)I"⟩
abbrev cX9_isRoad : ByteArray := prog_11_method_10_code
def yX9_isRoad : MethodName := ⟨RX9, "isRoad", "(JJJ)Z"⟩
abbrev cX9_road : ByteArray := prog_11_method_11_code
def yX9_road : MethodName := ⟨RX9, "road", "(III)I"⟩
abbrev cX9_place : ByteArray := prog_11_method_12_code
def yX9_place : MethodName := ⟨RX9, "place", "(III)I"⟩
abbrev cX9_reach : ByteArray := prog_11_method_13_code
def yX9_reach : MethodName := ⟨RX9, "reach", "(II)I"⟩
abbrev cX9_number : ByteArray := prog_11_method_14_code
def yX9_number : MethodName := ⟨RX9, "number", "(I)I"⟩
abbrev cX9_map : ByteArray := prog_11_method_15_code
def yX9_map : MethodName := ⟨RX9, "map", "(III)I"⟩
abbrev cX9_lay : ByteArray := prog_11_method_16_code
def yX9_lay : MethodName := ⟨RX9, "lay", "(IIJ)I"⟩
abbrev cX9_draw : ByteArray := prog_11_method_17_code
def yX9_draw : MethodName := ⟨RX9, "draw", "(III)I"⟩
abbrev cX9_findWays : ByteArray := prog_11_method_18_code
def yX9_findWays : MethodName := ⟨RX9, "findWays", "()V"⟩
abbrev cX9_apart : ByteArray := prog_11_method_19_code
def yX9_apart : MethodName := ⟨RX9, "apart", "(II)I"⟩
abbrev cX9_way : ByteArray := prog_11_method_20_code
def yX9_way : MethodName := ⟨RX9, "way", "(III)I"⟩
abbrev cX9_carried : ByteArray := prog_11_method_21_code
def yX9_carried : MethodName := ⟨RX9, "carried", "(II)I"⟩
abbrev cX9_ovenCost : ByteArray := prog_11_method_22_code
def yX9_ovenCost : MethodName := ⟨RX9, "ovenCost", "(I)I"⟩
abbrev cX9_isChoice : ByteArray := prog_11_method_23_code
def yX9_isChoice : MethodName := ⟨RX9, "isChoice", "(I)Z"⟩
abbrev cX9_isAllowed : ByteArray := prog_11_method_24_code
def yX9_isAllowed : MethodName := ⟨RX9, "isAllowed", "(I)Z"⟩
abbrev cX9_servedBy : ByteArray := prog_11_method_25_code
def yX9_servedBy : MethodName := ⟨RX9, "servedBy", "(II)I"⟩
abbrev cX9_weigh : ByteArray := prog_11_method_26_code
def yX9_weigh : MethodName := ⟨RX9, "weigh", "(I)V"⟩
abbrev cX9_allowed : ByteArray := prog_11_method_27_code
def yX9_allowed : MethodName := ⟨RX9, "allowed", "(I)I"⟩
abbrev cX9_cost : ByteArray := prog_11_method_28_code
def yX9_cost : MethodName := ⟨RX9, "cost", "(I)J"⟩
abbrev cX9_served : ByteArray := prog_11_method_29_code
def yX9_served : MethodName := ⟨RX9, "served", "(II)I"⟩
abbrev cX9_share : ByteArray := prog_11_method_30_code
def yX9_share : MethodName := ⟨RX9, "share", "(III)I"⟩
abbrev cX9_find : ByteArray := prog_11_method_31_code
def yX9_find : MethodName := ⟨RX9, "find", "(II)V"⟩
abbrev cX9_least : ByteArray := prog_11_method_32_code
def yX9_least : MethodName := ⟨RX9, "least", "()J"⟩
abbrev cX9_best : ByteArray := prog_11_method_33_code
def yX9_best : MethodName := ⟨RX9, "best", "()I"⟩
abbrev cX9_many : ByteArray := prog_11_method_34_code
def yX9_many : MethodName := ⟨RX9, "many", "()I"⟩
abbrev cX9_every : ByteArray := prog_11_method_35_code
def yX9_every : MethodName := ⟨RX9, "every", "(I)I"⟩
abbrev cX9_second : ByteArray := prog_11_method_36_code
def yX9_second : MethodName := ⟨RX9, "second", "(I)I"⟩
abbrev cX9_lose : ByteArray := prog_11_method_37_code
def yX9_lose : MethodName := ⟨RX9, "lose", "(I)J"⟩
abbrev cX9_worst : ByteArray := prog_11_method_38_code
def yX9_worst : MethodName := ⟨RX9, "worst", "()I"⟩
abbrev cX9_findNearest : ByteArray := prog_11_method_39_code
def yX9_findNearest : MethodName := ⟨RX9, "findNearest", "()V"⟩
abbrev cX9_farthest : ByteArray := prog_11_method_40_code
def yX9_farthest : MethodName := ⟨RX9, "farthest", "()I"⟩
abbrev cX9_nearest : ByteArray := prog_11_method_41_code
def yX9_nearest : MethodName := ⟨RX9, "nearest", "()I"⟩
abbrev cX9_shrines : ByteArray := prog_11_method_42_code
def yX9_shrines : MethodName := ⟨RX9, "shrines", "()I"⟩
abbrev cX9_isLess : ByteArray := prog_11_method_43_code
def yX9_isLess : MethodName := ⟨RX9, "isLess", "(I)Z"⟩
abbrev cX9_begins : ByteArray := prog_11_method_44_code
def yX9_begins : MethodName := ⟨RX9, "begins", "(I)V"⟩
abbrev cX9_added : ByteArray := prog_11_method_45_code
def yX9_added : MethodName := ⟨RX9, "added", "()I"⟩
abbrev cX9_changed : ByteArray := prog_11_method_46_code
def yX9_changed : MethodName := ⟨RX9, "changed", "(I)I"⟩
abbrev cX9_moves : ByteArray := prog_11_method_47_code
def yX9_moves : MethodName := ⟨RX9, "moves", "()I"⟩
abbrev cX9_price : ByteArray := prog_11_method_48_code
def yX9_price : MethodName := ⟨RX9, "price", "(II)I"⟩
abbrev cX9_priced : ByteArray := prog_11_method_49_code
def yX9_priced : MethodName := ⟨RX9, "priced", "(I)J"⟩
abbrev cX9_given : ByteArray := prog_11_method_50_code
def yX9_given : MethodName := ⟨RX9, "given", "(II)J"⟩
abbrev cX9_gives : ByteArray := prog_11_method_51_code
def yX9_gives : MethodName := ⟨RX9, "gives", "(II)J"⟩
abbrev cX9_worthOf : ByteArray := prog_11_method_52_code
def yX9_worthOf : MethodName := ⟨RX9, "worthOf", "(I)J"⟩
abbrev cX9_worth : ByteArray := prog_11_method_53_code
def yX9_worth : MethodName := ⟨RX9, "worth", "(I)J"⟩
abbrev cX9_findRichest : ByteArray := prog_11_method_54_code
def yX9_findRichest : MethodName := ⟨RX9, "findRichest", "()V"⟩
abbrev cX9_boundNow : ByteArray := prog_11_method_55_code
def yX9_boundNow : MethodName := ⟨RX9, "boundNow", "()J"⟩
abbrev cX9_bound : ByteArray := prog_11_method_56_code
def yX9_bound : MethodName := ⟨RX9, "bound", "()J"⟩
abbrev cX9_climb : ByteArray := prog_11_method_57_code
def yX9_climb : MethodName := ⟨RX9, "climb", "(II)I"⟩
abbrev cX9_highest : ByteArray := prog_11_method_58_code
def yX9_highest : MethodName := ⟨RX9, "highest", "()J"⟩
abbrev cX9_count : ByteArray := prog_11_method_59_code
def yX9_count : MethodName := ⟨RX9, "count", "(I)I"⟩
def RJ6 : String := "java/lang/Integer"
def TJ6 : u_T := fun k => match k with
  | _ => ("", "", "", false)
def tyJ6 : Nat → FieldType := fun k => match k with
  | _ => .int
abbrev wsJ60 : List Cond := u_ws RJ6 TJ6 0
theorem nmJ6 : ∀ a, a < 0 → ∀ b, b < 0 → a ≠ b → (TJ6 a).2.1 ≠ (TJ6 b).2.1 := by decide +kernel
theorem tyJ6_ok : ∀ k, k < 0 → parseFieldDescriptor (TJ6 k).2.2.1 = some (tyJ6 k) := by decide +kernel
abbrev cJ6_bitCount_0f7a4 : ByteArray := prog_12_method_49_code
def yJ6_bitCount_0f7a4 : MethodName := ⟨RJ6, "bitCount", "(I)I"⟩
def RJ9 : String := "java/lang/Math"
def TJ9 : u_T := fun k => match k with
  | _ => ("", "", "", false)
def tyJ9 : Nat → FieldType := fun k => match k with
  | _ => .int
abbrev wsJ90 : List Cond := u_ws RJ9 TJ9 0
theorem nmJ9 : ∀ a, a < 0 → ∀ b, b < 0 → a ≠ b → (TJ9 a).2.1 ≠ (TJ9 b).2.1 := by decide +kernel
theorem tyJ9_ok : ∀ k, k < 0 → parseFieldDescriptor (TJ9 k).2.2.1 = some (tyJ9 k) := by decide +kernel
abbrev cJ9_max_7cf53 : ByteArray := prog_13_method_65_code
def yJ9_max_7cf53 : MethodName := ⟨RJ9, "max", "(II)I"⟩
abbrev cJ9_max_f86c9 : ByteArray := prog_13_method_66_code
def yJ9_max_f86c9 : MethodName := ⟨RJ9, "max", "(JJ)J"⟩
abbrev cJ9_min_7cf53 : ByteArray := prog_13_method_69_code
def yJ9_min_7cf53 : MethodName := ⟨RJ9, "min", "(II)I"⟩
abbrev cJ9_min_f86c9 : ByteArray := prog_13_method_70_code
def yJ9_min_f86c9 : MethodName := ⟨RJ9, "min", "(JJ)J"⟩
def RJ10 : String := "java/lang/System"
def TJ10 : u_T := fun k => match k with
  | _ => ("", "", "", false)
def tyJ10 : Nat → FieldType := fun k => match k with
  | _ => .int
abbrev wsJ100 : List Cond := u_ws RJ10 TJ10 0
theorem nmJ10 : ∀ a, a < 0 → ∀ b, b < 0 → a ≠ b → (TJ10 a).2.1 ≠ (TJ10 b).2.1 := by decide +kernel
theorem tyJ10_ok : ∀ k, k < 0 → parseFieldDescriptor (TJ10 k).2.2.1 = some (tyJ10 k) := by decide +kernel
def RL : String := "BreadOvensLaw"
abbrev cL_law : ByteArray := code
def yL_law : MethodName := ⟨RL, "law", "([I)Z"⟩
theorem goodIn_sub {big ws : List Cond} (hm : ∀ w ∈ ws, w ∈ big) (h : ws.all goodWord = true) : GoodIn big ws := fun w hw => ⟨hm w hw, good_of_word (List.all_eq_true.mp h w hw)⟩
abbrev vwCl : List vw_C := [(RX0, TX0, 4), (RX1, TX1, 3), (RX2, TX2, 3), (RX3, TX3, 4), (RX4, TX4, 6), (RX5, TX5, 10), (RX6, TX6, 9), (RX7, TX7, 1), (RX8, TX8, 9), (RX9, TX9, 39)]
