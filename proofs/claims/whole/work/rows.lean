section
/-- a private method of a class that the tables say can be made, by its rows of tables_1 -/
def lw_okq (q : MethodName × Nat) : Prop := (q.1.cls ≠ "java/lang/invoke/MethodHandle" ∧ q.1.cls ≠ "java/lang/invoke/VarHandle") ∧ Cond.instantiable q.1.cls q.2 ∈ tables_1 ∧ Cond.privateMethod q.1 ∈ tables_1 ∧ Cond.instanceMethod q.1 ∈ tables_1
theorem lw_p0 : lw_okq (⟨"BreadOvens", "keepChange", "()V"⟩, 9) := ⟨⟨by decide +kernel, by decide +kernel⟩, List.mem_of_getElem? (i := 15) (by decide +kernel), List.mem_of_getElem? (i := 297) (by decide +kernel), List.mem_of_getElem? (i := 298) (by decide +kernel)⟩
theorem lw_p1 : lw_okq (⟨"BreadOvens", "workOut", "()V"⟩, 9) := ⟨⟨by decide +kernel, by decide +kernel⟩, List.mem_of_getElem? (i := 15) (by decide +kernel), List.mem_of_getElem? (i := 315) (by decide +kernel), List.mem_of_getElem? (i := 316) (by decide +kernel)⟩
theorem lw_p2 : lw_okq (⟨"BreadOvens$Ways", "takeRoads", "(LBreadOvens$Valley;)V"⟩, 1) := ⟨⟨by decide +kernel, by decide +kernel⟩, List.mem_of_getElem? (i := 100) (by decide +kernel), List.mem_of_getElem? (i := 323) (by decide +kernel), List.mem_of_getElem? (i := 324) (by decide +kernel)⟩
theorem lw_p3 : lw_okq (⟨"BreadOvens$Ways", "shorten", "(III)V"⟩, 1) := ⟨⟨by decide +kernel, by decide +kernel⟩, List.mem_of_getElem? (i := 100) (by decide +kernel), List.mem_of_getElem? (i := 332) (by decide +kernel), List.mem_of_getElem? (i := 333) (by decide +kernel)⟩
theorem lw_p4 : lw_okq (⟨"BreadOvens$Ovens", "carriedOver", "(II)I"⟩, 4) := ⟨⟨by decide +kernel, by decide +kernel⟩, List.mem_of_getElem? (i := 110) (by decide +kernel), List.mem_of_getElem? (i := 349) (by decide +kernel), List.mem_of_getElem? (i := 350) (by decide +kernel)⟩
theorem lw_p5 : lw_okq (⟨"BreadOvens", "refusalToDraw", "(LBreadOvens$Chart;II)I"⟩, 9) := ⟨⟨by decide +kernel, by decide +kernel⟩, List.mem_of_getElem? (i := 15) (by decide +kernel), List.mem_of_getElem? (i := 430) (by decide +kernel), List.mem_of_getElem? (i := 431) (by decide +kernel)⟩
theorem lw_p6 : lw_okq (⟨"BreadOvens", "paveFrom", "(LBreadOvens$Chart;I)V"⟩, 9) := ⟨⟨by decide +kernel, by decide +kernel⟩, List.mem_of_getElem? (i := 15) (by decide +kernel), List.mem_of_getElem? (i := 438) (by decide +kernel), List.mem_of_getElem? (i := 439) (by decide +kernel)⟩
theorem lw_p7 : lw_okq (⟨"BreadOvens$Ways", "nextOf", "(LBreadOvens$Valley;II)I"⟩, 1) := ⟨⟨by decide +kernel, by decide +kernel⟩, List.mem_of_getElem? (i := 100) (by decide +kernel), List.mem_of_getElem? (i := 456) (by decide +kernel), List.mem_of_getElem? (i := 457) (by decide +kernel)⟩
theorem lw_p8 : lw_okq (⟨"BreadOvens$Ovens", "feeds", "(III)Z"⟩, 4) := ⟨⟨by decide +kernel, by decide +kernel⟩, List.mem_of_getElem? (i := 110) (by decide +kernel), List.mem_of_getElem? (i := 519) (by decide +kernel), List.mem_of_getElem? (i := 520) (by decide +kernel)⟩
theorem lw_p9 : lw_okq (⟨"BreadOvens", "surveyChoices", "()V"⟩, 9) := ⟨⟨by decide +kernel, by decide +kernel⟩, List.mem_of_getElem? (i := 15) (by decide +kernel), List.mem_of_getElem? (i := 538) (by decide +kernel), List.mem_of_getElem? (i := 539) (by decide +kernel)⟩
theorem lw_p10 : lw_okq (⟨"BreadOvens$Survey", "forget", "()V"⟩, 10) := ⟨⟨by decide +kernel, by decide +kernel⟩, List.mem_of_getElem? (i := 133) (by decide +kernel), List.mem_of_getElem? (i := 546) (by decide +kernel), List.mem_of_getElem? (i := 547) (by decide +kernel)⟩
theorem lw_p11 : lw_okq (⟨"BreadOvens$Survey", "noteCost", "(IJ)V"⟩, 10) := ⟨⟨by decide +kernel, by decide +kernel⟩, List.mem_of_getElem? (i := 133) (by decide +kernel), List.mem_of_getElem? (i := 555) (by decide +kernel), List.mem_of_getElem? (i := 556) (by decide +kernel)⟩
theorem lw_p12 : lw_okq (⟨"BreadOvens$Survey", "noteLosses", "(IJ)V"⟩, 10) := ⟨⟨by decide +kernel, by decide +kernel⟩, List.mem_of_getElem? (i := 133) (by decide +kernel), List.mem_of_getElem? (i := 559) (by decide +kernel), List.mem_of_getElem? (i := 560) (by decide +kernel)⟩
theorem lw_p13 : lw_okq (⟨"BreadOvens$Survey", "noteFar", "(II)V"⟩, 10) := ⟨⟨by decide +kernel, by decide +kernel⟩, List.mem_of_getElem? (i := 133) (by decide +kernel), List.mem_of_getElem? (i := 571) (by decide +kernel), List.mem_of_getElem? (i := 572) (by decide +kernel)⟩
theorem lw_p14 : lw_okq (⟨"BreadOvens$Builder", "withOneMore", "(I)I"⟩, 4) := ⟨⟨by decide +kernel, by decide +kernel⟩, List.mem_of_getElem? (i := 180) (by decide +kernel), List.mem_of_getElem? (i := 622) (by decide +kernel), List.mem_of_getElem? (i := 623) (by decide +kernel)⟩
theorem lw_p15 : lw_okq (⟨"BreadOvens$Builder", "startFrom", "(I)V"⟩, 4) := ⟨⟨by decide +kernel, by decide +kernel⟩, List.mem_of_getElem? (i := 180) (by decide +kernel), List.mem_of_getElem? (i := 626) (by decide +kernel), List.mem_of_getElem? (i := 627) (by decide +kernel)⟩
def lw_privs_1 : List (MethodName × Nat) := [(⟨"BreadOvens", "keepChange", "()V"⟩, 9), (⟨"BreadOvens", "workOut", "()V"⟩, 9), (⟨"BreadOvens$Ways", "takeRoads", "(LBreadOvens$Valley;)V"⟩, 1), (⟨"BreadOvens$Ways", "shorten", "(III)V"⟩, 1), (⟨"BreadOvens$Ovens", "carriedOver", "(II)I"⟩, 4), (⟨"BreadOvens", "refusalToDraw", "(LBreadOvens$Chart;II)I"⟩, 9), (⟨"BreadOvens", "paveFrom", "(LBreadOvens$Chart;I)V"⟩, 9), (⟨"BreadOvens$Ways", "nextOf", "(LBreadOvens$Valley;II)I"⟩, 1), (⟨"BreadOvens$Ovens", "feeds", "(III)Z"⟩, 4), (⟨"BreadOvens", "surveyChoices", "()V"⟩, 9), (⟨"BreadOvens$Survey", "forget", "()V"⟩, 10), (⟨"BreadOvens$Survey", "noteCost", "(IJ)V"⟩, 10), (⟨"BreadOvens$Survey", "noteLosses", "(IJ)V"⟩, 10), (⟨"BreadOvens$Survey", "noteFar", "(II)V"⟩, 10), (⟨"BreadOvens$Builder", "withOneMore", "(I)I"⟩, 4), (⟨"BreadOvens$Builder", "startFrom", "(I)V"⟩, 4)]
theorem lw_r1 : ∀ q ∈ lw_privs_1, lw_okq q := List.forall_mem_cons.mpr ⟨lw_p0, List.forall_mem_cons.mpr ⟨lw_p1, List.forall_mem_cons.mpr ⟨lw_p2, List.forall_mem_cons.mpr ⟨lw_p3, List.forall_mem_cons.mpr ⟨lw_p4, List.forall_mem_cons.mpr ⟨lw_p5, List.forall_mem_cons.mpr ⟨lw_p6, List.forall_mem_cons.mpr ⟨lw_p7, List.forall_mem_cons.mpr ⟨lw_p8, List.forall_mem_cons.mpr ⟨lw_p9, List.forall_mem_cons.mpr ⟨lw_p10, List.forall_mem_cons.mpr ⟨lw_p11, List.forall_mem_cons.mpr ⟨lw_p12, List.forall_mem_cons.mpr ⟨lw_p13, List.forall_mem_cons.mpr ⟨lw_p14, List.forall_mem_cons.mpr ⟨lw_p15, fun _ h => absurd h List.not_mem_nil⟩⟩⟩⟩⟩⟩⟩⟩⟩⟩⟩⟩⟩⟩⟩⟩
theorem lw_p16 : lw_okq (⟨"BreadOvens$Builder", "consider", "(I)V"⟩, 4) := ⟨⟨by decide +kernel, by decide +kernel⟩, List.mem_of_getElem? (i := 180) (by decide +kernel), List.mem_of_getElem? (i := 632) (by decide +kernel), List.mem_of_getElem? (i := 633) (by decide +kernel)⟩
theorem lw_p17 : lw_okq (⟨"BreadOvens$Builder", "withOneForAnother", "(I)I"⟩, 4) := ⟨⟨by decide +kernel, by decide +kernel⟩, List.mem_of_getElem? (i := 180) (by decide +kernel), List.mem_of_getElem? (i := 645) (by decide +kernel), List.mem_of_getElem? (i := 646) (by decide +kernel)⟩
theorem lw_p18 : lw_okq (⟨"BreadOvens$Purse", "addUpWorths", "()V"⟩, 6) := ⟨⟨by decide +kernel, by decide +kernel⟩, List.mem_of_getElem? (i := 200) (by decide +kernel), List.mem_of_getElem? (i := 693) (by decide +kernel), List.mem_of_getElem? (i := 694) (by decide +kernel)⟩
theorem lw_p19 : lw_okq (⟨"BreadOvens$Purse", "movePrices", "(I)I"⟩, 6) := ⟨⟨by decide +kernel, by decide +kernel⟩, List.mem_of_getElem? (i := 200) (by decide +kernel), List.mem_of_getElem? (i := 713) (by decide +kernel), List.mem_of_getElem? (i := 714) (by decide +kernel)⟩
theorem lw_p20 : lw_okq (⟨"BreadOvens$Purse", "giversOfTop", "(I)I"⟩, 6) := ⟨⟨by decide +kernel, by decide +kernel⟩, List.mem_of_getElem? (i := 200) (by decide +kernel), List.mem_of_getElem? (i := 717) (by decide +kernel), List.mem_of_getElem? (i := 718) (by decide +kernel)⟩
theorem lw_p21 : lw_okq (⟨"BreadOvensModel", "keep", "()V"⟩, 39) := ⟨⟨by decide +kernel, by decide +kernel⟩, List.mem_of_getElem? (i := 758) (by decide +kernel), List.mem_of_getElem? (i := 894) (by decide +kernel), List.mem_of_getElem? (i := 895) (by decide +kernel)⟩
theorem lw_p22 : lw_okq (⟨"BreadOvensModel", "isVillage", "(I)Z"⟩, 39) := ⟨⟨by decide +kernel, by decide +kernel⟩, List.mem_of_getElem? (i := 758) (by decide +kernel), List.mem_of_getElem? (i := 902) (by decide +kernel), List.mem_of_getElem? (i := 903) (by decide +kernel)⟩
theorem lw_p23 : lw_okq (⟨"BreadOvensModel", "isRoad", "(JJJ)Z"⟩, 39) := ⟨⟨by decide +kernel, by decide +kernel⟩, List.mem_of_getElem? (i := 758) (by decide +kernel), List.mem_of_getElem? (i := 910) (by decide +kernel), List.mem_of_getElem? (i := 911) (by decide +kernel)⟩
theorem lw_p24 : lw_okq (⟨"BreadOvensModel", "isPlace", "(I)Z"⟩, 39) := ⟨⟨by decide +kernel, by decide +kernel⟩, List.mem_of_getElem? (i := 758) (by decide +kernel), List.mem_of_getElem? (i := 924) (by decide +kernel), List.mem_of_getElem? (i := 925) (by decide +kernel)⟩
theorem lw_p25 : lw_okq (⟨"BreadOvensModel", "findWays", "()V"⟩, 39) := ⟨⟨by decide +kernel, by decide +kernel⟩, List.mem_of_getElem? (i := 758) (by decide +kernel), List.mem_of_getElem? (i := 952) (by decide +kernel), List.mem_of_getElem? (i := 953) (by decide +kernel)⟩
theorem lw_p26 : lw_okq (⟨"BreadOvensModel", "isChoice", "(I)Z"⟩, 39) := ⟨⟨by decide +kernel, by decide +kernel⟩, List.mem_of_getElem? (i := 758) (by decide +kernel), List.mem_of_getElem? (i := 964) (by decide +kernel), List.mem_of_getElem? (i := 965) (by decide +kernel)⟩
theorem lw_p27 : lw_okq (⟨"BreadOvensModel", "isAllowed", "(I)Z"⟩, 39) := ⟨⟨by decide +kernel, by decide +kernel⟩, List.mem_of_getElem? (i := 758) (by decide +kernel), List.mem_of_getElem? (i := 968) (by decide +kernel), List.mem_of_getElem? (i := 969) (by decide +kernel)⟩
theorem lw_p28 : lw_okq (⟨"BreadOvensModel", "weigh", "(I)V"⟩, 39) := ⟨⟨by decide +kernel, by decide +kernel⟩, List.mem_of_getElem? (i := 758) (by decide +kernel), List.mem_of_getElem? (i := 977) (by decide +kernel), List.mem_of_getElem? (i := 978) (by decide +kernel)⟩
theorem lw_p29 : lw_okq (⟨"BreadOvensModel", "ovenCost", "(I)I"⟩, 39) := ⟨⟨by decide +kernel, by decide +kernel⟩, List.mem_of_getElem? (i := 758) (by decide +kernel), List.mem_of_getElem? (i := 981) (by decide +kernel), List.mem_of_getElem? (i := 982) (by decide +kernel)⟩
theorem lw_p30 : lw_okq (⟨"BreadOvensModel", "servedBy", "(II)I"⟩, 39) := ⟨⟨by decide +kernel, by decide +kernel⟩, List.mem_of_getElem? (i := 758) (by decide +kernel), List.mem_of_getElem? (i := 985) (by decide +kernel), List.mem_of_getElem? (i := 986) (by decide +kernel)⟩
theorem lw_p31 : lw_okq (⟨"BreadOvensModel", "carried", "(II)I"⟩, 39) := ⟨⟨by decide +kernel, by decide +kernel⟩, List.mem_of_getElem? (i := 758) (by decide +kernel), List.mem_of_getElem? (i := 989) (by decide +kernel), List.mem_of_getElem? (i := 990) (by decide +kernel)⟩
def lw_privs_2 : List (MethodName × Nat) := [(⟨"BreadOvens$Builder", "consider", "(I)V"⟩, 4), (⟨"BreadOvens$Builder", "withOneForAnother", "(I)I"⟩, 4), (⟨"BreadOvens$Purse", "addUpWorths", "()V"⟩, 6), (⟨"BreadOvens$Purse", "movePrices", "(I)I"⟩, 6), (⟨"BreadOvens$Purse", "giversOfTop", "(I)I"⟩, 6), (⟨"BreadOvensModel", "keep", "()V"⟩, 39), (⟨"BreadOvensModel", "isVillage", "(I)Z"⟩, 39), (⟨"BreadOvensModel", "isRoad", "(JJJ)Z"⟩, 39), (⟨"BreadOvensModel", "isPlace", "(I)Z"⟩, 39), (⟨"BreadOvensModel", "findWays", "()V"⟩, 39), (⟨"BreadOvensModel", "isChoice", "(I)Z"⟩, 39), (⟨"BreadOvensModel", "isAllowed", "(I)Z"⟩, 39), (⟨"BreadOvensModel", "weigh", "(I)V"⟩, 39), (⟨"BreadOvensModel", "ovenCost", "(I)I"⟩, 39), (⟨"BreadOvensModel", "servedBy", "(II)I"⟩, 39), (⟨"BreadOvensModel", "carried", "(II)I"⟩, 39)]
theorem lw_r2 : ∀ q ∈ lw_privs_2, lw_okq q := List.forall_mem_cons.mpr ⟨lw_p16, List.forall_mem_cons.mpr ⟨lw_p17, List.forall_mem_cons.mpr ⟨lw_p18, List.forall_mem_cons.mpr ⟨lw_p19, List.forall_mem_cons.mpr ⟨lw_p20, List.forall_mem_cons.mpr ⟨lw_p21, List.forall_mem_cons.mpr ⟨lw_p22, List.forall_mem_cons.mpr ⟨lw_p23, List.forall_mem_cons.mpr ⟨lw_p24, List.forall_mem_cons.mpr ⟨lw_p25, List.forall_mem_cons.mpr ⟨lw_p26, List.forall_mem_cons.mpr ⟨lw_p27, List.forall_mem_cons.mpr ⟨lw_p28, List.forall_mem_cons.mpr ⟨lw_p29, List.forall_mem_cons.mpr ⟨lw_p30, List.forall_mem_cons.mpr ⟨lw_p31, fun _ h => absurd h List.not_mem_nil⟩⟩⟩⟩⟩⟩⟩⟩⟩⟩⟩⟩⟩⟩⟩⟩
theorem lw_p32 : lw_okq (⟨"BreadOvensModel", "find", "(II)V"⟩, 39) := ⟨⟨by decide +kernel, by decide +kernel⟩, List.mem_of_getElem? (i := 758) (by decide +kernel), List.mem_of_getElem? (i := 1006) (by decide +kernel), List.mem_of_getElem? (i := 1007) (by decide +kernel)⟩
theorem lw_p33 : lw_okq (⟨"BreadOvensModel", "findNearest", "()V"⟩, 39) := ⟨⟨by decide +kernel, by decide +kernel⟩, List.mem_of_getElem? (i := 758) (by decide +kernel), List.mem_of_getElem? (i := 1040) (by decide +kernel), List.mem_of_getElem? (i := 1041) (by decide +kernel)⟩
theorem lw_p34 : lw_okq (⟨"BreadOvensModel", "shrines", "()I"⟩, 39) := ⟨⟨by decide +kernel, by decide +kernel⟩, List.mem_of_getElem? (i := 758) (by decide +kernel), List.mem_of_getElem? (i := 1052) (by decide +kernel), List.mem_of_getElem? (i := 1053) (by decide +kernel)⟩
theorem lw_p35 : lw_okq (⟨"BreadOvensModel", "begins", "(I)V"⟩, 39) := ⟨⟨by decide +kernel, by decide +kernel⟩, List.mem_of_getElem? (i := 758) (by decide +kernel), List.mem_of_getElem? (i := 1056) (by decide +kernel), List.mem_of_getElem? (i := 1057) (by decide +kernel)⟩
theorem lw_p36 : lw_okq (⟨"BreadOvensModel", "isLess", "(I)Z"⟩, 39) := ⟨⟨by decide +kernel, by decide +kernel⟩, List.mem_of_getElem? (i := 758) (by decide +kernel), List.mem_of_getElem? (i := 1060) (by decide +kernel), List.mem_of_getElem? (i := 1061) (by decide +kernel)⟩
theorem lw_p37 : lw_okq (⟨"BreadOvensModel", "given", "(II)J"⟩, 39) := ⟨⟨by decide +kernel, by decide +kernel⟩, List.mem_of_getElem? (i := 758) (by decide +kernel), List.mem_of_getElem? (i := 1085) (by decide +kernel), List.mem_of_getElem? (i := 1086) (by decide +kernel)⟩
theorem lw_p38 : lw_okq (⟨"BreadOvensModel", "worthOf", "(I)J"⟩, 39) := ⟨⟨by decide +kernel, by decide +kernel⟩, List.mem_of_getElem? (i := 758) (by decide +kernel), List.mem_of_getElem? (i := 1093) (by decide +kernel), List.mem_of_getElem? (i := 1094) (by decide +kernel)⟩
theorem lw_p39 : lw_okq (⟨"BreadOvensModel", "boundNow", "()J"⟩, 39) := ⟨⟨by decide +kernel, by decide +kernel⟩, List.mem_of_getElem? (i := 758) (by decide +kernel), List.mem_of_getElem? (i := 1101) (by decide +kernel), List.mem_of_getElem? (i := 1102) (by decide +kernel)⟩
theorem lw_p40 : lw_okq (⟨"BreadOvensModel", "findRichest", "()V"⟩, 39) := ⟨⟨by decide +kernel, by decide +kernel⟩, List.mem_of_getElem? (i := 758) (by decide +kernel), List.mem_of_getElem? (i := 1105) (by decide +kernel), List.mem_of_getElem? (i := 1106) (by decide +kernel)⟩
def lw_privs_3 : List (MethodName × Nat) := [(⟨"BreadOvensModel", "find", "(II)V"⟩, 39), (⟨"BreadOvensModel", "findNearest", "()V"⟩, 39), (⟨"BreadOvensModel", "shrines", "()I"⟩, 39), (⟨"BreadOvensModel", "begins", "(I)V"⟩, 39), (⟨"BreadOvensModel", "isLess", "(I)Z"⟩, 39), (⟨"BreadOvensModel", "given", "(II)J"⟩, 39), (⟨"BreadOvensModel", "worthOf", "(I)J"⟩, 39), (⟨"BreadOvensModel", "boundNow", "()J"⟩, 39), (⟨"BreadOvensModel", "findRichest", "()V"⟩, 39)]
theorem lw_r3 : ∀ q ∈ lw_privs_3, lw_okq q := List.forall_mem_cons.mpr ⟨lw_p32, List.forall_mem_cons.mpr ⟨lw_p33, List.forall_mem_cons.mpr ⟨lw_p34, List.forall_mem_cons.mpr ⟨lw_p35, List.forall_mem_cons.mpr ⟨lw_p36, List.forall_mem_cons.mpr ⟨lw_p37, List.forall_mem_cons.mpr ⟨lw_p38, List.forall_mem_cons.mpr ⟨lw_p39, List.forall_mem_cons.mpr ⟨lw_p40, fun _ h => absurd h List.not_mem_nil⟩⟩⟩⟩⟩⟩⟩⟩⟩
def lw_privs : List (MethodName × Nat) := lw_privs_1 ++ (lw_privs_2 ++ (lw_privs_3))
def lw_tbl : List Cond := k2_sels lw_privs ++ tables_1
theorem lw_privs_ok : ∀ q ∈ lw_privs, lw_okq q := by
  show ∀ q ∈ lw_privs_1 ++ (lw_privs_2 ++ (lw_privs_3)), lw_okq q
  exact List.forall_mem_append.mpr ⟨lw_r1, List.forall_mem_append.mpr ⟨lw_r2, lw_r3⟩⟩
def RX0 : String := "BreadOvens$Builder"
def TX0 : u_T := fun k => match k with
  | 0 => ("BreadOvens$Builder", "ovens", "LBreadOvens$Ovens;", true)
  | 1 => ("BreadOvens$Builder", "steps", "I", false)
  | 2 => ("BreadOvens$Builder", "found", "I", false)
  | _ => ("BreadOvens$Builder", "foundMeasure", "J", false)
def tyX0 : Nat → FieldType := fun k => match k with
  | 0 => .object "BreadOvens$Ovens"
  | 1 => .int
  | 2 => .int
  | _ => .long
abbrev wsX00 : List Cond := u_ws RX0 TX0 4
theorem nmX0 : ∀ a, a < 4 → ∀ b, b < 4 → a ≠ b → (TX0 a).2.1 ≠ (TX0 b).2.1 := by decide +kernel
theorem tyX0_ok : ∀ k, k < 4 → parseFieldDescriptor (TX0 k).2.2.1 = some (tyX0 k) := by decide +kernel
abbrev cX0_init : ByteArray := prog_2_method_1_code
def yX0_init : MethodName := ⟨RX0, "<init>", "(LBreadOvens$Ovens;)V"⟩
abbrev cX0_putUp : ByteArray := prog_2_method_2_code
def yX0_putUp : MethodName := ⟨RX0, "putUp", "()I"⟩
abbrev cX0_improve : ByteArray := prog_2_method_3_code
def yX0_improve : MethodName := ⟨RX0, "improve", "(I)I"⟩
abbrev cX0_withOneMore : ByteArray := prog_2_method_4_code
def yX0_withOneMore : MethodName := ⟨RX0, "withOneMore", "(I)I"⟩
abbrev cX0_withOneForAnother : ByteArray := prog_2_method_5_code
def yX0_withOneForAnother : MethodName := ⟨RX0, "withOneForAnother", "(I)I"⟩
abbrev cX0_startFrom : ByteArray := prog_2_method_6_code
def yX0_startFrom : MethodName := ⟨RX0, "startFrom", "(I)V"⟩
abbrev cX0_consider : ByteArray := prog_2_method_7_code
def yX0_consider : MethodName := ⟨RX0, "consider", "(I)V"⟩
def RX1 : String := "BreadOvens$Chart"
def TX1 : u_T := fun k => match k with
  | 0 => ("BreadOvens$Chart", "lane", "I", false)
  | 1 => ("BreadOvens$Chart", "size", "I", false)
  | _ => ("BreadOvens$Chart", "cells", "[J", true)
def tyX1 : Nat → FieldType := fun k => match k with
  | 0 => .int
  | 1 => .int
  | _ => .array .long
abbrev wsX10 : List Cond := u_ws RX1 TX1 3
theorem nmX1 : ∀ a, a < 3 → ∀ b, b < 3 → a ≠ b → (TX1 a).2.1 ≠ (TX1 b).2.1 := by decide +kernel
theorem tyX1_ok : ∀ k, k < 3 → parseFieldDescriptor (TX1 k).2.2.1 = some (tyX1 k) := by decide +kernel
abbrev cX1_init : ByteArray := prog_3_method_1_code
def yX1_init : MethodName := ⟨RX1, "<init>", "()V"⟩
abbrev cX1_renew : ByteArray := prog_3_method_2_code
def yX1_renew : MethodName := ⟨RX1, "renew", "(II)V"⟩
abbrev cX1_write : ByteArray := prog_3_method_3_code
def yX1_write : MethodName := ⟨RX1, "write", "(IJ)V"⟩
abbrev cX1_holdsRoad : ByteArray := prog_3_method_4_code
def yX1_holdsRoad : MethodName := ⟨RX1, "holdsRoad", "(I)Z"⟩
def RX2 : String := "BreadOvens$Diary"
def TX2 : u_T := fun k => match k with
  | 0 => ("BreadOvens$Diary", "pages", "[LBreadOvens$Valley;", true)
  | 1 => ("BreadOvens$Diary", "next", "I", false)
  | _ => ("BreadOvens$Diary", "kept", "I", false)
def tyX2 : Nat → FieldType := fun k => match k with
  | 0 => .array (.object "BreadOvens$Valley")
  | 1 => .int
  | _ => .int
abbrev wsX20 : List Cond := u_ws RX2 TX2 3
theorem nmX2 : ∀ a, a < 3 → ∀ b, b < 3 → a ≠ b → (TX2 a).2.1 ≠ (TX2 b).2.1 := by decide +kernel
theorem tyX2_ok : ∀ k, k < 3 → parseFieldDescriptor (TX2 k).2.2.1 = some (tyX2 k) := by decide +kernel
abbrev cX2_init : ByteArray := prog_4_method_1_code
def yX2_init : MethodName := ⟨RX2, "<init>", "()V"⟩
abbrev cX2_open : ByteArray := prog_4_method_2_code
def yX2_open : MethodName := ⟨RX2, "open", "(LBreadOvens$Valley;)V"⟩
abbrev cX2_close : ByteArray := prog_4_method_3_code
def yX2_close : MethodName := ⟨RX2, "close", "(LBreadOvens$Valley;)Z"⟩
abbrev cX2_turnBack : ByteArray := prog_4_method_4_code
def yX2_turnBack : MethodName := ⟨RX2, "turnBack", "(LBreadOvens$Valley;)V"⟩
def RX3 : String := "BreadOvens$Ovens"
def TX3 : u_T := fun k => match k with
  | 0 => ("BreadOvens$Ovens", "valley", "LBreadOvens$Valley;", true)
  | 1 => ("BreadOvens$Ovens", "carried", "[I", true)
  | 2 => ("BreadOvens$Ovens", "shrines", "I", false)
  | _ => ("BreadOvens$Ovens", "bigs", "I", false)
def tyX3 : Nat → FieldType := fun k => match k with
  | 0 => .object "BreadOvens$Valley"
  | 1 => .array .int
  | 2 => .int
  | _ => .int
abbrev wsX30 : List Cond := u_ws RX3 TX3 4
theorem nmX3 : ∀ a, a < 4 → ∀ b, b < 4 → a ≠ b → (TX3 a).2.1 ≠ (TX3 b).2.1 := by decide +kernel
theorem tyX3_ok : ∀ k, k < 4 → parseFieldDescriptor (TX3 k).2.2.1 = some (tyX3 k) := by decide +kernel
abbrev cX3_init : ByteArray := prog_5_method_1_code
def yX3_init : MethodName := ⟨RX3, "<init>", "(LBreadOvens$Valley;)V"⟩
abbrev cX3_carry : ByteArray := prog_5_method_2_code
def yX3_carry : MethodName := ⟨RX3, "carry", "(LBreadOvens$Ways;)V"⟩
abbrev cX3_carriedOver : ByteArray := prog_5_method_3_code
def yX3_carriedOver : MethodName := ⟨RX3, "carriedOver", "(II)I"⟩
abbrev cX3_carriedTo : ByteArray := prog_5_method_4_code
def yX3_carriedTo : MethodName := ⟨RX3, "carriedTo", "(II)I"⟩
abbrev cX3_isChoice : ByteArray := prog_5_method_5_code
def yX3_isChoice : MethodName := ⟨RX3, "isChoice", "(I)Z"⟩
abbrev cX3_mayStand : ByteArray := prog_5_method_6_code
def yX3_mayStand : MethodName := ⟨RX3, "mayStand", "(I)Z"⟩
abbrev cX3_ovenFor : ByteArray := prog_5_method_7_code
def yX3_ovenFor : MethodName := ⟨RX3, "ovenFor", "(II)I"⟩
abbrev cX3_measureOf : ByteArray := prog_5_method_8_code
def yX3_measureOf : MethodName := ⟨RX3, "measureOf", "(I)J"⟩
abbrev cX3_feeds : ByteArray := prog_5_method_9_code
def yX3_feeds : MethodName := ⟨RX3, "feeds", "(III)Z"⟩
abbrev cX3_villagesOf : ByteArray := prog_5_method_10_code
def yX3_villagesOf : MethodName := ⟨RX3, "villagesOf", "(II)I"⟩
abbrev cX3_loavesOf : ByteArray := prog_5_method_11_code
def yX3_loavesOf : MethodName := ⟨RX3, "loavesOf", "(II)I"⟩
abbrev cX3_farthestOf : ByteArray := prog_5_method_12_code
def yX3_farthestOf : MethodName := ⟨RX3, "farthestOf", "(II)I"⟩
abbrev cX3_farthestOfAll : ByteArray := prog_5_method_13_code
def yX3_farthestOfAll : MethodName := ⟨RX3, "farthestOfAll", "(I)I"⟩
def RX4 : String := "BreadOvens$Purse"
def TX4 : u_T := fun k => match k with
  | 0 => ("BreadOvens$Purse", "valley", "LBreadOvens$Valley;", true)
  | 1 => ("BreadOvens$Purse", "ovens", "LBreadOvens$Ovens;", true)
  | 2 => ("BreadOvens$Purse", "prices", "[J", true)
  | 3 => ("BreadOvens$Purse", "worths", "[J", true)
  | 4 => ("BreadOvens$Purse", "topChoice", "I", false)
  | _ => ("BreadOvens$Purse", "highestBound", "J", false)
def tyX4 : Nat → FieldType := fun k => match k with
  | 0 => .object "BreadOvens$Valley"
  | 1 => .object "BreadOvens$Ovens"
  | 2 => .array .long
  | 3 => .array .long
  | 4 => .int
  | _ => .long
abbrev wsX40 : List Cond := u_ws RX4 TX4 6
theorem nmX4 : ∀ a, a < 6 → ∀ b, b < 6 → a ≠ b → (TX4 a).2.1 ≠ (TX4 b).2.1 := by decide +kernel
theorem tyX4_ok : ∀ k, k < 6 → parseFieldDescriptor (TX4 k).2.2.1 = some (tyX4 k) := by decide +kernel
abbrev cX4_init : ByteArray := prog_6_method_1_code
def yX4_init : MethodName := ⟨RX4, "<init>", "(LBreadOvens$Valley;LBreadOvens$Ovens;)V"⟩
abbrev cX4_forgetFrom : ByteArray := prog_6_method_2_code
def yX4_forgetFrom : MethodName := ⟨RX4, "forgetFrom", "(I)V"⟩
abbrev cX4_giftOf : ByteArray := prog_6_method_3_code
def yX4_giftOf : MethodName := ⟨RX4, "giftOf", "(II)J"⟩
abbrev cX4_worthOf : ByteArray := prog_6_method_4_code
def yX4_worthOf : MethodName := ⟨RX4, "worthOf", "(I)J"⟩
abbrev cX4_findTop : ByteArray := prog_6_method_5_code
def yX4_findTop : MethodName := ⟨RX4, "findTop", "()V"⟩
abbrev cX4_addUpWorths : ByteArray := prog_6_method_6_code
def yX4_addUpWorths : MethodName := ⟨RX4, "addUpWorths", "()V"⟩
abbrev cX4_boundOfTop : ByteArray := prog_6_method_7_code
def yX4_boundOfTop : MethodName := ⟨RX4, "boundOfTop", "()J"⟩
abbrev cX4_climbFromTop : ByteArray := prog_6_method_8_code
def yX4_climbFromTop : MethodName := ⟨RX4, "climbFromTop", "(II)I"⟩
abbrev cX4_movePrices : ByteArray := prog_6_method_9_code
def yX4_movePrices : MethodName := ⟨RX4, "movePrices", "(I)I"⟩
abbrev cX4_movedPrice : ByteArray := prog_6_method_10_code
def yX4_movedPrice : MethodName := ⟨RX4, "movedPrice", "(JII)J"⟩
abbrev cX4_giversOfTop : ByteArray := prog_6_method_11_code
def yX4_giversOfTop : MethodName := ⟨RX4, "giversOfTop", "(I)I"⟩
def RX5 : String := "BreadOvens$Survey"
def TX5 : u_T := fun k => match k with
  | 0 => ("BreadOvens$Survey", "leastCost", "J", false)
  | 1 => ("BreadOvens$Survey", "bestChoice", "I", false)
  | 2 => ("BreadOvens$Survey", "howMany", "I", false)
  | 3 => ("BreadOvens$Survey", "inAll", "I", false)
  | 4 => ("BreadOvens$Survey", "inSome", "I", false)
  | 5 => ("BreadOvens$Survey", "nextCost", "J", false)
  | 6 => ("BreadOvens$Survey", "nextChoice", "I", false)
  | 7 => ("BreadOvens$Survey", "leastFar", "I", false)
  | 8 => ("BreadOvens$Survey", "nearChoice", "I", false)
  | _ => ("BreadOvens$Survey", "costWithout", "[J", true)
def tyX5 : Nat → FieldType := fun k => match k with
  | 0 => .long
  | 1 => .int
  | 2 => .int
  | 3 => .int
  | 4 => .int
  | 5 => .long
  | 6 => .int
  | 7 => .int
  | 8 => .int
  | _ => .array .long
abbrev wsX50 : List Cond := u_ws RX5 TX5 10
theorem nmX5 : ∀ a, a < 10 → ∀ b, b < 10 → a ≠ b → (TX5 a).2.1 ≠ (TX5 b).2.1 := by decide +kernel
theorem tyX5_ok : ∀ k, k < 10 → parseFieldDescriptor (TX5 k).2.2.1 = some (tyX5 k) := by decide +kernel
abbrev cX5_init : ByteArray := prog_7_method_1_code
def yX5_init : MethodName := ⟨RX5, "<init>", "()V"⟩
abbrev cX5_take : ByteArray := prog_7_method_2_code
def yX5_take : MethodName := ⟨RX5, "take", "(LBreadOvens$Ovens;)V"⟩
abbrev cX5_forget : ByteArray := prog_7_method_3_code
def yX5_forget : MethodName := ⟨RX5, "forget", "()V"⟩
abbrev cX5_noteCost : ByteArray := prog_7_method_4_code
def yX5_noteCost : MethodName := ⟨RX5, "noteCost", "(IJ)V"⟩
abbrev cX5_noteLosses : ByteArray := prog_7_method_5_code
def yX5_noteLosses : MethodName := ⟨RX5, "noteLosses", "(IJ)V"⟩
abbrev cX5_noteFar : ByteArray := prog_7_method_6_code
def yX5_noteFar : MethodName := ⟨RX5, "noteFar", "(II)V"⟩
abbrev cX5_dearestLoss : ByteArray := prog_7_method_7_code
def yX5_dearestLoss : MethodName := ⟨RX5, "dearestLoss", "(LBreadOvens$Valley;)I"⟩
def RX6 : String := "BreadOvens$Valley"
def TX6 : u_T := fun k => match k with
  | 0 => ("BreadOvens$Valley", "villages", "I", false)
  | 1 => ("BreadOvens$Valley", "places", "I", false)
  | 2 => ("BreadOvens$Valley", "number", "I", false)
  | 3 => ("BreadOvens$Valley", "loaves", "[I", true)
  | 4 => ("BreadOvens$Valley", "lengths", "[I", true)
  | 5 => ("BreadOvens$Valley", "homes", "[I", true)
  | 6 => ("BreadOvens$Valley", "kinds", "[I", true)
  | 7 => ("BreadOvens$Valley", "builds", "[I", true)
  | _ => ("BreadOvens$Valley", "reaches", "[I", true)
def tyX6 : Nat → FieldType := fun k => match k with
  | 0 => .int
  | 1 => .int
  | 2 => .int
  | 3 => .array .int
  | 4 => .array .int
  | 5 => .array .int
  | 6 => .array .int
  | 7 => .array .int
  | _ => .array .int
abbrev wsX60 : List Cond := u_ws RX6 TX6 9
theorem nmX6 : ∀ a, a < 9 → ∀ b, b < 9 → a ≠ b → (TX6 a).2.1 ≠ (TX6 b).2.1 := by decide +kernel
theorem tyX6_ok : ∀ k, k < 9 → parseFieldDescriptor (TX6 k).2.2.1 = some (tyX6 k) := by decide +kernel
abbrev cX6_init : ByteArray := prog_8_method_1_code
def yX6_init : MethodName := ⟨RX6, "<init>", "()V"⟩
abbrev cX6_hasVillage : ByteArray := prog_8_method_2_code
def yX6_hasVillage : MethodName := ⟨RX6, "hasVillage", "(J)Z"⟩
abbrev cX6_hasPlace : ByteArray := prog_8_method_3_code
def yX6_hasPlace : MethodName := ⟨RX6, "hasPlace", "(I)Z"⟩
abbrev cX6_takesRoad : ByteArray := prog_8_method_4_code
def yX6_takesRoad : MethodName := ⟨RX6, "takesRoad", "(JJJ)Z"⟩
abbrev cX6_settle : ByteArray := prog_8_method_5_code
def yX6_settle : MethodName := ⟨RX6, "settle", "(I)I"⟩
abbrev cX6_stake : ByteArray := prog_8_method_6_code
def yX6_stake : MethodName := ⟨RX6, "stake", "(III)I"⟩
abbrev cX6_lengthOf : ByteArray := prog_8_method_7_code
def yX6_lengthOf : MethodName := ⟨RX6, "lengthOf", "(II)I"⟩
abbrev cX6_pave : ByteArray := prog_8_method_8_code
def yX6_pave : MethodName := ⟨RX6, "pave", "(III)V"⟩
abbrev cX6_roads : ByteArray := prog_8_method_9_code
def yX6_roads : MethodName := ⟨RX6, "roads", "()I"⟩
abbrev cX6_allLoaves : ByteArray := prog_8_method_10_code
def yX6_allLoaves : MethodName := ⟨RX6, "allLoaves", "()I"⟩
abbrev cX6_placesOfKind : ByteArray := prog_8_method_11_code
def yX6_placesOfKind : MethodName := ⟨RX6, "placesOfKind", "(I)I"⟩
abbrev cX6_ovenCost : ByteArray := prog_8_method_12_code
def yX6_ovenCost : MethodName := ⟨RX6, "ovenCost", "(I)I"⟩
abbrev cX6_copyFrom : ByteArray := prog_8_method_13_code
def yX6_copyFrom : MethodName := ⟨RX6, "copyFrom", "(LBreadOvens$Valley;)V"⟩
abbrev cX6_isLike : ByteArray := prog_8_method_14_code
def yX6_isLike : MethodName := ⟨RX6, "isLike", "(LBreadOvens$Valley;)Z"⟩
abbrev cX6_sameRows : ByteArray := prog_8_method_15_code
def yX6_sameRows : MethodName := ⟨RX6, "sameRows", "([I[I)Z"⟩
def RX7 : String := "BreadOvens$Ways"
def TX7 : u_T := fun k => match k with
  | _ => ("BreadOvens$Ways", "sums", "[I", true)
def tyX7 : Nat → FieldType := fun k => match k with
  | _ => .array .int
abbrev wsX70 : List Cond := u_ws RX7 TX7 1
theorem nmX7 : ∀ a, a < 1 → ∀ b, b < 1 → a ≠ b → (TX7 a).2.1 ≠ (TX7 b).2.1 := by decide +kernel
theorem tyX7_ok : ∀ k, k < 1 → parseFieldDescriptor (TX7 k).2.2.1 = some (tyX7 k) := by decide +kernel
abbrev cX7_init : ByteArray := prog_9_method_1_code
def yX7_init : MethodName := ⟨RX7, "<init>", "()V"⟩
abbrev cX7_between : ByteArray := prog_9_method_2_code
def yX7_between : MethodName := ⟨RX7, "between", "(II)I"⟩
abbrev cX7_measure : ByteArray := prog_9_method_3_code
def yX7_measure : MethodName := ⟨RX7, "measure", "(LBreadOvens$Valley;)V"⟩
abbrev cX7_takeRoads : ByteArray := prog_9_method_4_code
def yX7_takeRoads : MethodName := ⟨RX7, "takeRoads", "(LBreadOvens$Valley;)V"⟩
abbrev cX7_shorten : ByteArray := prog_9_method_5_code
def yX7_shorten : MethodName := ⟨RX7, "shorten", "(III)V"⟩
abbrev cX7_villageAt : ByteArray := prog_9_method_6_code
def yX7_villageAt : MethodName := ⟨RX7, "villageAt", "(LBreadOvens$Valley;III)I"⟩
abbrev cX7_nextOf : ByteArray := prog_9_method_7_code
def yX7_nextOf : MethodName := ⟨RX7, "nextOf", "(LBreadOvens$Valley;II)I"⟩
def RX8 : String := "BreadOvens"
def TX8 : u_T := fun k => match k with
  | 0 => ("BreadOvens", "valley", "LBreadOvens$Valley;", true)
  | 1 => ("BreadOvens", "diary", "LBreadOvens$Diary;", true)
  | 2 => ("BreadOvens", "charts", "[LBreadOvens$Chart;", true)
  | 3 => ("BreadOvens", "ways", "LBreadOvens$Ways;", true)
  | 4 => ("BreadOvens", "ovens", "LBreadOvens$Ovens;", true)
  | 5 => ("BreadOvens", "survey", "LBreadOvens$Survey;", true)
  | 6 => ("BreadOvens", "builder", "LBreadOvens$Builder;", true)
  | 7 => ("BreadOvens", "purse", "LBreadOvens$Purse;", true)
  | _ => ("BreadOvens", "surveyed", "Z", false)
def tyX8 : Nat → FieldType := fun k => match k with
  | 0 => .object "BreadOvens$Valley"
  | 1 => .object "BreadOvens$Diary"
  | 2 => .array (.object "BreadOvens$Chart")
  | 3 => .object "BreadOvens$Ways"
  | 4 => .object "BreadOvens$Ovens"
  | 5 => .object "BreadOvens$Survey"
  | 6 => .object "BreadOvens$Builder"
  | 7 => .object "BreadOvens$Purse"
  | _ => .boolean
abbrev wsX80 : List Cond := u_ws RX8 TX8 9
theorem nmX8 : ∀ a, a < 9 → ∀ b, b < 9 → a ≠ b → (TX8 a).2.1 ≠ (TX8 b).2.1 := by decide +kernel
theorem tyX8_ok : ∀ k, k < 9 → parseFieldDescriptor (TX8 k).2.2.1 = some (tyX8 k) := by decide +kernel
abbrev cX8_init : ByteArray := prog_1_method_1_code
def yX8_init : MethodName := ⟨RX8, "<init>", "()V"⟩
abbrev cX8_village : ByteArray := prog_1_method_2_code
def yX8_village : MethodName := ⟨RX8, "village", "(I)I"⟩
abbrev cX8_loaves : ByteArray := prog_1_method_3_code
def yX8_loaves : MethodName := ⟨RX8, "loaves", "(II)I"⟩
abbrev cX8_road : ByteArray := prog_1_method_4_code
def yX8_road : MethodName := ⟨RX8, "road", "(III)I"⟩
abbrev cX8_place : ByteArray := prog_1_method_5_code
def yX8_place : MethodName := ⟨RX8, "place", "(III)I"⟩
abbrev cX8_reach : ByteArray := prog_1_method_6_code
def yX8_reach : MethodName := ⟨RX8, "reach", "(II)I"⟩
abbrev cX8_number : ByteArray := prog_1_method_7_code
def yX8_number : MethodName := ⟨RX8, "number", "(I)I"⟩
abbrev cX8_map : ByteArray := prog_1_method_8_code
def yX8_map : MethodName := ⟨RX8, "map", "(III)I"⟩
abbrev cX8_lay : ByteArray := prog_1_method_9_code
def yX8_lay : MethodName := ⟨RX8, "lay", "(IIJ)I"⟩
abbrev cX8_draw : ByteArray := prog_1_method_10_code
def yX8_draw : MethodName := ⟨RX8, "draw", "(III)I"⟩
abbrev cX8_apart : ByteArray := prog_1_method_11_code
def yX8_apart : MethodName := ⟨RX8, "apart", "(II)I"⟩
abbrev cX8_way : ByteArray := prog_1_method_12_code
def yX8_way : MethodName := ⟨RX8, "way", "(III)I"⟩
abbrev cX8_allowed : ByteArray := prog_1_method_13_code
def yX8_allowed : MethodName := ⟨RX8, "allowed", "(I)I"⟩
abbrev cX8_cost : ByteArray := prog_1_method_14_code
def yX8_cost : MethodName := ⟨RX8, "cost", "(I)J"⟩
abbrev cX8_served : ByteArray := prog_1_method_15_code
def yX8_served : MethodName := ⟨RX8, "served", "(II)I"⟩
abbrev cX8_share : ByteArray := prog_1_method_16_code
def yX8_share : MethodName := ⟨RX8, "share", "(III)I"⟩
abbrev cX8_least : ByteArray := prog_1_method_17_code
def yX8_least : MethodName := ⟨RX8, "least", "()J"⟩
abbrev cX8_best : ByteArray := prog_1_method_18_code
def yX8_best : MethodName := ⟨RX8, "best", "()I"⟩
abbrev cX8_many : ByteArray := prog_1_method_19_code
def yX8_many : MethodName := ⟨RX8, "many", "()I"⟩
abbrev cX8_every : ByteArray := prog_1_method_20_code
def yX8_every : MethodName := ⟨RX8, "every", "(I)I"⟩
abbrev cX8_second : ByteArray := prog_1_method_21_code
def yX8_second : MethodName := ⟨RX8, "second", "(I)I"⟩
abbrev cX8_lose : ByteArray := prog_1_method_22_code
def yX8_lose : MethodName := ⟨RX8, "lose", "(I)J"⟩
abbrev cX8_worst : ByteArray := prog_1_method_23_code
def yX8_worst : MethodName := ⟨RX8, "worst", "()I"⟩
abbrev cX8_farthest : ByteArray := prog_1_method_24_code
def yX8_farthest : MethodName := ⟨RX8, "farthest", "()I"⟩
abbrev cX8_nearest : ByteArray := prog_1_method_25_code
def yX8_nearest : MethodName := ⟨RX8, "nearest", "()I"⟩
abbrev cX8_added : ByteArray := prog_1_method_26_code
def yX8_added : MethodName := ⟨RX8, "added", "()I"⟩
abbrev cX8_changed : ByteArray := prog_1_method_27_code
def yX8_changed : MethodName := ⟨RX8, "changed", "(I)I"⟩
abbrev cX8_moves : ByteArray := prog_1_method_28_code
def yX8_moves : MethodName := ⟨RX8, "moves", "()I"⟩
abbrev cX8_price : ByteArray := prog_1_method_29_code
def yX8_price : MethodName := ⟨RX8, "price", "(II)I"⟩
abbrev cX8_priced : ByteArray := prog_1_method_30_code
def yX8_priced : MethodName := ⟨RX8, "priced", "(I)J"⟩
abbrev cX8_gives : ByteArray := prog_1_method_31_code
def yX8_gives : MethodName := ⟨RX8, "gives", "(II)J"⟩
abbrev cX8_worth : ByteArray := prog_1_method_32_code
def yX8_worth : MethodName := ⟨RX8, "worth", "(I)J"⟩
abbrev cX8_bound : ByteArray := prog_1_method_33_code
def yX8_bound : MethodName := ⟨RX8, "bound", "()J"⟩
abbrev cX8_climb : ByteArray := prog_1_method_34_code
def yX8_climb : MethodName := ⟨RX8, "climb", "(II)I"⟩
abbrev cX8_highest : ByteArray := prog_1_method_35_code
def yX8_highest : MethodName := ⟨RX8, "highest", "()J"⟩
abbrev cX8_undo : ByteArray := prog_1_method_36_code
def yX8_undo : MethodName := ⟨RX8, "undo", "()I"⟩
abbrev cX8_count : ByteArray := prog_1_method_37_code
def yX8_count : MethodName := ⟨RX8, "count", "(I)I"⟩
abbrev cX8_isWithin : ByteArray := prog_1_method_38_code
def yX8_isWithin : MethodName := ⟨RX8, "isWithin", "(JJJ)Z"⟩
abbrev cX8_isMap : ByteArray := prog_1_method_39_code
def yX8_isMap : MethodName := ⟨RX8, "isMap", "(I)Z"⟩
abbrev cX8_isLane : ByteArray := prog_1_method_40_code
def yX8_isLane : MethodName := ⟨RX8, "isLane", "(I)Z"⟩
abbrev cX8_isIn : ByteArray := prog_1_method_41_code
def yX8_isIn : MethodName := ⟨RX8, "isIn", "(II)Z"⟩
abbrev cX8_keepChange : ByteArray := prog_1_method_42_code
def yX8_keepChange : MethodName := ⟨RX8, "keepChange", "()V"⟩
abbrev cX8_workOut : ByteArray := prog_1_method_43_code
def yX8_workOut : MethodName := ⟨RX8, "workOut", "()V"⟩
abbrev cX8_surveyChoices : ByteArray := prog_1_method_44_code
def yX8_surveyChoices : MethodName := ⟨RX8, "surveyChoices", "()V"⟩
abbrev cX8_refusalToDraw : ByteArray := prog_1_method_45_code
def yX8_refusalToDraw : MethodName := ⟨RX8, "refusalToDraw", "(LBreadOvens$Chart;II)I"⟩
abbrev cX8_paveFrom : ByteArray := prog_1_method_46_code
def yX8_paveFrom : MethodName := ⟨RX8, "paveFrom", "(LBreadOvens$Chart;I)V"⟩
def RX9 : String := "BreadOvensModel"
def TX9 : u_T := fun k => match k with
  | 0 => ("BreadOvensModel", "villages", "I", false)
  | 1 => ("BreadOvensModel", "bread", "[I", true)
  | 2 => ("BreadOvensModel", "prices", "[J", true)
  | 3 => ("BreadOvensModel", "roads", "[I", true)
  | 4 => ("BreadOvensModel", "places", "I", false)
  | 5 => ("BreadOvensModel", "at", "[I", true)
  | 6 => ("BreadOvensModel", "kinds", "[I", true)
  | 7 => ("BreadOvensModel", "builds", "[I", true)
  | 8 => ("BreadOvensModel", "reaches", "[I", true)
  | 9 => ("BreadOvensModel", "most", "I", false)
  | 10 => ("BreadOvensModel", "lanes", "[I", true)
  | 11 => ("BreadOvensModel", "sizes", "[I", true)
  | 12 => ("BreadOvensModel", "cells", "[J", true)
  | 13 => ("BreadOvensModel", "kept", "I", false)
  | 14 => ("BreadOvensModel", "oVillages", "[I", true)
  | 15 => ("BreadOvensModel", "oBread", "[I", true)
  | 16 => ("BreadOvensModel", "oRoads", "[I", true)
  | 17 => ("BreadOvensModel", "oPlaces", "[I", true)
  | 18 => ("BreadOvensModel", "oReaches", "[I", true)
  | 19 => ("BreadOvensModel", "oMost", "[I", true)
  | 20 => ("BreadOvensModel", "drafted", "[I", true)
  | 21 => ("BreadOvensModel", "ways", "[I", true)
  | 22 => ("BreadOvensModel", "unserved", "I", false)
  | 23 => ("BreadOvensModel", "costs", "J", false)
  | 24 => ("BreadOvensModel", "far", "I", false)
  | 25 => ("BreadOvensModel", "foundBest", "I", false)
  | 26 => ("BreadOvensModel", "foundLeast", "J", false)
  | 27 => ("BreadOvensModel", "foundMany", "I", false)
  | 28 => ("BreadOvensModel", "foundAll", "I", false)
  | 29 => ("BreadOvensModel", "foundAny", "I", false)
  | 30 => ("BreadOvensModel", "nearestOne", "I", false)
  | 31 => ("BreadOvensModel", "nearestFar", "I", false)
  | 32 => ("BreadOvensModel", "moved", "I", false)
  | 33 => ("BreadOvensModel", "leastUnserved", "I", false)
  | 34 => ("BreadOvensModel", "leastCosts", "J", false)
  | 35 => ("BreadOvensModel", "worths", "[J", true)
  | 36 => ("BreadOvensModel", "richest", "I", false)
  | 37 => ("BreadOvensModel", "riches", "J", false)
  | _ => ("BreadOvensModel", "high", "J", false)
def tyX9 : Nat → FieldType := fun k => match k with
  | 0 => .int
  | 1 => .array .int
  | 2 => .array .long
  | 3 => .array .int
  | 4 => .int
  | 5 => .array .int
  | 6 => .array .int
  | 7 => .array .int
  | 8 => .array .int
  | 9 => .int
  | 10 => .array .int
  | 11 => .array .int
  | 12 => .array .long
  | 13 => .int
  | 14 => .array .int
  | 15 => .array .int
  | 16 => .array .int
  | 17 => .array .int
  | 18 => .array .int
  | 19 => .array .int
  | 20 => .array .int
  | 21 => .array .int
  | 22 => .int
  | 23 => .long
  | 24 => .int
  | 25 => .int
  | 26 => .long
  | 27 => .int
  | 28 => .int
  | 29 => .int
  | 30 => .int
  | 31 => .int
  | 32 => .int
  | 33 => .int
  | 34 => .long
  | 35 => .array .long
  | 36 => .int
  | 37 => .long
  | _ => .long
abbrev wsX90 : List Cond := u_ws RX9 TX9 39
theorem nmX9 : ∀ a, a < 39 → ∀ b, b < 39 → a ≠ b → (TX9 a).2.1 ≠ (TX9 b).2.1 := by decide +kernel
theorem tyX9_ok : ∀ k, k < 39 → parseFieldDescriptor (TX9 k).2.2.1 = some (tyX9 k) := by decide +kernel
abbrev cX9_init : ByteArray := prog_11_method_1_code
def yX9_init : MethodName := ⟨RX9, "<init>", "()V"⟩
abbrev cX9_in : ByteArray := prog_11_method_3_code
def yX9_in : MethodName := ⟨RX9, "in", "(JJJ)Z"⟩
abbrev cX9_keep : ByteArray := prog_11_method_4_code
def yX9_keep : MethodName := ⟨RX9, "keep", "()V"⟩
abbrev cX9_undo : ByteArray := prog_11_method_5_code
def yX9_undo : MethodName := ⟨RX9, "undo", "()I"⟩
abbrev cX9_isVillage : ByteArray := prog_11_method_6_code
def yX9_isVillage : MethodName := ⟨RX9, "isVillage", "(I)Z"⟩
abbrev cX9_isPlace : ByteArray := prog_11_method_7_code
def yX9_isPlace : MethodName := ⟨RX9, "isPlace", "(I)Z"⟩
abbrev cX9_village : ByteArray := prog_11_method_8_code
def yX9_village : MethodName := ⟨RX9, "village", "(I)I"⟩
abbrev cX9_loaves : ByteArray := prog_11_method_9_code
def yX9_loaves : MethodName := ⟨RX9, "loaves", "(II)I"⟩
abbrev cX9_isRoad : ByteArray := prog_11_method_10_code
def yX9_isRoad : MethodName := ⟨RX9, "isRoad", "(JJJ)Z"⟩
abbrev cX9_road : ByteArray := prog_11_method_11_code
def yX9_road : MethodName := ⟨RX9, "road", "(III)I"⟩
abbrev cX9_place : ByteArray := prog_11_method_12_code
def yX9_place : MethodName := ⟨RX9, "place", "(III)I"⟩
abbrev cX9_reach : ByteArray := prog_11_method_13_code
def yX9_reach : MethodName := ⟨RX9, "reach", "(II)I"⟩
abbrev cX9_number : ByteArray := prog_11_method_14_code
def yX9_number : MethodName := ⟨RX9, "number", "(I)I"⟩
abbrev cX9_map : ByteArray := prog_11_method_15_code
def yX9_map : MethodName := ⟨RX9, "map", "(III)I"⟩
abbrev cX9_lay : ByteArray := prog_11_method_16_code
def yX9_lay : MethodName := ⟨RX9, "lay", "(IIJ)I"⟩
abbrev cX9_draw : ByteArray := prog_11_method_17_code
def yX9_draw : MethodName := ⟨RX9, "draw", "(III)I"⟩
abbrev cX9_findWays : ByteArray := prog_11_method_18_code
def yX9_findWays : MethodName := ⟨RX9, "findWays", "()V"⟩
abbrev cX9_apart : ByteArray := prog_11_method_19_code
def yX9_apart : MethodName := ⟨RX9, "apart", "(II)I"⟩
abbrev cX9_way : ByteArray := prog_11_method_20_code
def yX9_way : MethodName := ⟨RX9, "way", "(III)I"⟩
abbrev cX9_carried : ByteArray := prog_11_method_21_code
def yX9_carried : MethodName := ⟨RX9, "carried", "(II)I"⟩
abbrev cX9_ovenCost : ByteArray := prog_11_method_22_code
def yX9_ovenCost : MethodName := ⟨RX9, "ovenCost", "(I)I"⟩
abbrev cX9_isChoice : ByteArray := prog_11_method_23_code
def yX9_isChoice : MethodName := ⟨RX9, "isChoice", "(I)Z"⟩
abbrev cX9_isAllowed : ByteArray := prog_11_method_24_code
def yX9_isAllowed : MethodName := ⟨RX9, "isAllowed", "(I)Z"⟩
abbrev cX9_servedBy : ByteArray := prog_11_method_25_code
def yX9_servedBy : MethodName := ⟨RX9, "servedBy", "(II)I"⟩
abbrev cX9_weigh : ByteArray := prog_11_method_26_code
def yX9_weigh : MethodName := ⟨RX9, "weigh", "(I)V"⟩
abbrev cX9_allowed : ByteArray := prog_11_method_27_code
def yX9_allowed : MethodName := ⟨RX9, "allowed", "(I)I"⟩
abbrev cX9_cost : ByteArray := prog_11_method_28_code
def yX9_cost : MethodName := ⟨RX9, "cost", "(I)J"⟩
abbrev cX9_served : ByteArray := prog_11_method_29_code
def yX9_served : MethodName := ⟨RX9, "served", "(II)I"⟩
abbrev cX9_share : ByteArray := prog_11_method_30_code
def yX9_share : MethodName := ⟨RX9, "share", "(III)I"⟩
abbrev cX9_find : ByteArray := prog_11_method_31_code
def yX9_find : MethodName := ⟨RX9, "find", "(II)V"⟩
abbrev cX9_least : ByteArray := prog_11_method_32_code
def yX9_least : MethodName := ⟨RX9, "least", "()J"⟩
abbrev cX9_best : ByteArray := prog_11_method_33_code
def yX9_best : MethodName := ⟨RX9, "best", "()I"⟩
abbrev cX9_many : ByteArray := prog_11_method_34_code
def yX9_many : MethodName := ⟨RX9, "many", "()I"⟩
abbrev cX9_every : ByteArray := prog_11_method_35_code
def yX9_every : MethodName := ⟨RX9, "every", "(I)I"⟩
abbrev cX9_second : ByteArray := prog_11_method_36_code
def yX9_second : MethodName := ⟨RX9, "second", "(I)I"⟩
abbrev cX9_lose : ByteArray := prog_11_method_37_code
def yX9_lose : MethodName := ⟨RX9, "lose", "(I)J"⟩
abbrev cX9_worst : ByteArray := prog_11_method_38_code
def yX9_worst : MethodName := ⟨RX9, "worst", "()I"⟩
abbrev cX9_findNearest : ByteArray := prog_11_method_39_code
def yX9_findNearest : MethodName := ⟨RX9, "findNearest", "()V"⟩
abbrev cX9_farthest : ByteArray := prog_11_method_40_code
def yX9_farthest : MethodName := ⟨RX9, "farthest", "()I"⟩
abbrev cX9_nearest : ByteArray := prog_11_method_41_code
def yX9_nearest : MethodName := ⟨RX9, "nearest", "()I"⟩
abbrev cX9_shrines : ByteArray := prog_11_method_42_code
def yX9_shrines : MethodName := ⟨RX9, "shrines", "()I"⟩
abbrev cX9_isLess : ByteArray := prog_11_method_43_code
def yX9_isLess : MethodName := ⟨RX9, "isLess", "(I)Z"⟩
abbrev cX9_begins : ByteArray := prog_11_method_44_code
def yX9_begins : MethodName := ⟨RX9, "begins", "(I)V"⟩
abbrev cX9_added : ByteArray := prog_11_method_45_code
def yX9_added : MethodName := ⟨RX9, "added", "()I"⟩
abbrev cX9_changed : ByteArray := prog_11_method_46_code
def yX9_changed : MethodName := ⟨RX9, "changed", "(I)I"⟩
abbrev cX9_moves : ByteArray := prog_11_method_47_code
def yX9_moves : MethodName := ⟨RX9, "moves", "()I"⟩
abbrev cX9_price : ByteArray := prog_11_method_48_code
def yX9_price : MethodName := ⟨RX9, "price", "(II)I"⟩
abbrev cX9_priced : ByteArray := prog_11_method_49_code
def yX9_priced : MethodName := ⟨RX9, "priced", "(I)J"⟩
abbrev cX9_given : ByteArray := prog_11_method_50_code
def yX9_given : MethodName := ⟨RX9, "given", "(II)J"⟩
abbrev cX9_gives : ByteArray := prog_11_method_51_code
def yX9_gives : MethodName := ⟨RX9, "gives", "(II)J"⟩
abbrev cX9_worthOf : ByteArray := prog_11_method_52_code
def yX9_worthOf : MethodName := ⟨RX9, "worthOf", "(I)J"⟩
abbrev cX9_worth : ByteArray := prog_11_method_53_code
def yX9_worth : MethodName := ⟨RX9, "worth", "(I)J"⟩
abbrev cX9_findRichest : ByteArray := prog_11_method_54_code
def yX9_findRichest : MethodName := ⟨RX9, "findRichest", "()V"⟩
abbrev cX9_boundNow : ByteArray := prog_11_method_55_code
def yX9_boundNow : MethodName := ⟨RX9, "boundNow", "()J"⟩
abbrev cX9_bound : ByteArray := prog_11_method_56_code
def yX9_bound : MethodName := ⟨RX9, "bound", "()J"⟩
abbrev cX9_climb : ByteArray := prog_11_method_57_code
def yX9_climb : MethodName := ⟨RX9, "climb", "(II)I"⟩
abbrev cX9_highest : ByteArray := prog_11_method_58_code
def yX9_highest : MethodName := ⟨RX9, "highest", "()J"⟩
abbrev cX9_count : ByteArray := prog_11_method_59_code
def yX9_count : MethodName := ⟨RX9, "count", "(I)I"⟩
def RJ6 : String := "java/lang/Integer"
def TJ6 : u_T := fun k => match k with
  | _ => ("", "", "", false)
def tyJ6 : Nat → FieldType := fun k => match k with
  | _ => .int
abbrev wsJ60 : List Cond := u_ws RJ6 TJ6 0
theorem nmJ6 : ∀ a, a < 0 → ∀ b, b < 0 → a ≠ b → (TJ6 a).2.1 ≠ (TJ6 b).2.1 := by decide +kernel
theorem tyJ6_ok : ∀ k, k < 0 → parseFieldDescriptor (TJ6 k).2.2.1 = some (tyJ6 k) := by decide +kernel
abbrev cJ6_bitCount_0f7a4 : ByteArray := prog_12_method_49_code
def yJ6_bitCount_0f7a4 : MethodName := ⟨RJ6, "bitCount", "(I)I"⟩
def RJ9 : String := "java/lang/Math"
def TJ9 : u_T := fun k => match k with
  | _ => ("", "", "", false)
def tyJ9 : Nat → FieldType := fun k => match k with
  | _ => .int
abbrev wsJ90 : List Cond := u_ws RJ9 TJ9 0
theorem nmJ9 : ∀ a, a < 0 → ∀ b, b < 0 → a ≠ b → (TJ9 a).2.1 ≠ (TJ9 b).2.1 := by decide +kernel
theorem tyJ9_ok : ∀ k, k < 0 → parseFieldDescriptor (TJ9 k).2.2.1 = some (tyJ9 k) := by decide +kernel
abbrev cJ9_max_7cf53 : ByteArray := prog_13_method_65_code
def yJ9_max_7cf53 : MethodName := ⟨RJ9, "max", "(II)I"⟩
abbrev cJ9_max_f86c9 : ByteArray := prog_13_method_66_code
def yJ9_max_f86c9 : MethodName := ⟨RJ9, "max", "(JJ)J"⟩
abbrev cJ9_min_7cf53 : ByteArray := prog_13_method_69_code
def yJ9_min_7cf53 : MethodName := ⟨RJ9, "min", "(II)I"⟩
abbrev cJ9_min_f86c9 : ByteArray := prog_13_method_70_code
def yJ9_min_f86c9 : MethodName := ⟨RJ9, "min", "(JJ)J"⟩
def RJ10 : String := "java/lang/System"
def TJ10 : u_T := fun k => match k with
  | _ => ("", "", "", false)
def tyJ10 : Nat → FieldType := fun k => match k with
  | _ => .int
abbrev wsJ100 : List Cond := u_ws RJ10 TJ10 0
theorem nmJ10 : ∀ a, a < 0 → ∀ b, b < 0 → a ≠ b → (TJ10 a).2.1 ≠ (TJ10 b).2.1 := by decide +kernel
theorem tyJ10_ok : ∀ k, k < 0 → parseFieldDescriptor (TJ10 k).2.2.1 = some (tyJ10 k) := by decide +kernel
def RL : String := "BreadOvensLaw"
abbrev cL_law : ByteArray := code
def yL_law : MethodName := ⟨RL, "law", "([I)Z"⟩
theorem goodIn_sub {big ws : List Cond} (hm : ∀ w ∈ ws, w ∈ big) (h : ws.all goodWord = true) : GoodIn big ws := fun w hw => ⟨hm w hw, good_of_word (List.all_eq_true.mp h w hw)⟩
abbrev vwCl : List vw_C := [(RX0, TX0, 4), (RX1, TX1, 3), (RX2, TX2, 3), (RX3, TX3, 4), (RX4, TX4, 6), (RX5, TX5, 10), (RX6, TX6, 9), (RX7, TX7, 1), (RX8, TX8, 9), (RX9, TX9, 39)]
end
section
/-! whole numbers of 32 and 64 bits as Int -/
def w32 (x : Int) : Int := Int.bmod x 4294967296
def w64 (x : Int) : Int := Int.bmod x 18446744073709551616
def in32 (x : Int) : Prop := -2147483648 ≤ x ∧ x ≤ 2147483647
def in64 (x : Int) : Prop := -9223372036854775808 ≤ x ∧ x ≤ 9223372036854775807
theorem w32_in (x : Int) : in32 (w32 x) := by
  have h1 := Int.bmod_lt (x := x) (m := 4294967296) (by decide)
  have h2 := Int.le_bmod (x := x) (m := 4294967296) (by decide)
  unfold in32 w32
  omega
theorem w64_in (x : Int) : in64 (w64 x) := by
  have h1 := Int.bmod_lt (x := x) (m := 18446744073709551616) (by decide)
  have h2 := Int.le_bmod (x := x) (m := 18446744073709551616) (by decide)
  unfold in64 w64
  omega
theorem o32w (x : Int) : (Int32.ofInt x).toInt = w32 x := Int32.toInt_ofInt
theorem o64w (x : Int) : (Int64.ofInt x).toInt = w64 x := Int64.toInt_ofInt
theorem w32_id {x : Int} (h : in32 x) : w32 x = x := by
  unfold w32
  exact Int.bmod_eq_of_le (by have := h.1; omega) (by have := h.2; omega)
theorem w64_id {x : Int} (h : in64 x) : w64 x = x := by
  unfold w64
  exact Int.bmod_eq_of_le (by have := h.1; omega) (by have := h.2; omega)
theorem o32 {x : Int} (h : in32 x) : (Int32.ofInt x).toInt = x := by rw [o32w, w32_id h]
theorem o64 {x : Int} (h : in64 x) : (Int64.ofInt x).toInt = x := by rw [o64w, w64_id h]
theorem t32 (z : Int32) : in32 z.toInt := ⟨by have := Int32.minValue_le_toInt z; simpa using this, by have := Int32.toInt_lt z; omega⟩
theorem t64 (z : Int64) : in64 z.toInt := ⟨by have := Int64.minValue_le_toInt z; simpa using this, by have := Int64.toInt_lt z; omega⟩
theorem ot32 (z : Int32) : Int32.ofInt z.toInt = z := Int32.ofInt_toInt z
theorem ot64 (z : Int64) : Int64.ofInt z.toInt = z := Int64.ofInt_toInt z
theorem ow32 (x : Int) : Int32.ofInt (w32 x) = Int32.ofInt x := by rw [← o32w, ot32]
theorem ow64 (x : Int) : Int64.ofInt (w64 x) = Int64.ofInt x := by rw [← o64w, ot64]
theorem o32_add (x y : Int) : Int32.ofInt x + Int32.ofInt y = Int32.ofInt (w32 (x + y)) := by rw [ow32, Int32.ofInt_add]
theorem o32_sub (x y : Int) : Int32.ofInt x - Int32.ofInt y = Int32.ofInt (w32 (x - y)) := by rw [ow32, Int32.ofInt_sub]
theorem o32_mul (x y : Int) : Int32.ofInt x * Int32.ofInt y = Int32.ofInt (w32 (x * y)) := by rw [ow32, Int32.ofInt_mul]
theorem o32_neg (x : Int) : - Int32.ofInt x = Int32.ofInt (w32 (-x)) := by rw [ow32, Int32.ofInt_neg]
theorem o64_add (x y : Int) : Int64.ofInt x + Int64.ofInt y = Int64.ofInt (w64 (x + y)) := by rw [ow64, Int64.ofInt_add]
theorem o64_sub (x y : Int) : Int64.ofInt x - Int64.ofInt y = Int64.ofInt (w64 (x - y)) := by rw [ow64, Int64.ofInt_sub]
theorem o64_mul (x y : Int) : Int64.ofInt x * Int64.ofInt y = Int64.ofInt (w64 (x * y)) := by rw [ow64, Int64.ofInt_mul]
theorem o64_neg (x : Int) : - Int64.ofInt x = Int64.ofInt (w64 (-x)) := by rw [ow64, Int64.ofInt_neg]
def a32 (x y : Int) : Int := (Int32.ofInt x &&& Int32.ofInt y).toInt
def r32 (x y : Int) : Int := (Int32.ofInt x ||| Int32.ofInt y).toInt
def x32 (x y : Int) : Int := (Int32.ofInt x ^^^ Int32.ofInt y).toInt
def l32 (x y : Int) : Int := (Int32.ofInt x <<< (Int32.ofInt y &&& 31)).toInt
def s32 (x y : Int) : Int := (Int32.ofInt x >>> (Int32.ofInt y &&& 31)).toInt
def u32 (x y : Int) : Int := ((Int32.ofInt x).toUInt32 >>> ((Int32.ofInt y).toUInt32 &&& Int32.toUInt32 31)).toInt32.toInt
def d32 (x y : Int) : Int := (Int32.ofInt x / Int32.ofInt y).toInt
def m32 (x y : Int) : Int := (Int32.ofInt x - Int32.ofInt x / Int32.ofInt y * Int32.ofInt y).toInt
def b32 (x : Int) : Int := (Int32.ofInt x).toInt8.toInt32.toInt
def a64 (x y : Int) : Int := (Int64.ofInt x &&& Int64.ofInt y).toInt
def r64 (x y : Int) : Int := (Int64.ofInt x ||| Int64.ofInt y).toInt
def l64 (x y : Int) : Int := (Int64.ofInt x <<< ((Int32.ofInt y).toInt64 &&& 63)).toInt
theorem lt32 {x y : Int} (hx : in32 x) (hy : in32 y) : Int32.ofInt x < Int32.ofInt y ↔ x < y := by rw [Int32.lt_iff_toInt_lt, o32 hx, o32 hy]
theorem le32 {x y : Int} (hx : in32 x) (hy : in32 y) : Int32.ofInt x ≤ Int32.ofInt y ↔ x ≤ y := by rw [Int32.le_iff_toInt_le, o32 hx, o32 hy]
theorem eq32 {x y : Int} (hx : in32 x) (hy : in32 y) : Int32.ofInt x = Int32.ofInt y ↔ x = y := ⟨fun h => by rw [← o32 hx, ← o32 hy, h], fun h => by rw [h]⟩
theorem z32 : Int32.ofInt 0 = 0 := rfl
theorem in32_0 : in32 0 := by unfold in32; omega
theorem lt64 {x y : Int} (hx : in64 x) (hy : in64 y) : Int64.ofInt x < Int64.ofInt y ↔ x < y := by rw [Int64.lt_iff_toInt_lt, o64 hx, o64 hy]
theorem le64 {x y : Int} (hx : in64 x) (hy : in64 y) : Int64.ofInt x ≤ Int64.ofInt y ↔ x ≤ y := by rw [Int64.le_iff_toInt_le, o64 hx, o64 hy]
theorem eq64 {x y : Int} (hx : in64 x) (hy : in64 y) : Int64.ofInt x = Int64.ofInt y ↔ x = y := ⟨fun h => by rw [← o64 hx, ← o64 hy, h], fun h => by rw [h]⟩
theorem in32_64 {x : Int} (h : in32 x) : in64 x := by unfold in32 at h; unfold in64; omega
theorem i2l_ok {x : Int} (h : in32 x) : (Int32.ofInt x).toInt64 = Int64.ofInt x := by
  apply Int64.toInt.inj
  rw [Int32.toInt_toInt64, o32 h, o64 (in32_64 h)]
theorem l2i_ok {x : Int} (h : in64 x) : (Int64.ofInt x).toInt32 = Int32.ofInt (w32 x) := by
  apply Int32.toInt.inj
  rw [Int64.toInt_toInt32, o64 h, ow32, o32w]
  rfl
def cmpI (x y : Int) : Int := if y < x then 1 else if x = y then 0 else -1
theorem cmp_ok {x y : Int} (hx : in64 x) (hy : in64 y) : lg_cmp (Int64.ofInt x) (Int64.ofInt y) = Int32.ofInt (cmpI x y) := by
  unfold lg_cmp cmpI
  simp only [gt_iff_lt, lt64 hy hx, eq64 hx hy]
  by_cases h1 : y < x
  · simp [h1]
  · by_cases h2 : x = y
    · simp [h2]
    · simp [h1, h2]
theorem cmp_in (x y : Int) : in32 (cmpI x y) := by unfold cmpI in32; split <;> (try split) <;> omega
theorem nn32 {x : Int} (h : in32 x) : (Int32.ofInt x).toNatClampNeg = x.toNat := by
  show (Int32.ofInt x).toInt.toNat = _
  rw [o32 h]
theorem in_32 {x : Int} {n : Nat} (h : in32 x) (h0 : 0 ≤ x) (h1 : x < n) : vp_in (Int32.ofInt x) n := by
  rw [vp_in_iff, o32 h]
  exact ⟨h0, h1⟩
end
section
/-! the memory as whole numbers: cells by their numbers, places in them; the judgement Go over it -/
abbrev gAV : Type := Nat × Int
abbrev gMem : Type := Nat → Nat → Int
abbrev gShp : Type := List (Nat × Nat)
/-- a method: name, code, its class, places for locals, type of its answer, whether it is a constructor, frames and words below it -/
abbrev gMd : Type := MethodName × ByteArray × String × Nat × Option FieldType × Bool × Nat × Nat
abbrev gNm (m : gMd) : MethodName := m.1
abbrev gCode (m : gMd) : ByteArray := m.2.1
abbrev gOwn (m : gMd) : String := m.2.2.1
abbrev gNL (m : gMd) : Nat := m.2.2.2.1
abbrev gRet (m : gMd) : Option FieldType := m.2.2.2.2.1
abbrev gIni (m : gMd) : Bool := m.2.2.2.2.2.1
abbrev gFr (m : gMd) : Nat := m.2.2.2.2.2.2.1
abbrev gLo (m : gMd) : Nat := m.2.2.2.2.2.2.2
abbrev gI (x : Int) : gAV := (0, x)
abbrev gJ (x : Int) : gAV := (1, x)
abbrev gR (k : Nat) : gAV := (2, (k : Int) + 1)
abbrev gNull : gAV := (2, 0)
abbrev gS : gAV := (4, 0)
def gFt (c : Nat) : List Nat := match c with
  | 0 => [2, 0, 0, 1]
  | 1 => [0, 0, 2]
  | 2 => [2, 0, 0]
  | 3 => [2, 2, 0, 0]
  | 4 => [2, 2, 2, 2, 0, 1]
  | 5 => [1, 0, 0, 0, 0, 1, 0, 0, 0, 2]
  | 6 => [0, 0, 0, 2, 2, 2, 2, 2, 2]
  | 7 => [2]
  | 8 => [2, 2, 2, 2, 2, 2, 2, 2, 3]
  | 9 => [0, 2, 2, 2, 0, 2, 2, 2, 2, 0, 2, 2, 2, 0, 2, 2, 2, 2, 2, 2, 2, 2, 0, 1, 0, 0, 1, 0, 0, 0, 0, 0, 0, 0, 1, 2, 0, 1, 1]
  | _ => []
def gRf (ad : Nat → Nat) (x : Int) : Option Nat := if x = 0 then none else some (ad (x.toNat - 1))
def gVl (ca : Nat → ClassId) (ad : Nat → Nat) (t : Nat) (x : Int) : Value := match t with
  | 0 => .int (Int32.ofInt x)
  | 1 => .long (Int64.ofInt x)
  | 2 => va_rf (gRf ad x)
  | 3 => .int (Int32.ofInt x)
  | _ => .ref (ca 9)
def gEnt (ca : Nat → ClassId) (ad : Nat → Nat) (k : Nat × Nat) (r : Nat → Int) : va_E := match k.1 with
  | 0 => .inr (k.2, (gFt k.2).mapIdx (fun j t => gVl ca ad t (r j)))
  | 1 => .inl (ca 0, k.2, .inl (fun j => Int32.ofInt (r j)))
  | 2 => .inl (ca 1, k.2, .inr (.inl (fun j => Int64.ofInt (r j))))
  | t + 3 => .inl (ca (t + 2), k.2, .inr (.inr (.inr (.inr (fun j => gRf ad (r j))))))
def gW (ca : Nat → ClassId) (ad : Nat → Nat) (sh : gShp) (M : gMem) : va_W := sh.mapIdx (fun i k => (ad i, gEnt ca ad k (M i)))
def gOkV (n t : Nat) (x : Int) : Prop := match t with
  | 0 => in32 x
  | 1 => in64 x
  | 2 => 0 ≤ x ∧ x ≤ n
  | 3 => x = 0 ∨ x = 1
  | _ => True
def gOkK (n : Nat) (k : Nat × Nat) (r : Nat → Int) : Prop := match k.1 with
  | 0 => ∀ j t, (gFt k.2)[j]? = some t → gOkV n t (r j)
  | 1 => ∀ j, in32 (r j)
  | 2 => ∀ j, in64 (r j)
  | _ => ∀ j, 0 ≤ r j ∧ r j ≤ n
def gOk (sh : gShp) (M : gMem) : Prop := ∀ i k, sh[i]? = some k → gOkK sh.length k (M i)
def gKs (k : Nat × Nat) : Nat := if k.1 = 0 then (gFt k.2).length else k.2
def gSz (sh : gShp) : Nat := (sh.map gKs).sum
def gTy (ca : Nat → ClassId) : List (ClassId × FieldType) := [(ca 0, .int), (ca 1, .long), (ca 2, .object "BreadOvens$Valley"), (ca 3, .object "BreadOvens$Chart")]
def gTb : List Cond := lw_tbl.filter goodWord
def gNest : List (String × Nat × MethodName × String) := [("BreadOvens", 13, ⟨"BreadOvens$Valley", "<init>", "()V"⟩, "BreadOvens"), ("BreadOvens$Diary", 24, ⟨"BreadOvens$Valley", "<init>", "()V"⟩, "BreadOvens"), ("BreadOvens", 33, ⟨"BreadOvens$Ways", "<init>", "()V"⟩, "BreadOvens"), ("BreadOvens", 49, ⟨"BreadOvens$Survey", "<init>", "()V"⟩, "BreadOvens"), ("BreadOvens", 76, ⟨"BreadOvens$Chart", "<init>", "()V"⟩, "BreadOvens"), ("BreadOvens$Valley", 40, ⟨"BreadOvens", "isWithin", "(JJJ)Z"⟩, "BreadOvens"), ("BreadOvens$Ovens", 65, ⟨"BreadOvens", "isIn", "(II)Z"⟩, "BreadOvens"), ("BreadOvens$Survey", 86, ⟨"BreadOvens", "isIn", "(II)Z"⟩, "BreadOvens"), ("BreadOvens$Builder", 51, ⟨"BreadOvens", "isIn", "(II)Z"⟩, "BreadOvens"), ("BreadOvens$Purse", 100, ⟨"BreadOvens", "isIn", "(II)Z"⟩, "BreadOvens")]
/-- what the tables say, as far as it isn't in gTb -/
def gKx (D : va_G) (ca : Nat → ClassId) (U : State) : Prop := va_K D vwCl (gTy ca) U ∧ (∀ q ∈ gNest, va_Nw (.methodLinkNest q.1 q.2.1 q.2.2.1 q.2.2.2) U) ∧ va_AO "BreadOvens$Valley" U ∧ va_AO "BreadOvens$Chart" U
theorem gKx.warm {D : va_G} {ca : Nat → ClassId} {s U : State} (hW : s.WarmedH U.vm) (h : gKx D ca s) : gKx D ca U := ⟨va_K.moved hW.alike h.1, fun q hq => va_Nw.warmM hW (h.2.1 q hq), h.2.2.1.moved hW.alike, h.2.2.2.moved hW.alike⟩
theorem gKx.same {D : va_G} {ca : Nat → ClassId} {s U : State} (hv : s.vm = U.vm) (h : gKx D ca s) : gKx D ca U := ⟨va_K.moved (by rw [hv]; exact Vm.Alike.refl _) h.1, fun q hq => va_Nw.same rfl hv (h.2.1 q hq), h.2.2.1.moved (by rw [hv]; exact Vm.Alike.refl _), h.2.2.2.moved (by rw [hv]; exact Vm.Alike.refl _)⟩
abbrev gScr : Type := Option (Nat × (Nat → Int))
def gSc (ca : Nat → ClassId) (sc : gScr) (s : State) (A : Nat → Prop) (H0 : Heap) : Prop := match sc with
  | none => True
  | some q => va_X (ca 9) q.1 (fun j => Int32.ofInt (q.2 j)) s H0 ∧ ca 9 < H0.size ∧ ¬ A (ca 9) ∧ (∀ j, in32 (q.2 j)) ∧ q.1 ≤ 2560
def gCx (D : va_G) (ca : Nat → ClassId) (sc : gScr) (m : gMd) (p : Program) (s : State) (mi : MethodId) (args : Array Value) (meth : Method) (c : Code) (A : Nat → Prop) (H0 : Heap) : Prop :=
  p.tables.exec = Jvm.exec ∧ c.code = gCode m ∧ c.maxLocals = gNL m ∧ meth.sig.returnType = gRet m ∧ s.vm.findClass (gOwn m) = some mi.cls ∧ (∀ w ∈ gTb, w.before args s = true) ∧ meth.locks = false ∧ gKx D ca s ∧ (gIni m = true → meth.name = "<init>") ∧ (∀ q, H0.size ≤ q → A q) ∧ gSc ca sc s A H0
abbrev gLs : Type := List (Nat × gAV)
def gSt (D : va_G) (ca : Nat → ClassId) (m : gMd) (ls : gLs) (st : List gAV) (sh : gShp) (M : gMem) (ad : Nat → Nat) (H : Heap) (locs : List Loc) (A : Nat → Prop) (H0 : Heap) (lc : Array Slot) : Prop :=
  lv_has lc (gNL m) (ls.map fun q => (q.1, gVl ca ad q.2.1 q.2.2)) ∧ (∀ q ∈ ls, gOkV sh.length q.2.1 q.2.2) ∧ (∀ v ∈ st, gOkV sh.length v.1 v.2) ∧ gOk sh M ∧ va_P D vwCl (gW ca ad sh M) H ∧ va_D A (gW ca ad sh M) ∧ va_S A H0 H locs
def gRi (rv : List gAV) : Instr := match rv with
  | [] => .return_
  | v :: _ => if v.1 = 1 then .lreturn else .ireturn
def gK (D : va_G) (ca : Nat → ClassId) (R : Room) (m : gMd) (p : Program) (l : Launch) (e : Env) (s : State) (mi : MethodId) (args : Array Value) (below : List Frame) (meth : Method) (c : Code) (Q : State → Prop) (ad : Nat → Nat) (sh : gShp) (cells slots : Nat) (A : Nat → Prop) (H0 : Heap) (rv : List gAV) (sh' : gShp) (M' : gMem) : Prop :=
  ∀ (ad' : Nat → Nat) (H' : Heap) (locs' : List Loc) (cells' slots' : Nat) (lc' : Array Slot) (pc' : Nat), (∀ i, i < sh.length → ad' i = ad i) → (∀ v ∈ rv, gOkV sh'.length v.1 v.2) → gOk sh' M' → va_P D vwCl (gW ca ad' sh' M') H' → va_D A (gW ca ad' sh' M') → va_S A H0 H' locs' → cells' + sh.length ≤ cells + sh'.length → slots' + gSz sh ≤ slots + gSz sh' → decode (gCode m) pc' = .ok (gRi rv, 1) →
    W p l e R s mi args below meth c H' locs' cells' slots' Q (F0 mi pc' lc' (rv.map fun v => gVl ca ad' v.1 v.2))
/-- from this place of the method, with these locals, this stack and this memory, it comes to its answer rv and leaves the memory M' -/
def Go (D : va_G) (ca : Nat → ClassId) (sc : gScr) (R : Room) (m : gMd) (pc : Nat) (ls : gLs) (st : List gAV) (sh : gShp) (M : gMem) (rv : List gAV) (sh' : gShp) (M' : gMem) : Prop :=
  ∀ (p : Program) (l : Launch) (e : Env) (s : State) (mi : MethodId) (args : Array Value) (below : List Frame) (meth : Method) (c : Code) (Q : State → Prop) (ad : Nat → Nat) (H : Heap) (locs : List Loc) (cells slots : Nat) (A : Nat → Prop) (H0 : Heap) (lc : Array Slot),
    gCx D ca sc m p s mi args meth c A H0 → gSt D ca m ls st sh M ad H locs A H0 lc → cells + sh'.length ≤ R.cells + sh.length → slots + gSz sh' ≤ R.slots + gSz sh → gK D ca R m p l e s mi args below meth c Q ad sh cells slots A H0 rv sh' M' →
    W p l e R s mi args below meth c H locs cells slots Q (F0 mi pc lc (st.map fun v => gVl ca ad v.1 v.2))
section GO
variable {D : va_G} {ca : Nat → ClassId} {sc : gScr} {R : Room} {m : gMd} {pc pc' : Nat} {ls ls' : gLs} {st st' : List gAV} {sh sh' : gShp} {M M' : gMem} {rv : List gAV}
/-- the stack alone changes -/
theorem Go_step (h : ∀ (p : Program) (l : Launch) (e : Env) (s : State) (mi : MethodId) (args : Array Value) (below : List Frame) (meth : Method) (c : Code) (Q : State → Prop) (ad : Nat → Nat) (H : Heap) (locs : List Loc) (cells slots : Nat) (A : Nat → Prop) (H0 : Heap) (lc : Array Slot),
    gCx D ca sc m p s mi args meth c A H0 → gSt D ca m ls st sh M ad H locs A H0 lc → (∀ v ∈ st', gOkV sh.length v.1 v.2) ∧ (W p l e R s mi args below meth c H locs cells slots Q (F0 mi pc' lc (st'.map fun v => gVl ca ad v.1 v.2)) → W p l e R s mi args below meth c H locs cells slots Q (F0 mi pc lc (st.map fun v => gVl ca ad v.1 v.2))))
    (k : Go D ca sc R m pc' ls st' sh M rv sh' M') : Go D ca sc R m pc ls st sh M rv sh' M' := by
  intro p l e s mi args below meth c Q ad H locs cells slots A H0 lc hc hs hr1 hr2 hk
  obtain ⟨h1, h2⟩ := h p l e s mi args below meth c Q ad H locs cells slots A H0 lc hc hs
  exact h2 (k p l e s mi args below meth c Q ad H locs cells slots A H0 lc hc ⟨hs.1, hs.2.1, h1, hs.2.2.2⟩ hr1 hr2 hk)
theorem ok_c {n : Nat} {v : gAV} {vs : List gAV} (h1 : gOkV n v.1 v.2) (h2 : ∀ u ∈ vs, gOkV n u.1 u.2) : ∀ u ∈ v :: vs, gOkV n u.1 u.2 := List.forall_mem_cons.mpr ⟨h1, h2⟩
theorem ok_h {n : Nat} {v : gAV} {vs : List gAV} (h : ∀ u ∈ v :: vs, gOkV n u.1 u.2) : gOkV n v.1 v.2 := (List.forall_mem_cons.mp h).1
theorem ok_t {n : Nat} {v : gAV} {vs : List gAV} (h : ∀ u ∈ v :: vs, gOkV n u.1 u.2) : ∀ u ∈ vs, gOkV n u.1 u.2 := (List.forall_mem_cons.mp h).2
theorem Go_iadd {x y : Int} (hd : decode (gCode m) pc = .ok (.iadd, 1)) (k : Go D ca sc R m (pc + 1) ls (gI (w32 (x + y)) :: st) sh M rv sh' M') : Go D ca sc R m pc ls (gI y :: gI x :: st) sh M rv sh' M' := by
  refine Go_step (st' := gI (w32 (x + y)) :: st) (fun p l e s mi args below meth c Q ad H locs cells slots A H0 lc hc hs => ⟨ok_c (w32_in _) ((ok_t (ok_t hs.2.2.1))), fun w => ?_⟩) k
  refine lv_iadd (x := Int32.ofInt x) (y := Int32.ofInt y) hc.1 hc.2.1 hd ?_
  rw [o32_add]
  exact w
theorem Go_isub {x y : Int} (hd : decode (gCode m) pc = .ok (.isub, 1)) (k : Go D ca sc R m (pc + 1) ls (gI (w32 (x - y)) :: st) sh M rv sh' M') : Go D ca sc R m pc ls (gI y :: gI x :: st) sh M rv sh' M' := by
  refine Go_step (st' := gI (w32 (x - y)) :: st) (fun p l e s mi args below meth c Q ad H locs cells slots A H0 lc hc hs => ⟨ok_c (w32_in _) ((ok_t (ok_t hs.2.2.1))), fun w => ?_⟩) k
  refine lv_isub (x := Int32.ofInt x) (y := Int32.ofInt y) hc.1 hc.2.1 hd ?_
  rw [o32_sub]
  exact w
theorem Go_imul {x y : Int} (hd : decode (gCode m) pc = .ok (.imul, 1)) (k : Go D ca sc R m (pc + 1) ls (gI (w32 (x * y)) :: st) sh M rv sh' M') : Go D ca sc R m pc ls (gI y :: gI x :: st) sh M rv sh' M' := by
  refine Go_step (st' := gI (w32 (x * y)) :: st) (fun p l e s mi args below meth c Q ad H locs cells slots A H0 lc hc hs => ⟨ok_c (w32_in _) ((ok_t (ok_t hs.2.2.1))), fun w => ?_⟩) k
  refine lv_imul (x := Int32.ofInt x) (y := Int32.ofInt y) hc.1 hc.2.1 hd ?_
  rw [o32_mul]
  exact w
theorem Go_iand {x y : Int} (hd : decode (gCode m) pc = .ok (.iand, 1)) (k : Go D ca sc R m (pc + 1) ls (gI (a32 x y) :: st) sh M rv sh' M') : Go D ca sc R m pc ls (gI y :: gI x :: st) sh M rv sh' M' := by
  refine Go_step (st' := gI (a32 x y) :: st) (fun p l e s mi args below meth c Q ad H locs cells slots A H0 lc hc hs => ⟨ok_c (t32 _) ((ok_t (ok_t hs.2.2.1))), fun w => ?_⟩) k
  refine lv_iand (x := Int32.ofInt x) (y := Int32.ofInt y) hc.1 hc.2.1 hd ?_
  rw [show Int32.ofInt x &&& Int32.ofInt y = Int32.ofInt (a32 x y) from (ot32 _).symm]
  exact w
theorem Go_ior {x y : Int} (hd : decode (gCode m) pc = .ok (.ior, 1)) (k : Go D ca sc R m (pc + 1) ls (gI (r32 x y) :: st) sh M rv sh' M') : Go D ca sc R m pc ls (gI y :: gI x :: st) sh M rv sh' M' := by
  refine Go_step (st' := gI (r32 x y) :: st) (fun p l e s mi args below meth c Q ad H locs cells slots A H0 lc hc hs => ⟨ok_c (t32 _) ((ok_t (ok_t hs.2.2.1))), fun w => ?_⟩) k
  refine lv_ior (x := Int32.ofInt x) (y := Int32.ofInt y) hc.1 hc.2.1 hd ?_
  rw [show Int32.ofInt x ||| Int32.ofInt y = Int32.ofInt (r32 x y) from (ot32 _).symm]
  exact w
theorem Go_ixor {x y : Int} (hd : decode (gCode m) pc = .ok (.ixor, 1)) (k : Go D ca sc R m (pc + 1) ls (gI (x32 x y) :: st) sh M rv sh' M') : Go D ca sc R m pc ls (gI y :: gI x :: st) sh M rv sh' M' := by
  refine Go_step (st' := gI (x32 x y) :: st) (fun p l e s mi args below meth c Q ad H locs cells slots A H0 lc hc hs => ⟨ok_c (t32 _) ((ok_t (ok_t hs.2.2.1))), fun w => ?_⟩) k
  refine lv_ixor (x := Int32.ofInt x) (y := Int32.ofInt y) hc.1 hc.2.1 hd ?_
  rw [show Int32.ofInt x ^^^ Int32.ofInt y = Int32.ofInt (x32 x y) from (ot32 _).symm]
  exact w
theorem Go_ishl {x y : Int} (hd : decode (gCode m) pc = .ok (.ishl, 1)) (k : Go D ca sc R m (pc + 1) ls (gI (l32 x y) :: st) sh M rv sh' M') : Go D ca sc R m pc ls (gI y :: gI x :: st) sh M rv sh' M' := by
  refine Go_step (st' := gI (l32 x y) :: st) (fun p l e s mi args below meth c Q ad H locs cells slots A H0 lc hc hs => ⟨ok_c (t32 _) ((ok_t (ok_t hs.2.2.1))), fun w => ?_⟩) k
  refine lv_ishl (x := Int32.ofInt x) (y := Int32.ofInt y) hc.1 hc.2.1 hd ?_
  rw [show Int32.ofInt x <<< (Int32.ofInt y &&& 31) = Int32.ofInt (l32 x y) from (ot32 _).symm]
  exact w
theorem Go_ishr {x y : Int} (hd : decode (gCode m) pc = .ok (.ishr, 1)) (k : Go D ca sc R m (pc + 1) ls (gI (s32 x y) :: st) sh M rv sh' M') : Go D ca sc R m pc ls (gI y :: gI x :: st) sh M rv sh' M' := by
  refine Go_step (st' := gI (s32 x y) :: st) (fun p l e s mi args below meth c Q ad H locs cells slots A H0 lc hc hs => ⟨ok_c (t32 _) ((ok_t (ok_t hs.2.2.1))), fun w => ?_⟩) k
  refine lv_ishr (x := Int32.ofInt x) (y := Int32.ofInt y) hc.1 hc.2.1 hd ?_
  rw [show Int32.ofInt x >>> (Int32.ofInt y &&& 31) = Int32.ofInt (s32 x y) from (ot32 _).symm]
  exact w
theorem Go_idiv {x y : Int} (hne : y ≠ 0) (hd : decode (gCode m) pc = .ok (.idiv, 1)) (k : Go D ca sc R m (pc + 1) ls (gI (d32 x y) :: st) sh M rv sh' M') : Go D ca sc R m pc ls (gI y :: gI x :: st) sh M rv sh' M' := by
  refine Go_step (st' := gI (d32 x y) :: st) (fun p l e s mi args below meth c Q ad H locs cells slots A H0 lc hc hs => ⟨ok_c (t32 _) ((ok_t (ok_t hs.2.2.1))), fun w => ?_⟩) k
  have hy : in32 y := ok_h hs.2.2.1
  refine lv_idiv (x := Int32.ofInt x) (y := Int32.ofInt y) hc.1 hc.2.1 hd (fun h => hne ((eq32 hy in32_0).mp h)) ?_
  rw [show Int32.ofInt x / Int32.ofInt y = Int32.ofInt (d32 x y) from (ot32 _).symm]
  exact w
theorem Go_irem {x y : Int} (hne : y ≠ 0) (hd : decode (gCode m) pc = .ok (.irem, 1)) (k : Go D ca sc R m (pc + 1) ls (gI (m32 x y) :: st) sh M rv sh' M') : Go D ca sc R m pc ls (gI y :: gI x :: st) sh M rv sh' M' := by
  refine Go_step (st' := gI (m32 x y) :: st) (fun p l e s mi args below meth c Q ad H locs cells slots A H0 lc hc hs => ⟨ok_c (t32 _) ((ok_t (ok_t hs.2.2.1))), fun w => ?_⟩) k
  have hy : in32 y := ok_h hs.2.2.1
  refine lv_irem (x := Int32.ofInt x) (y := Int32.ofInt y) hc.1 hc.2.1 hd (fun h => hne ((eq32 hy in32_0).mp h)) ?_
  rw [show Int32.ofInt x - Int32.ofInt x / Int32.ofInt y * Int32.ofInt y = Int32.ofInt (m32 x y) from (ot32 _).symm]
  exact w
theorem Go_iushr {x y : Int} (hd : decode (gCode m) pc = .ok (.iushr, 1)) (k : Go D ca sc R m (pc + 1) ls (gI (u32 x y) :: st) sh M rv sh' M') : Go D ca sc R m pc ls (gI y :: gI x :: st) sh M rv sh' M' := by
  refine Go_step (st' := gI (u32 x y) :: st) (fun p l e s mi args below meth c Q ad H locs cells slots A H0 lc hc hs => ⟨ok_c (t32 _) ((ok_t (ok_t hs.2.2.1))), fun w => ?_⟩) k
  refine lv_iushr (x := Int32.ofInt x) (y := Int32.ofInt y) (v := Int32.ofInt (u32 x y)) hc.1 hc.2.1 hd (ot32 _).symm ?_
  exact w
theorem Go_ineg {x : Int} (hd : decode (gCode m) pc = .ok (.ineg, 1)) (k : Go D ca sc R m (pc + 1) ls (gI (w32 (-x)) :: st) sh M rv sh' M') : Go D ca sc R m pc ls (gI x :: st) sh M rv sh' M' := by
  refine Go_step (st' := gI (w32 (-x)) :: st) (fun p l e s mi args below meth c Q ad H locs cells slots A H0 lc hc hs => ⟨ok_c (w32_in _) ((ok_t hs.2.2.1)), fun w => ?_⟩) k
  refine lv_ineg (x := Int32.ofInt x) hc.1 hc.2.1 hd ?_
  rw [o32_neg]
  exact w
theorem Go_ladd {x y : Int} (hd : decode (gCode m) pc = .ok (.ladd, 1)) (k : Go D ca sc R m (pc + 1) ls (gJ (w64 (x + y)) :: st) sh M rv sh' M') : Go D ca sc R m pc ls (gJ y :: gJ x :: st) sh M rv sh' M' := by
  refine Go_step (st' := gJ (w64 (x + y)) :: st) (fun p l e s mi args below meth c Q ad H locs cells slots A H0 lc hc hs => ⟨ok_c (w64_in _) ((ok_t (ok_t hs.2.2.1))), fun w => ?_⟩) k
  refine lv_ladd (x := Int64.ofInt x) (y := Int64.ofInt y) hc.1 hc.2.1 hd ?_
  rw [o64_add]
  exact w
theorem Go_lsub {x y : Int} (hd : decode (gCode m) pc = .ok (.lsub, 1)) (k : Go D ca sc R m (pc + 1) ls (gJ (w64 (x - y)) :: st) sh M rv sh' M') : Go D ca sc R m pc ls (gJ y :: gJ x :: st) sh M rv sh' M' := by
  refine Go_step (st' := gJ (w64 (x - y)) :: st) (fun p l e s mi args below meth c Q ad H locs cells slots A H0 lc hc hs => ⟨ok_c (w64_in _) ((ok_t (ok_t hs.2.2.1))), fun w => ?_⟩) k
  refine lv_lsub (x := Int64.ofInt x) (y := Int64.ofInt y) hc.1 hc.2.1 hd ?_
  rw [o64_sub]
  exact w
theorem Go_lmul {x y : Int} (hd : decode (gCode m) pc = .ok (.lmul, 1)) (k : Go D ca sc R m (pc + 1) ls (gJ (w64 (x * y)) :: st) sh M rv sh' M') : Go D ca sc R m pc ls (gJ y :: gJ x :: st) sh M rv sh' M' := by
  refine Go_step (st' := gJ (w64 (x * y)) :: st) (fun p l e s mi args below meth c Q ad H locs cells slots A H0 lc hc hs => ⟨ok_c (w64_in _) ((ok_t (ok_t hs.2.2.1))), fun w => ?_⟩) k
  refine lv_lmul (x := Int64.ofInt x) (y := Int64.ofInt y) hc.1 hc.2.1 hd ?_
  rw [o64_mul]
  exact w
theorem Go_land {x y : Int} (hd : decode (gCode m) pc = .ok (.land, 1)) (k : Go D ca sc R m (pc + 1) ls (gJ (a64 x y) :: st) sh M rv sh' M') : Go D ca sc R m pc ls (gJ y :: gJ x :: st) sh M rv sh' M' := by
  refine Go_step (st' := gJ (a64 x y) :: st) (fun p l e s mi args below meth c Q ad H locs cells slots A H0 lc hc hs => ⟨ok_c (t64 _) ((ok_t (ok_t hs.2.2.1))), fun w => ?_⟩) k
  refine lv_land (x := Int64.ofInt x) (y := Int64.ofInt y) hc.1 hc.2.1 hd ?_
  rw [show Int64.ofInt x &&& Int64.ofInt y = Int64.ofInt (a64 x y) from (ot64 _).symm]
  exact w
theorem Go_lor {x y : Int} (hd : decode (gCode m) pc = .ok (.lor, 1)) (k : Go D ca sc R m (pc + 1) ls (gJ (r64 x y) :: st) sh M rv sh' M') : Go D ca sc R m pc ls (gJ y :: gJ x :: st) sh M rv sh' M' := by
  refine Go_step (st' := gJ (r64 x y) :: st) (fun p l e s mi args below meth c Q ad H locs cells slots A H0 lc hc hs => ⟨ok_c (t64 _) ((ok_t (ok_t hs.2.2.1))), fun w => ?_⟩) k
  refine lv_lor (x := Int64.ofInt x) (y := Int64.ofInt y) hc.1 hc.2.1 hd ?_
  rw [show Int64.ofInt x ||| Int64.ofInt y = Int64.ofInt (r64 x y) from (ot64 _).symm]
  exact w
theorem Go_lneg {x : Int} (hd : decode (gCode m) pc = .ok (.lneg, 1)) (k : Go D ca sc R m (pc + 1) ls (gJ (w64 (-x)) :: st) sh M rv sh' M') : Go D ca sc R m pc ls (gJ x :: st) sh M rv sh' M' := by
  refine Go_step (st' := gJ (w64 (-x)) :: st) (fun p l e s mi args below meth c Q ad H locs cells slots A H0 lc hc hs => ⟨ok_c (w64_in _) ((ok_t hs.2.2.1)), fun w => ?_⟩) k
  refine lv_lneg (x := Int64.ofInt x) hc.1 hc.2.1 hd ?_
  rw [o64_neg]
  exact w
theorem Go_lshl {x y : Int} (hd : decode (gCode m) pc = .ok (.lshl, 1)) (k : Go D ca sc R m (pc + 1) ls (gJ (l64 x y) :: st) sh M rv sh' M') : Go D ca sc R m pc ls (gI y :: gJ x :: st) sh M rv sh' M' := by
  refine Go_step (st' := gJ (l64 x y) :: st) (fun p l e s mi args below meth c Q ad H locs cells slots A H0 lc hc hs => ⟨ok_c (t64 _) ((ok_t (ok_t hs.2.2.1))), fun w => ?_⟩) k
  refine lv_lshl (x := Int64.ofInt x) (y := Int32.ofInt y) (v := Int64.ofInt (l64 x y)) hc.1 hc.2.1 hd (ot64 _).symm ?_
  exact w
theorem Go_i2l {x : Int} (hd : decode (gCode m) pc = .ok (.i2l, 1)) (k : Go D ca sc R m (pc + 1) ls (gJ x :: st) sh M rv sh' M') : Go D ca sc R m pc ls (gI x :: st) sh M rv sh' M' := by
  refine Go_step (st' := gJ x :: st) (fun p l e s mi args below meth c Q ad H locs cells slots A H0 lc hc hs => ⟨ok_c (in32_64 (ok_h hs.2.2.1)) ((ok_t hs.2.2.1)), fun w => ?_⟩) k
  refine lv_i2l (x := Int32.ofInt x) (v := Int64.ofInt x) hc.1 hc.2.1 hd (i2l_ok (ok_h hs.2.2.1)) ?_
  exact w
theorem Go_l2i {x : Int} (hd : decode (gCode m) pc = .ok (.l2i, 1)) (k : Go D ca sc R m (pc + 1) ls (gI (w32 x) :: st) sh M rv sh' M') : Go D ca sc R m pc ls (gJ x :: st) sh M rv sh' M' := by
  refine Go_step (st' := gI (w32 x) :: st) (fun p l e s mi args below meth c Q ad H locs cells slots A H0 lc hc hs => ⟨ok_c (w32_in _) ((ok_t hs.2.2.1)), fun w => ?_⟩) k
  refine lv_l2i (x := Int64.ofInt x) (v := Int32.ofInt (w32 x)) hc.1 hc.2.1 hd (l2i_ok (ok_h hs.2.2.1)) ?_
  exact w
theorem Go_i2b {x : Int} (hd : decode (gCode m) pc = .ok (.i2b, 1)) (k : Go D ca sc R m (pc + 1) ls (gI (b32 x) :: st) sh M rv sh' M') : Go D ca sc R m pc ls (gI x :: st) sh M rv sh' M' := by
  refine Go_step (st' := gI (b32 x) :: st) (fun p l e s mi args below meth c Q ad H locs cells slots A H0 lc hc hs => ⟨ok_c (t32 _) ((ok_t hs.2.2.1)), fun w => ?_⟩) k
  refine lv_i2b (x := Int32.ofInt x) (v := Int32.ofInt (b32 x)) hc.1 hc.2.1 hd (ot32 _).symm ?_
  exact w
theorem Go_lcmp {x y : Int} (hd : decode (gCode m) pc = .ok (.lcmp, 1)) (k : Go D ca sc R m (pc + 1) ls (gI (cmpI x y) :: st) sh M rv sh' M') : Go D ca sc R m pc ls (gJ y :: gJ x :: st) sh M rv sh' M' := by
  refine Go_step (st' := gI (cmpI x y) :: st) (fun p l e s mi args below meth c Q ad H locs cells slots A H0 lc hc hs => ⟨ok_c (cmp_in _ _) ((ok_t (ok_t hs.2.2.1))), fun w => ?_⟩) k
  refine W.lcmp (x := Int64.ofInt x) (y := Int64.ofInt y) hc.1 hc.2.1 hd ?_
  rw [cmp_ok (ok_h (ok_t hs.2.2.1)) (ok_h hs.2.2.1)]
  exact w
theorem Go_iconst {n : Int} (hn : in32 n) (hd : decode (gCode m) pc = .ok (.iconst n, 1)) (k : Go D ca sc R m (pc + 1) ls (gI n :: st) sh M rv sh' M') : Go D ca sc R m pc ls (st) sh M rv sh' M' := by
  refine Go_step (st' := gI n :: st) (fun p l e s mi args below meth c Q ad H locs cells slots A H0 lc hc hs => ⟨ok_c hn (hs.2.2.1), fun w => ?_⟩) k
  exact lv_iconst (v := Int32.ofInt n) hc.1 hc.2.1 hd rfl w
theorem Go_bipush {n : Int} (hn : (Int8.ofInt n).toInt32 = Int32.ofInt n ∧ in32 n) (hd : decode (gCode m) pc = .ok (.bipush n, 2)) (k : Go D ca sc R m (pc + 2) ls (gI n :: st) sh M rv sh' M') : Go D ca sc R m pc ls (st) sh M rv sh' M' := by
  refine Go_step (st' := gI n :: st) (fun p l e s mi args below meth c Q ad H locs cells slots A H0 lc hc hs => ⟨ok_c hn.2 (hs.2.2.1), fun w => ?_⟩) k
  exact lv_bipush (v := Int32.ofInt n) hc.1 hc.2.1 hd hn.1 w
theorem Go_sipush {n : Int} (hn : (Int16.ofInt n).toInt32 = Int32.ofInt n ∧ in32 n) (hd : decode (gCode m) pc = .ok (.sipush n, 3)) (k : Go D ca sc R m (pc + 3) ls (gI n :: st) sh M rv sh' M') : Go D ca sc R m pc ls (st) sh M rv sh' M' := by
  refine Go_step (st' := gI n :: st) (fun p l e s mi args below meth c Q ad H locs cells slots A H0 lc hc hs => ⟨ok_c hn.2 (hs.2.2.1), fun w => ?_⟩) k
  exact lv_sipush (v := Int32.ofInt n) hc.1 hc.2.1 hd hn.1 w
theorem Go_lconst {n : Fin 2} {v : Int} (hn : Int64.ofNat (n : Nat) = Int64.ofInt v ∧ in64 v) (hd : decode (gCode m) pc = .ok (.lconst n, 1)) (k : Go D ca sc R m (pc + 1) ls (gJ v :: st) sh M rv sh' M') : Go D ca sc R m pc ls (st) sh M rv sh' M' := by
  refine Go_step (st' := gJ v :: st) (fun p l e s mi args below meth c Q ad H locs cells slots A H0 lc hc hs => ⟨ok_c hn.2 (hs.2.2.1), fun w => ?_⟩) k
  exact lv_lconst (v := Int64.ofInt v) hc.1 hc.2.1 hd hn.1 w
theorem Go_ldc {i : Nat} {v : Int} (hn : Cond.constant (gOwn m) i (Int32.ofInt v) ∈ gTb) (hv : in32 v) (hd : decode (gCode m) pc = .ok (.ldc i, 2)) (k : Go D ca sc R m (pc + 2) ls (gI v :: st) sh M rv sh' M') : Go D ca sc R m pc ls (st) sh M rv sh' M' := by
  refine Go_step (st' := gI v :: st) (fun p l e s mi args below meth c Q ad H locs cells slots A H0 lc hc hs => ⟨ok_c hv (hs.2.2.1), fun w => ?_⟩) k
  exact lv_ldc (v := Int32.ofInt v) hc.1 hc.2.1 hc.2.2.2.2.1 (hc.2.2.2.2.2.1 _ hn) hd w
theorem Go_ldcw {i : Nat} {v : Int} (hn : Cond.constant (gOwn m) i (Int32.ofInt v) ∈ gTb) (hv : in32 v) (hd : decode (gCode m) pc = .ok (.ldc_w i, 3)) (k : Go D ca sc R m (pc + 3) ls (gI v :: st) sh M rv sh' M') : Go D ca sc R m pc ls (st) sh M rv sh' M' := by
  refine Go_step (st' := gI v :: st) (fun p l e s mi args below meth c Q ad H locs cells slots A H0 lc hc hs => ⟨ok_c hv (hs.2.2.1), fun w => ?_⟩) k
  exact lv_ldcw (v := Int32.ofInt v) hc.1 hc.2.1 hc.2.2.2.2.1 (hc.2.2.2.2.2.1 _ hn) hd w
theorem Go_ldc2 {i : Nat} {v : Int} (hn : Cond.constantLong (gOwn m) i (Int64.ofInt v) ∈ gTb) (hv : in64 v) (hd : decode (gCode m) pc = .ok (.ldc2_w i, 3)) (k : Go D ca sc R m (pc + 3) ls (gJ v :: st) sh M rv sh' M') : Go D ca sc R m pc ls (st) sh M rv sh' M' := by
  refine Go_step (st' := gJ v :: st) (fun p l e s mi args below meth c Q ad H locs cells slots A H0 lc hc hs => ⟨ok_c hv (hs.2.2.1), fun w => ?_⟩) k
  exact lv_ldc2 (v := Int64.ofInt v) hc.1 hc.2.1 hc.2.2.2.2.1 (hc.2.2.2.2.2.1 _ hn) hd w
theorem Go_dupI {x : Int} (hd : decode (gCode m) pc = .ok (.dup, 1)) (k : Go D ca sc R m (pc + 1) ls (gI x :: gI x :: st) sh M rv sh' M') : Go D ca sc R m pc ls (gI x :: st) sh M rv sh' M' := by
  refine Go_step (st' := gI x :: gI x :: st) (fun p l e s mi args below meth c Q ad H locs cells slots A H0 lc hc hs => ⟨ok_c (ok_h hs.2.2.1) (ok_c (ok_h hs.2.2.1) ((ok_t hs.2.2.1))), fun w => ?_⟩) k
  exact lv_dup (va := .int (Int32.ofInt x)) hc.1 hc.2.1 hd rfl w
theorem Go_dupR {x : Int} (hd : decode (gCode m) pc = .ok (.dup, 1)) (k : Go D ca sc R m (pc + 1) ls ((2, x) :: (2, x) :: st) sh M rv sh' M') : Go D ca sc R m pc ls ((2, x) :: st) sh M rv sh' M' := by
  refine Go_step (st' := (2, x) :: (2, x) :: st) (fun p l e s mi args below meth c Q ad H locs cells slots A H0 lc hc hs => ⟨ok_c (ok_h hs.2.2.1) (ok_c (ok_h hs.2.2.1) ((ok_t hs.2.2.1))), fun w => ?_⟩) k
  refine lv_dup (va := va_rf (gRf ad x)) hc.1 hc.2.1 hd ?_ w
  rcases va_rf_or (gRf ad x) with h | ⟨a, h⟩ <;> rw [h] <;> rfl
theorem at_iload {ad : Nat → Nat} {lc : Array Slot} {nL k i : Nat} {x : Int} (hl : lv_has lc nL (ls.map fun q => (q.1, gVl ca ad q.2.1 q.2.2))) (hk : ls[k]? = some (i, gI x)) : lc[i]? = some (.val (.int (Int32.ofInt x))) := hl.2.2 (i, .int (Int32.ofInt x)) (List.mem_map.mpr ⟨(i, gI x), List.mem_of_getElem? hk, rfl⟩)
theorem Go_iload {x : Int} {i : Nat} (k0 : Nat) (hk : ls[k0]? = some (i, gI x)) (hd : decode (gCode m) pc = .ok (.iload i, 2)) (k : Go D ca sc R m (pc + 2) ls (gI x :: st) sh M rv sh' M') : Go D ca sc R m pc ls (st) sh M rv sh' M' := by
  refine Go_step (st' := gI x :: st) (fun p l e s mi args below meth c Q ad H locs cells slots A H0 lc hc hs => ⟨ok_c (hs.2.1 _ (List.mem_of_getElem? hk)) (hs.2.2.1), fun w => ?_⟩) k
  exact lv_iload hc.1 hc.2.1 hd (at_iload hs.1 hk) w
theorem Go_iload_n {x : Int} {i : Nat} {n : Fin 4} (k0 : Nat) (hi : (n : Nat) = i) (hk : ls[k0]? = some (i, gI x)) (hd : decode (gCode m) pc = .ok (.iload_n n, 1)) (k : Go D ca sc R m (pc + 1) ls (gI x :: st) sh M rv sh' M') : Go D ca sc R m pc ls (st) sh M rv sh' M' := by
  refine Go_step (st' := gI x :: st) (fun p l e s mi args below meth c Q ad H locs cells slots A H0 lc hc hs => ⟨ok_c (hs.2.1 _ (List.mem_of_getElem? hk)) (hs.2.2.1), fun w => ?_⟩) k
  exact lv_iload_n hc.1 hc.2.1 hd hi (at_iload hs.1 hk) w
theorem at_lload {ad : Nat → Nat} {lc : Array Slot} {nL k i : Nat} {x : Int} (hl : lv_has lc nL (ls.map fun q => (q.1, gVl ca ad q.2.1 q.2.2))) (hk : ls[k]? = some (i, gJ x)) : lc[i]? = some (.val (.long (Int64.ofInt x))) := hl.2.2 (i, .long (Int64.ofInt x)) (List.mem_map.mpr ⟨(i, gJ x), List.mem_of_getElem? hk, rfl⟩)
theorem Go_lload {x : Int} {i : Nat} (k0 : Nat) (hk : ls[k0]? = some (i, gJ x)) (hd : decode (gCode m) pc = .ok (.lload i, 2)) (k : Go D ca sc R m (pc + 2) ls (gJ x :: st) sh M rv sh' M') : Go D ca sc R m pc ls (st) sh M rv sh' M' := by
  refine Go_step (st' := gJ x :: st) (fun p l e s mi args below meth c Q ad H locs cells slots A H0 lc hc hs => ⟨ok_c (hs.2.1 _ (List.mem_of_getElem? hk)) (hs.2.2.1), fun w => ?_⟩) k
  exact lv_lload hc.1 hc.2.1 hd (at_lload hs.1 hk) w
theorem Go_lload_n {x : Int} {i : Nat} {n : Fin 4} (k0 : Nat) (hi : (n : Nat) = i) (hk : ls[k0]? = some (i, gJ x)) (hd : decode (gCode m) pc = .ok (.lload_n n, 1)) (k : Go D ca sc R m (pc + 1) ls (gJ x :: st) sh M rv sh' M') : Go D ca sc R m pc ls (st) sh M rv sh' M' := by
  refine Go_step (st' := gJ x :: st) (fun p l e s mi args below meth c Q ad H locs cells slots A H0 lc hc hs => ⟨ok_c (hs.2.1 _ (List.mem_of_getElem? hk)) (hs.2.2.1), fun w => ?_⟩) k
  exact lv_lload_n hc.1 hc.2.1 hd hi (at_lload hs.1 hk) w
theorem gVl_R {ad : Nat → Nat} (k : Nat) : gVl ca ad 2 ((k : Int) + 1) = .ref (ad k) := by
  have h1 : ((k : Int) + 1) ≠ 0 := by omega
  have h2 : ((k : Int) + 1).toNat - 1 = k := by omega
  simp only [gVl, gRf, if_neg h1, h2, va_rf]
theorem at_aload {ad : Nat → Nat} {lc : Array Slot} {nL k i : Nat} {x : Nat} (hl : lv_has lc nL (ls.map fun q => (q.1, gVl ca ad q.2.1 q.2.2))) (hk : ls[k]? = some (i, gR x)) : lc[i]? = some (.val (.ref (ad x))) := hl.2.2 (i, .ref (ad x)) (List.mem_map.mpr ⟨(i, gR x), List.mem_of_getElem? hk, by rw [← gVl_R (ca := ca)]⟩)
theorem at_sload {ad : Nat → Nat} {lc : Array Slot} {nL k i : Nat} (hl : lv_has lc nL (ls.map fun q => (q.1, gVl ca ad q.2.1 q.2.2))) (hk : ls[k]? = some (i, gS)) : lc[i]? = some (.val (.ref (ca 9))) := hl.2.2 (i, .ref (ca 9)) (List.mem_map.mpr ⟨(i, gS), List.mem_of_getElem? hk, rfl⟩)
theorem mapR {ad : Nat → Nat} (k : Nat) (st : List gAV) : (gR k :: st).map (fun v => gVl ca ad v.1 v.2) = .ref (ad k) :: st.map (fun v => gVl ca ad v.1 v.2) := by rw [List.map_cons, gVl_R]
theorem Go_aload_n {x : Nat} {i : Nat} {n : Fin 4} (k0 : Nat) (hi : (n : Nat) = i) (hk : ls[k0]? = some (i, gR x)) (hd : decode (gCode m) pc = .ok (.aload_n n, 1)) (k : Go D ca sc R m (pc + 1) ls (gR x :: st) sh M rv sh' M') : Go D ca sc R m pc ls (st) sh M rv sh' M' := by
  refine Go_step (st' := gR x :: st) (fun p l e s mi args below meth c Q ad H locs cells slots A H0 lc hc hs => ⟨ok_c (hs.2.1 _ (List.mem_of_getElem? hk)) (hs.2.2.1), fun w => ?_⟩) k
  refine lv_aload_n hc.1 hc.2.1 hd hi (at_aload hs.1 hk) ?_
  rw [mapR] at w
  exact w
theorem Go_sload_n {i : Nat} {n : Fin 4} (k0 : Nat) (hi : (n : Nat) = i) (hk : ls[k0]? = some (i, gS)) (hd : decode (gCode m) pc = .ok (.aload_n n, 1)) (k : Go D ca sc R m (pc + 1) ls (gS :: st) sh M rv sh' M') : Go D ca sc R m pc ls (st) sh M rv sh' M' := by
  refine Go_step (st' := gS :: st) (fun p l e s mi args below meth c Q ad H locs cells slots A H0 lc hc hs => ⟨ok_c trivial (hs.2.2.1), fun w => ?_⟩) k
  exact lv_aload_n hc.1 hc.2.1 hd hi (at_sload hs.1 hk) w
theorem Go_icmp_eq {x y : Int} {off : Int} {tgt : Nat} (hd : decode (gCode m) pc = .ok (.if_icmp .eq off, 3)) (ht : (pc : Int) + off = (tgt : Int)) (kt : x = y → Go D ca sc R m tgt ls (st) sh M rv sh' M') (kf : x ≠ y → Go D ca sc R m (pc + 3) ls (st) sh M rv sh' M') : Go D ca sc R m pc ls (gI y :: gI x :: st) sh M rv sh' M' := by
  intro p l e s mi args below meth c Q ad H locs cells slots A H0 lc hc hs hr1 hr2 hk
  have hy : in32 y := ok_h hs.2.2.1
  have hx : in32 x := ok_h (ok_t hs.2.2.1)
  have w1 := fun q => kt q p l e s mi args below meth c Q ad H locs cells slots A H0 lc hc ⟨hs.1, hs.2.1, (ok_t (ok_t hs.2.2.1)), hs.2.2.2⟩ hr1 hr2 hk
  have w2 := fun q => kf q p l e s mi args below meth c Q ad H locs cells slots A H0 lc hc ⟨hs.1, hs.2.1, (ok_t (ok_t hs.2.2.1)), hs.2.2.2⟩ hr1 hr2 hk
  exact lv_icmp_eq (x := Int32.ofInt x) (y := Int32.ofInt y) hc.1 hc.2.1 hd ht (fun h => w1 ((eq32 hx hy).mp h)) (fun h => w2 (fun q => h ((eq32 hx hy).mpr q)))
theorem Go_if_eq {x : Int} {off : Int} {tgt : Nat} (hd : decode (gCode m) pc = .ok (.ifCond .eq off, 3)) (ht : (pc : Int) + off = (tgt : Int)) (kt : x = 0 → Go D ca sc R m tgt ls (st) sh M rv sh' M') (kf : x ≠ 0 → Go D ca sc R m (pc + 3) ls (st) sh M rv sh' M') : Go D ca sc R m pc ls (gI x :: st) sh M rv sh' M' := by
  intro p l e s mi args below meth c Q ad H locs cells slots A H0 lc hc hs hr1 hr2 hk
  have hx : in32 x := ok_h hs.2.2.1
  have hy : in32 0 := in32_0
  have w1 := fun q => kt q p l e s mi args below meth c Q ad H locs cells slots A H0 lc hc ⟨hs.1, hs.2.1, (ok_t hs.2.2.1), hs.2.2.2⟩ hr1 hr2 hk
  have w2 := fun q => kf q p l e s mi args below meth c Q ad H locs cells slots A H0 lc hc ⟨hs.1, hs.2.1, (ok_t hs.2.2.1), hs.2.2.2⟩ hr1 hr2 hk
  exact lv_if_eq (x := Int32.ofInt x) hc.1 hc.2.1 hd ht (fun h => w1 ((eq32 hx hy).mp h)) (fun h => w2 (fun q => h ((eq32 hx hy).mpr q)))
theorem Go_icmp_ne {x y : Int} {off : Int} {tgt : Nat} (hd : decode (gCode m) pc = .ok (.if_icmp .ne off, 3)) (ht : (pc : Int) + off = (tgt : Int)) (kt : x ≠ y → Go D ca sc R m tgt ls (st) sh M rv sh' M') (kf : x = y → Go D ca sc R m (pc + 3) ls (st) sh M rv sh' M') : Go D ca sc R m pc ls (gI y :: gI x :: st) sh M rv sh' M' := by
  intro p l e s mi args below meth c Q ad H locs cells slots A H0 lc hc hs hr1 hr2 hk
  have hy : in32 y := ok_h hs.2.2.1
  have hx : in32 x := ok_h (ok_t hs.2.2.1)
  have w1 := fun q => kt q p l e s mi args below meth c Q ad H locs cells slots A H0 lc hc ⟨hs.1, hs.2.1, (ok_t (ok_t hs.2.2.1)), hs.2.2.2⟩ hr1 hr2 hk
  have w2 := fun q => kf q p l e s mi args below meth c Q ad H locs cells slots A H0 lc hc ⟨hs.1, hs.2.1, (ok_t (ok_t hs.2.2.1)), hs.2.2.2⟩ hr1 hr2 hk
  exact lv_icmp_ne (x := Int32.ofInt x) (y := Int32.ofInt y) hc.1 hc.2.1 hd ht (fun h => w1 (fun q => h ((eq32 hx hy).mpr q))) (fun h => w2 ((eq32 hx hy).mp h))
theorem Go_if_ne {x : Int} {off : Int} {tgt : Nat} (hd : decode (gCode m) pc = .ok (.ifCond .ne off, 3)) (ht : (pc : Int) + off = (tgt : Int)) (kt : x ≠ 0 → Go D ca sc R m tgt ls (st) sh M rv sh' M') (kf : x = 0 → Go D ca sc R m (pc + 3) ls (st) sh M rv sh' M') : Go D ca sc R m pc ls (gI x :: st) sh M rv sh' M' := by
  intro p l e s mi args below meth c Q ad H locs cells slots A H0 lc hc hs hr1 hr2 hk
  have hx : in32 x := ok_h hs.2.2.1
  have hy : in32 0 := in32_0
  have w1 := fun q => kt q p l e s mi args below meth c Q ad H locs cells slots A H0 lc hc ⟨hs.1, hs.2.1, (ok_t hs.2.2.1), hs.2.2.2⟩ hr1 hr2 hk
  have w2 := fun q => kf q p l e s mi args below meth c Q ad H locs cells slots A H0 lc hc ⟨hs.1, hs.2.1, (ok_t hs.2.2.1), hs.2.2.2⟩ hr1 hr2 hk
  exact lv_if_ne (x := Int32.ofInt x) hc.1 hc.2.1 hd ht (fun h => w1 (fun q => h ((eq32 hx hy).mpr q))) (fun h => w2 ((eq32 hx hy).mp h))
theorem Go_icmp_lt {x y : Int} {off : Int} {tgt : Nat} (hd : decode (gCode m) pc = .ok (.if_icmp .lt off, 3)) (ht : (pc : Int) + off = (tgt : Int)) (kt : x < y → Go D ca sc R m tgt ls (st) sh M rv sh' M') (kf : y ≤ x → Go D ca sc R m (pc + 3) ls (st) sh M rv sh' M') : Go D ca sc R m pc ls (gI y :: gI x :: st) sh M rv sh' M' := by
  intro p l e s mi args below meth c Q ad H locs cells slots A H0 lc hc hs hr1 hr2 hk
  have hy : in32 y := ok_h hs.2.2.1
  have hx : in32 x := ok_h (ok_t hs.2.2.1)
  have w1 := fun q => kt q p l e s mi args below meth c Q ad H locs cells slots A H0 lc hc ⟨hs.1, hs.2.1, (ok_t (ok_t hs.2.2.1)), hs.2.2.2⟩ hr1 hr2 hk
  have w2 := fun q => kf q p l e s mi args below meth c Q ad H locs cells slots A H0 lc hc ⟨hs.1, hs.2.1, (ok_t (ok_t hs.2.2.1)), hs.2.2.2⟩ hr1 hr2 hk
  exact lv_icmp_lt (x := Int32.ofInt x) (y := Int32.ofInt y) hc.1 hc.2.1 hd ht (fun h => w1 ((lt32 hx hy).mp h)) (fun h => w2 (Int.not_lt.mp (fun q => h ((lt32 hx hy).mpr q))))
theorem Go_if_lt {x : Int} {off : Int} {tgt : Nat} (hd : decode (gCode m) pc = .ok (.ifCond .lt off, 3)) (ht : (pc : Int) + off = (tgt : Int)) (kt : x < 0 → Go D ca sc R m tgt ls (st) sh M rv sh' M') (kf : 0 ≤ x → Go D ca sc R m (pc + 3) ls (st) sh M rv sh' M') : Go D ca sc R m pc ls (gI x :: st) sh M rv sh' M' := by
  intro p l e s mi args below meth c Q ad H locs cells slots A H0 lc hc hs hr1 hr2 hk
  have hx : in32 x := ok_h hs.2.2.1
  have hy : in32 0 := in32_0
  have w1 := fun q => kt q p l e s mi args below meth c Q ad H locs cells slots A H0 lc hc ⟨hs.1, hs.2.1, (ok_t hs.2.2.1), hs.2.2.2⟩ hr1 hr2 hk
  have w2 := fun q => kf q p l e s mi args below meth c Q ad H locs cells slots A H0 lc hc ⟨hs.1, hs.2.1, (ok_t hs.2.2.1), hs.2.2.2⟩ hr1 hr2 hk
  exact lv_if_lt (x := Int32.ofInt x) hc.1 hc.2.1 hd ht (fun h => w1 ((lt32 hx hy).mp h)) (fun h => w2 (Int.not_lt.mp (fun q => h ((lt32 hx hy).mpr q))))
theorem Go_icmp_ge {x y : Int} {off : Int} {tgt : Nat} (hd : decode (gCode m) pc = .ok (.if_icmp .ge off, 3)) (ht : (pc : Int) + off = (tgt : Int)) (kt : y ≤ x → Go D ca sc R m tgt ls (st) sh M rv sh' M') (kf : x < y → Go D ca sc R m (pc + 3) ls (st) sh M rv sh' M') : Go D ca sc R m pc ls (gI y :: gI x :: st) sh M rv sh' M' := by
  intro p l e s mi args below meth c Q ad H locs cells slots A H0 lc hc hs hr1 hr2 hk
  have hy : in32 y := ok_h hs.2.2.1
  have hx : in32 x := ok_h (ok_t hs.2.2.1)
  have w1 := fun q => kt q p l e s mi args below meth c Q ad H locs cells slots A H0 lc hc ⟨hs.1, hs.2.1, (ok_t (ok_t hs.2.2.1)), hs.2.2.2⟩ hr1 hr2 hk
  have w2 := fun q => kf q p l e s mi args below meth c Q ad H locs cells slots A H0 lc hc ⟨hs.1, hs.2.1, (ok_t (ok_t hs.2.2.1)), hs.2.2.2⟩ hr1 hr2 hk
  exact lv_icmp_ge (x := Int32.ofInt x) (y := Int32.ofInt y) hc.1 hc.2.1 hd ht (fun h => w1 ((le32 hy hx).mp h)) (fun h => w2 (Int.not_le.mp (fun q => h ((le32 hy hx).mpr q))))
theorem Go_if_ge {x : Int} {off : Int} {tgt : Nat} (hd : decode (gCode m) pc = .ok (.ifCond .ge off, 3)) (ht : (pc : Int) + off = (tgt : Int)) (kt : 0 ≤ x → Go D ca sc R m tgt ls (st) sh M rv sh' M') (kf : x < 0 → Go D ca sc R m (pc + 3) ls (st) sh M rv sh' M') : Go D ca sc R m pc ls (gI x :: st) sh M rv sh' M' := by
  intro p l e s mi args below meth c Q ad H locs cells slots A H0 lc hc hs hr1 hr2 hk
  have hx : in32 x := ok_h hs.2.2.1
  have hy : in32 0 := in32_0
  have w1 := fun q => kt q p l e s mi args below meth c Q ad H locs cells slots A H0 lc hc ⟨hs.1, hs.2.1, (ok_t hs.2.2.1), hs.2.2.2⟩ hr1 hr2 hk
  have w2 := fun q => kf q p l e s mi args below meth c Q ad H locs cells slots A H0 lc hc ⟨hs.1, hs.2.1, (ok_t hs.2.2.1), hs.2.2.2⟩ hr1 hr2 hk
  exact lv_if_ge (x := Int32.ofInt x) hc.1 hc.2.1 hd ht (fun h => w1 ((le32 hy hx).mp h)) (fun h => w2 (Int.not_le.mp (fun q => h ((le32 hy hx).mpr q))))
theorem Go_icmp_gt {x y : Int} {off : Int} {tgt : Nat} (hd : decode (gCode m) pc = .ok (.if_icmp .gt off, 3)) (ht : (pc : Int) + off = (tgt : Int)) (kt : y < x → Go D ca sc R m tgt ls (st) sh M rv sh' M') (kf : x ≤ y → Go D ca sc R m (pc + 3) ls (st) sh M rv sh' M') : Go D ca sc R m pc ls (gI y :: gI x :: st) sh M rv sh' M' := by
  intro p l e s mi args below meth c Q ad H locs cells slots A H0 lc hc hs hr1 hr2 hk
  have hy : in32 y := ok_h hs.2.2.1
  have hx : in32 x := ok_h (ok_t hs.2.2.1)
  have w1 := fun q => kt q p l e s mi args below meth c Q ad H locs cells slots A H0 lc hc ⟨hs.1, hs.2.1, (ok_t (ok_t hs.2.2.1)), hs.2.2.2⟩ hr1 hr2 hk
  have w2 := fun q => kf q p l e s mi args below meth c Q ad H locs cells slots A H0 lc hc ⟨hs.1, hs.2.1, (ok_t (ok_t hs.2.2.1)), hs.2.2.2⟩ hr1 hr2 hk
  exact lv_icmp_gt (x := Int32.ofInt x) (y := Int32.ofInt y) hc.1 hc.2.1 hd ht (fun h => w1 ((lt32 hy hx).mp h)) (fun h => w2 (Int.not_lt.mp (fun q => h ((lt32 hy hx).mpr q))))
theorem Go_if_gt {x : Int} {off : Int} {tgt : Nat} (hd : decode (gCode m) pc = .ok (.ifCond .gt off, 3)) (ht : (pc : Int) + off = (tgt : Int)) (kt : 0 < x → Go D ca sc R m tgt ls (st) sh M rv sh' M') (kf : x ≤ 0 → Go D ca sc R m (pc + 3) ls (st) sh M rv sh' M') : Go D ca sc R m pc ls (gI x :: st) sh M rv sh' M' := by
  intro p l e s mi args below meth c Q ad H locs cells slots A H0 lc hc hs hr1 hr2 hk
  have hx : in32 x := ok_h hs.2.2.1
  have hy : in32 0 := in32_0
  have w1 := fun q => kt q p l e s mi args below meth c Q ad H locs cells slots A H0 lc hc ⟨hs.1, hs.2.1, (ok_t hs.2.2.1), hs.2.2.2⟩ hr1 hr2 hk
  have w2 := fun q => kf q p l e s mi args below meth c Q ad H locs cells slots A H0 lc hc ⟨hs.1, hs.2.1, (ok_t hs.2.2.1), hs.2.2.2⟩ hr1 hr2 hk
  exact lv_if_gt (x := Int32.ofInt x) hc.1 hc.2.1 hd ht (fun h => w1 ((lt32 hy hx).mp h)) (fun h => w2 (Int.not_lt.mp (fun q => h ((lt32 hy hx).mpr q))))
theorem Go_icmp_le {x y : Int} {off : Int} {tgt : Nat} (hd : decode (gCode m) pc = .ok (.if_icmp .le off, 3)) (ht : (pc : Int) + off = (tgt : Int)) (kt : x ≤ y → Go D ca sc R m tgt ls (st) sh M rv sh' M') (kf : y < x → Go D ca sc R m (pc + 3) ls (st) sh M rv sh' M') : Go D ca sc R m pc ls (gI y :: gI x :: st) sh M rv sh' M' := by
  intro p l e s mi args below meth c Q ad H locs cells slots A H0 lc hc hs hr1 hr2 hk
  have hy : in32 y := ok_h hs.2.2.1
  have hx : in32 x := ok_h (ok_t hs.2.2.1)
  have w1 := fun q => kt q p l e s mi args below meth c Q ad H locs cells slots A H0 lc hc ⟨hs.1, hs.2.1, (ok_t (ok_t hs.2.2.1)), hs.2.2.2⟩ hr1 hr2 hk
  have w2 := fun q => kf q p l e s mi args below meth c Q ad H locs cells slots A H0 lc hc ⟨hs.1, hs.2.1, (ok_t (ok_t hs.2.2.1)), hs.2.2.2⟩ hr1 hr2 hk
  exact lv_icmp_le (x := Int32.ofInt x) (y := Int32.ofInt y) hc.1 hc.2.1 hd ht (fun h => w1 ((le32 hx hy).mp h)) (fun h => w2 (Int.not_le.mp (fun q => h ((le32 hx hy).mpr q))))
theorem Go_if_le {x : Int} {off : Int} {tgt : Nat} (hd : decode (gCode m) pc = .ok (.ifCond .le off, 3)) (ht : (pc : Int) + off = (tgt : Int)) (kt : x ≤ 0 → Go D ca sc R m tgt ls (st) sh M rv sh' M') (kf : 0 < x → Go D ca sc R m (pc + 3) ls (st) sh M rv sh' M') : Go D ca sc R m pc ls (gI x :: st) sh M rv sh' M' := by
  intro p l e s mi args below meth c Q ad H locs cells slots A H0 lc hc hs hr1 hr2 hk
  have hx : in32 x := ok_h hs.2.2.1
  have hy : in32 0 := in32_0
  have w1 := fun q => kt q p l e s mi args below meth c Q ad H locs cells slots A H0 lc hc ⟨hs.1, hs.2.1, (ok_t hs.2.2.1), hs.2.2.2⟩ hr1 hr2 hk
  have w2 := fun q => kf q p l e s mi args below meth c Q ad H locs cells slots A H0 lc hc ⟨hs.1, hs.2.1, (ok_t hs.2.2.1), hs.2.2.2⟩ hr1 hr2 hk
  exact lv_if_le (x := Int32.ofInt x) hc.1 hc.2.1 hd ht (fun h => w1 ((le32 hx hy).mp h)) (fun h => w2 (Int.not_le.mp (fun q => h ((le32 hx hy).mpr q))))
theorem Go_goto {off : Int} {tgt : Nat} (hd : decode (gCode m) pc = .ok (.goto off, 3)) (ht : (pc : Int) + off = (tgt : Int)) (k : Go D ca sc R m tgt ls (st) sh M rv sh' M') : Go D ca sc R m pc ls (st) sh M rv sh' M' :=
  Go_step (fun p l e s mi args below meth c Q ad H locs cells slots A H0 lc hc hs => ⟨hs.2.2.1, fun w => lv_goto hc.1 hc.2.1 hd ht w⟩) k
end GO
end
section
def gSet (M : gMem) (i : Nat) (r : Nat → Int) : gMem := fun i' => if i' = i then r else M i'
def gUp (r : Nat → Int) (j : Nat) (x : Int) : Nat → Int := fun j' => if j' = j then x else r j'
theorem gSet_s (M : gMem) (i : Nat) (r : Nat → Int) : gSet M i r i = r := if_pos rfl
theorem gSet_n {M : gMem} {i i' : Nat} {r : Nat → Int} (h : i' ≠ i) : gSet M i r i' = M i' := if_neg h
theorem gUp_s (r : Nat → Int) (j : Nat) (x : Int) : gUp r j x j = x := if_pos rfl
theorem gUp_n {r : Nat → Int} {j j' : Nat} {x : Int} (h : j' ≠ j) : gUp r j x j' = r j' := if_neg h
section GM
variable {D : va_G} {ca : Nat → ClassId} {sc : gScr} {R : Room} {m : gMd} {pc pc' : Nat} {ls ls' : gLs} {st st' : List gAV} {sh sh' : gShp} {M M' : gMem} {rv : List gAV}
theorem cat_gVl (ad : Nat → Nat) (t : Nat) (x : Int) : ((gVl ca ad t x).category == 2) = (t == 1) := by
  match t with
  | 0 => rfl
  | 1 => rfl
  | 2 =>
    show ((va_rf (gRf ad x)).category == 2) = false
    rcases va_rf_or (gRf ad x) with h | ⟨a, h⟩ <;> rw [h] <;> rfl
  | 3 => rfl
  | n + 4 => rfl
theorem flt_1 (ad : Nat → Nat) (i : Nat) : (ls.map fun q => (q.1, gVl ca ad q.2.1 q.2.2)).filter (fun q => !(q.1 == i) && !(q.1 + 1 == i && q.2.category == 2)) = (ls.filter (fun q => !(q.1 == i) && !(q.1 + 1 == i && q.2.1 == 1))).map fun q => (q.1, gVl ca ad q.2.1 q.2.2) := by
  rw [List.filter_map]
  congr 1
  refine List.filter_congr (fun q _ => ?_)
  show (!(q.1 == i) && !(q.1 + 1 == i && (gVl ca ad q.2.1 q.2.2).category == 2)) = _
  rw [cat_gVl]
theorem flt_2 (ad : Nat → Nat) (i : Nat) : (ls.map fun q => (q.1, gVl ca ad q.2.1 q.2.2)).filter (fun q => !(q.1 == i) && (!(q.1 == i + 1) && !(q.1 + 1 == i && q.2.category == 2))) = (ls.filter (fun q => !(q.1 == i) && (!(q.1 == i + 1) && !(q.1 + 1 == i && q.2.1 == 1)))).map fun q => (q.1, gVl ca ad q.2.1 q.2.2) := by
  rw [List.filter_map]
  congr 1
  refine List.filter_congr (fun q _ => ?_)
  show (!(q.1 == i) && (!(q.1 == i + 1) && !(q.1 + 1 == i && (gVl ca ad q.2.1 q.2.2).category == 2))) = _
  rw [cat_gVl]
/-- fewer locals are known -/
theorem Go_ls (h : ∀ q ∈ ls', q ∈ ls) (k : Go D ca sc R m pc ls' (st) sh M rv sh' M') : Go D ca sc R m pc ls (st) sh M rv sh' M' := by
  intro p l e s mi args below meth c Q ad H locs cells slots A H0 lc hc hs hr1 hr2 hk
  obtain ⟨hl, hlo, hso, hok, hP, hD, hS⟩ := hs
  exact k p l e s mi args below meth c Q ad H locs cells slots A H0 lc hc ⟨⟨hl.1, hl.2.1, fun q hq => by
    obtain ⟨z, hz, rfl⟩ := List.mem_map.mp hq
    exact hl.2.2 _ (List.mem_map.mpr ⟨z, h z hz, rfl⟩)⟩, fun q hq => hlo q (h q hq), hso, hok, hP, hD, hS⟩ hr1 hr2 hk
theorem Go_pick (ks : List Nat) (h : ks.map (fun k => ls[k]?) = ls'.map some) (k : Go D ca sc R m pc ls' (st) sh M rv sh' M') : Go D ca sc R m pc ls (st) sh M rv sh' M' := by
  refine Go_ls (fun q hq => ?_) k
  have h1 : some q ∈ ks.map (fun k => ls[k]?) := by rw [h]; exact List.mem_map.mpr ⟨q, hq, rfl⟩
  obtain ⟨j, -, hj⟩ := List.mem_map.mp h1
  exact List.mem_of_getElem? hj
theorem Go_istore_n {x : Int} {i : Nat} {n : Fin 4} (hi : (n : Nat) = i) (hd : decode (gCode m) pc = .ok (.istore_n n, 1)) (hn : i < gNL m) (hl' : (i, gI x) :: ls.filter (fun q => !(q.1 == i) && !(q.1 + 1 == i && q.2.1 == 1)) = ls') (k : Go D ca sc R m (pc + 1) ls' (st) sh M rv sh' M') : Go D ca sc R m pc ls (gI x :: st) sh M rv sh' M' := by
  intro p l e s mi args below meth c Q ad H locs cells slots A H0 lc hc hs hr1 hr2 hk
  obtain ⟨hl, hlo, hso, hok, hP, hD, hS⟩ := hs
  refine lv_istore_n (x := Int32.ofInt x) hc.1 hc.2.1 hd hi hl hn rfl (fun lc' hl2 => ?_)
  refine k p l e s mi args below meth c Q ad H locs cells slots A H0 lc' hc ⟨?_, ?_, ok_t hso, hok, hP, hD, hS⟩ hr1 hr2 hk
  · rw [flt_1] at hl2
    subst hl'
    exact hl2
  · subst hl'
    intro q hq
    rcases List.mem_cons.mp hq with rfl | hq
    · exact ok_h hso
    · exact hlo q (List.mem_filter.mp hq).1
theorem Go_lstore_n {x : Int} {i : Nat} {n : Fin 4} (hi : (n : Nat) = i) (hd : decode (gCode m) pc = .ok (.lstore_n n, 1)) (hn : i + 1 < gNL m) (hl' : (i, gJ x) :: ls.filter (fun q => !(q.1 == i) && (!(q.1 == i + 1) && !(q.1 + 1 == i && q.2.1 == 1))) = ls') (k : Go D ca sc R m (pc + 1) ls' (st) sh M rv sh' M') : Go D ca sc R m pc ls (gJ x :: st) sh M rv sh' M' := by
  intro p l e s mi args below meth c Q ad H locs cells slots A H0 lc hc hs hr1 hr2 hk
  obtain ⟨hl, hlo, hso, hok, hP, hD, hS⟩ := hs
  refine lv_lstore_n (x := Int64.ofInt x) hc.1 hc.2.1 hd hi hl hn rfl (fun lc' hl2 => ?_)
  refine k p l e s mi args below meth c Q ad H locs cells slots A H0 lc' hc ⟨?_, ?_, ok_t hso, hok, hP, hD, hS⟩ hr1 hr2 hk
  · rw [flt_2] at hl2
    subst hl'
    exact hl2
  · subst hl'
    intro q hq
    rcases List.mem_cons.mp hq with rfl | hq
    · exact ok_h hso
    · exact hlo q (List.mem_filter.mp hq).1
theorem Go_istore {x : Int} {i : Nat} (hd : decode (gCode m) pc = .ok (.istore i, 2)) (hn : i < gNL m) (hl' : (i, gI x) :: ls.filter (fun q => !(q.1 == i) && !(q.1 + 1 == i && q.2.1 == 1)) = ls') (k : Go D ca sc R m (pc + 2) ls' (st) sh M rv sh' M') : Go D ca sc R m pc ls (gI x :: st) sh M rv sh' M' := by
  intro p l e s mi args below meth c Q ad H locs cells slots A H0 lc hc hs hr1 hr2 hk
  obtain ⟨hl, hlo, hso, hok, hP, hD, hS⟩ := hs
  refine lv_istore (x := Int32.ofInt x) hc.1 hc.2.1 hd hl hn rfl (fun lc' hl2 => ?_)
  refine k p l e s mi args below meth c Q ad H locs cells slots A H0 lc' hc ⟨?_, ?_, ok_t hso, hok, hP, hD, hS⟩ hr1 hr2 hk
  · rw [flt_1] at hl2
    subst hl'
    exact hl2
  · subst hl'
    intro q hq
    rcases List.mem_cons.mp hq with rfl | hq
    · exact ok_h hso
    · exact hlo q (List.mem_filter.mp hq).1
theorem Go_lstore {x : Int} {i : Nat} (hd : decode (gCode m) pc = .ok (.lstore i, 2)) (hn : i + 1 < gNL m) (hl' : (i, gJ x) :: ls.filter (fun q => !(q.1 == i) && (!(q.1 == i + 1) && !(q.1 + 1 == i && q.2.1 == 1))) = ls') (k : Go D ca sc R m (pc + 2) ls' (st) sh M rv sh' M') : Go D ca sc R m pc ls (gJ x :: st) sh M rv sh' M' := by
  intro p l e s mi args below meth c Q ad H locs cells slots A H0 lc hc hs hr1 hr2 hk
  obtain ⟨hl, hlo, hso, hok, hP, hD, hS⟩ := hs
  refine lv_lstore (x := Int64.ofInt x) hc.1 hc.2.1 hd hl hn rfl (fun lc' hl2 => ?_)
  refine k p l e s mi args below meth c Q ad H locs cells slots A H0 lc' hc ⟨?_, ?_, ok_t hso, hok, hP, hD, hS⟩ hr1 hr2 hk
  · rw [flt_2] at hl2
    subst hl'
    exact hl2
  · subst hl'
    intro q hq
    rcases List.mem_cons.mp hq with rfl | hq
    · exact ok_h hso
    · exact hlo q (List.mem_filter.mp hq).1
theorem Go_astore_n {x : Nat} {i : Nat} {n : Fin 4} (hi : (n : Nat) = i) (hd : decode (gCode m) pc = .ok (.astore_n n, 1)) (hn : i < gNL m) (hl' : (i, gR x) :: ls.filter (fun q => !(q.1 == i) && !(q.1 + 1 == i && q.2.1 == 1)) = ls') (k : Go D ca sc R m (pc + 1) ls' (st) sh M rv sh' M') : Go D ca sc R m pc ls (gR x :: st) sh M rv sh' M' := by
  intro p l e s mi args below meth c Q ad H locs cells slots A H0 lc hc hs hr1 hr2 hk
  obtain ⟨hl, hlo, hso, hok, hP, hD, hS⟩ := hs
  rw [mapR]
  refine lv_astore_n (x := ad x) hc.1 hc.2.1 hd hi hl hn rfl (fun lc' hl2 => ?_)
  refine k p l e s mi args below meth c Q ad H locs cells slots A H0 lc' hc ⟨?_, ?_, ok_t hso, hok, hP, hD, hS⟩ hr1 hr2 hk
  · rw [flt_1] at hl2
    subst hl'
    rw [List.map_cons, gVl_R]
    exact hl2
  · subst hl'
    intro q hq
    rcases List.mem_cons.mp hq with rfl | hq
    · exact ok_h hso
    · exact hlo q (List.mem_filter.mp hq).1
theorem Go_iinc {x n : Int} {i : Nat} (k0 : Nat) (hk0 : ls[k0]? = some (i, gI x)) (hd : decode (gCode m) pc = .ok (.iinc i n, 3)) (hn : i < gNL m) (hl' : (i, gI (w32 (x + n))) :: ls.filter (fun q => !(q.1 == i) && !(q.1 + 1 == i && q.2.1 == 1)) = ls') (k : Go D ca sc R m (pc + 3) ls' (st) sh M rv sh' M') : Go D ca sc R m pc ls (st) sh M rv sh' M' := by
  intro p l e s mi args below meth c Q ad H locs cells slots A H0 lc hc hs hr1 hr2 hk
  obtain ⟨hl, hlo, hso, hok, hP, hD, hS⟩ := hs
  refine lv_iinc (x := Int32.ofInt x) (v := Int32.ofInt (w32 (x + n))) (k := k0) hc.1 hc.2.1 hd hl (by rw [List.getElem?_map, hk0]; rfl) (o32_add x n) hn rfl (fun lc' hl2 => ?_)
  refine k p l e s mi args below meth c Q ad H locs cells slots A H0 lc' hc ⟨?_, ?_, hso, hok, hP, hD, hS⟩ hr1 hr2 hk
  · rw [flt_1] at hl2
    subst hl'
    exact hl2
  · subst hl'
    intro q hq
    rcases List.mem_cons.mp hq with rfl | hq
    · exact w32_in _
    · exact hlo q (List.mem_filter.mp hq).1
theorem Go_tableOut {x dflt lo hi : Int} {offs : Array Int} {len tgt : Nat} (hd : decode (gCode m) pc = .ok (.tableswitch dflt lo hi offs, len)) (h : x < lo ∨ hi < x) (ht : (pc : Int) + dflt = (tgt : Int)) (k : Go D ca sc R m tgt ls (st) sh M rv sh' M') : Go D ca sc R m pc ls (gI x :: st) sh M rv sh' M' :=
  Go_step (st' := st) (fun p l e s mi args below meth c Q ad H locs cells slots A H0 lc hc hs => ⟨ok_t hs.2.2.1, fun w => lv_tableOut (x := Int32.ofInt x) hc.1 hc.2.1 hd (by rw [o32 (ok_h hs.2.2.1)]; exact h) ht w⟩) k
theorem Go_tableIn {x dflt lo hi off : Int} {offs : Array Int} {len tgt : Nat} (hd : decode (gCode m) pc = .ok (.tableswitch dflt lo hi offs, len)) (h1 : lo ≤ x) (h2 : x ≤ hi) (ho : offs[(x - lo).toNat]? = some off) (ht : (pc : Int) + off = (tgt : Int)) (k : Go D ca sc R m tgt ls (st) sh M rv sh' M') : Go D ca sc R m pc ls (gI x :: st) sh M rv sh' M' :=
  Go_step (st' := st) (fun p l e s mi args below meth c Q ad H locs cells slots A H0 lc hc hs => ⟨ok_t hs.2.2.1, fun w => lv_tableIn (x := Int32.ofInt x) hc.1 hc.2.1 hd (by rw [o32 (show in32 x from ok_h hs.2.2.1)]; omega) (by rw [o32 (show in32 x from ok_h hs.2.2.1)]; omega) (by rw [o32 (ok_h hs.2.2.1)]; exact ho) ht w⟩) k
theorem Go_lookup {x dflt off : Int} {ps : Array (Int × Int)} {len tgt : Nat} (hd : decode (gCode m) pc = .ok (.lookupswitch dflt ps, len)) (hp : (ps.toList.zip (ps.toList.drop 1)).all (fun (a, next) => a.1 < next.1) = true) (ho : Op.lookupswitch.offset ps.toList dflt x = off) (ht : (pc : Int) + off = (tgt : Int)) (k : Go D ca sc R m tgt ls (st) sh M rv sh' M') : Go D ca sc R m pc ls (gI x :: st) sh M rv sh' M' :=
  Go_step (st' := st) (fun p l e s mi args below meth c Q ad H locs cells slots A H0 lc hc hs => ⟨ok_t hs.2.2.1, fun w => lv_lookup (x := Int32.ofInt x) hc.1 hc.2.1 hd hp (by rw [o32 (ok_h hs.2.2.1)]; exact ho) ht w⟩) k
theorem gW_at {ad : Nat → Nat} {i : Nat} {k : Nat × Nat} (h : sh[i]? = some k) : (gW ca ad sh M)[i]? = some (ad i, gEnt ca ad k (M i)) := by
  simp [gW, List.getElem?_mapIdx, h]
theorem gW_set {ad : Nat → Nat} {i : Nat} {k : Nat × Nat} (h : sh[i]? = some k) (r : Nat → Int) : (gW ca ad sh M).set i (ad i, gEnt ca ad k r) = gW ca ad sh (gSet M i r) := by
  apply List.ext_getElem?
  intro j
  by_cases hj : i = j
  · subst hj
    have hlt : i < sh.length := (List.getElem?_eq_some_iff.mp h).1
    rw [gW_at h, List.getElem?_set_self (by simpa [gW] using hlt), gSet_s]
  · rw [List.getElem?_set_ne hj]
    simp only [gW, List.getElem?_mapIdx]
    congr 1
    funext k'
    rw [gSet_n (fun q => hj q.symm)]
theorem gOk_set {i : Nat} {k : Nat × Nat} {r : Nat → Int} (hok : gOk sh M) (h : sh[i]? = some k) (hr : gOkK sh.length k r) : gOk sh (gSet M i r) := by
  intro j k' hj
  by_cases e : j = i
  · subst e
    rw [gSet_s]
    cases h.symm.trans hj
    exact hr
  · rw [gSet_n e]
    exact hok j k' hj
/-- a field is read -/
def gFa (own : String) (idx ci j t : Nat) : Prop := ∃ q : vw_C, vwCl[ci]? = some q ∧ j < q.2.2 ∧ (∀ w ∈ u_ws q.1 q.2.1 q.2.2, w ∈ gTb) ∧ Cond.fieldLink own idx (q.2.1 j).1 (q.2.1 j).2.1 (q.2.1 j).2.2.1 ∈ gTb ∧ (gFt ci)[j]? = some t
theorem gFs_at {ad : Nat → Nat} {ci j t : Nat} (r : Nat → Int) (h : (gFt ci)[j]? = some t) : ((gFt ci).mapIdx (fun j t => gVl ca ad t (r j)))[j]? = some (gVl ca ad t (r j)) := by
  simp [List.getElem?_mapIdx, h]
theorem gFs_set {ad : Nat → Nat} {ci j t : Nat} (r : Nat → Int) (x : Int) (h : (gFt ci)[j]? = some t) : ((gFt ci).mapIdx (fun j t => gVl ca ad t (r j))).set j (gVl ca ad t x) = (gFt ci).mapIdx (fun j' t => gVl ca ad t (gUp r j x j')) := by
  apply List.ext_getElem?
  intro i
  by_cases hj : j = i
  · subst hj
    have hlt : j < (gFt ci).length := (List.getElem?_eq_some_iff.mp h).1
    rw [List.getElem?_set_self (by simpa using hlt)]
    simp only [List.getElem?_mapIdx, h, Option.map_some, gUp_s]
  · rw [List.getElem?_set_ne hj]
    simp only [List.getElem?_mapIdx]
    congr 1
    funext t'
    rw [gUp_n (fun q => hj q.symm)]
theorem gVl_3 (ad : Nat → Nat) (x : Int) : gVl ca ad 3 x = gVl ca ad 0 x := rfl
theorem Go_get0 {i ci j t t' idx : Nat} (fa : gFa (gOwn m) idx ci j t) (hk : sh[i]? = some (0, ci)) (hd : decode (gCode m) pc = .ok (.getfield idx, 3)) (ht : ∀ ad x, gVl ca ad t x = gVl ca ad t' x) (hto : ∀ n x, gOkV n t x → gOkV n t' x) (k : Go D ca sc R m (pc + 3) ls ((t', M i j) :: st) sh M rv sh' M') : Go D ca sc R m pc ls (gR i :: st) sh M rv sh' M' := by
  obtain ⟨q, hq, hj, hin, hl, hft⟩ := fa
  refine Go_step (st' := (t', M i j) :: st) (fun p l e s mi args below meth c Q ad H locs cells slots A H0 lc hc hs => ⟨ok_c (hto _ _ (hs.2.2.2.1 i _ hk j t hft)) (ok_t hs.2.2.1), fun w => ?_⟩) k
  rw [mapR]
  refine va_get (D := D) (ci := ci) (v := gVl ca ad t (M i j)) (C := q.1) (T := q.2.1) (N := q.2.2) hc.1 hc.2.1 hc.2.2.2.2.2.1 hin hc.2.2.2.2.1 hc.2.2.2.2.2.2.2.1.1 hs.2.2.2.2.1 i (gW_at hk) hq j hj (hc.2.2.2.2.2.1 _ hl) (fun _ h => h) (gFs_at (M i) hft) hd ?_
  rw [ht]
  exact w
theorem Go_getI {i ci j idx : Nat} (fa : gFa (gOwn m) idx ci j 0) (hk : sh[i]? = some (0, ci)) (hd : decode (gCode m) pc = .ok (.getfield idx, 3)) (k : Go D ca sc R m (pc + 3) ls (gI (M i j) :: st) sh M rv sh' M') : Go D ca sc R m pc ls (gR i :: st) sh M rv sh' M' := Go_get0 fa hk hd (fun _ _ => rfl) (fun _ _ h => h) k
theorem Go_getJ {i ci j idx : Nat} (fa : gFa (gOwn m) idx ci j 1) (hk : sh[i]? = some (0, ci)) (hd : decode (gCode m) pc = .ok (.getfield idx, 3)) (k : Go D ca sc R m (pc + 3) ls (gJ (M i j) :: st) sh M rv sh' M') : Go D ca sc R m pc ls (gR i :: st) sh M rv sh' M' := Go_get0 fa hk hd (fun _ _ => rfl) (fun _ _ h => h) k
theorem Go_getZ {i ci j idx : Nat} (fa : gFa (gOwn m) idx ci j 3) (hk : sh[i]? = some (0, ci)) (hd : decode (gCode m) pc = .ok (.getfield idx, 3)) (k : Go D ca sc R m (pc + 3) ls (gI (M i j) :: st) sh M rv sh' M') : Go D ca sc R m pc ls (gR i :: st) sh M rv sh' M' := Go_get0 (t' := 0) fa hk hd (fun _ _ => rfl) (fun _ x h => by rcases h with h | h <;> (subst h; show in32 _; unfold in32; omega)) k
theorem Go_getR {i ci j idx c' : Nat} (fa : gFa (gOwn m) idx ci j 2) (hk : sh[i]? = some (0, ci)) (hM : M i j = (c' : Int) + 1) (hd : decode (gCode m) pc = .ok (.getfield idx, 3)) (k : Go D ca sc R m (pc + 3) ls (gR c' :: st) sh M rv sh' M') : Go D ca sc R m pc ls (gR i :: st) sh M rv sh' M' := Go_get0 (t' := 2) fa hk hd (fun _ _ => rfl) (fun _ _ h => h) (by rw [hM]; exact k)
/-- a field is written -/
def gTyOk (t : Nat) (ty : FieldType) : Prop := match t with
  | 0 => ty = .int
  | 1 => ty = .long
  | 3 => ty = .boolean
  | _ => (∃ n, ty = .object n) ∨ ∃ u, ty = .array u
theorem gTyOk.put {t : Nat} {ty : FieldType} (h : gTyOk t ty) (h4 : t < 4) {n : Nat} {x : Int} (hx : gOkV n t x) (ad : Nat → Nat) : narrow ty (gVl ca ad t x) = gVl ca ad t x ∧ fits ty (gVl ca ad t x) = true := by
  match t, h, h4, hx with
  | 0, h, _, _ => cases h; exact ⟨rfl, rfl⟩
  | 1, h, _, _ => cases h; exact ⟨rfl, rfl⟩
  | 3, h, _, hx => cases h; rcases hx with rfl | rfl <;> exact ⟨rfl, rfl⟩
  | 2, h, _, _ =>
    show narrow ty (va_rf (gRf ad x)) = va_rf (gRf ad x) ∧ fits ty (va_rf (gRf ad x)) = true
    rcases va_rf_or (gRf ad x) with e | ⟨a, e⟩ <;> rw [e] <;> rcases h with ⟨n, rfl⟩ | ⟨u, rfl⟩ <;> exact ⟨rfl, rfl⟩
  | n + 4, _, h4, _ => omega
def gFp (own : String) (idx ci j t : Nat) (fin : Bool) : Prop := ∃ (q : vw_C) (ty0 : Nat → FieldType), vwCl[ci]? = some q ∧ j < q.2.2 ∧ (∀ w ∈ u_ws q.1 q.2.1 q.2.2, w ∈ gTb) ∧ Cond.fieldLink own idx (q.2.1 j).1 (q.2.1 j).2.1 (q.2.1 j).2.2.1 ∈ gTb ∧ (gFt ci)[j]? = some t ∧
  (∀ k, k < q.2.2 → parseFieldDescriptor (q.2.1 k).2.2.1 = some (ty0 k)) ∧ (∀ a, a < q.2.2 → ∀ b, b < q.2.2 → a ≠ b → (q.2.1 a).2.1 ≠ (q.2.1 b).2.1) ∧ gTyOk t (ty0 j) ∧ (q.2.1 j).2.2.2 = fin ∧ (fin = true → (q.2.1 j).1 = own) ∧ t < 4
theorem Go_put0 {i ci j t t' idx : Nat} {x : Int} {fin : Bool} (fp : gFp (gOwn m) idx ci j t fin) (hf : fin = true → gIni m = true) (hk : sh[i]? = some (0, ci)) (hd : decode (gCode m) pc = .ok (.putfield idx, 3)) (ht : ∀ ad, gVl ca ad t x = gVl ca ad t' x) (hto : gOkV sh.length t' x → gOkV sh.length t x) (k : Go D ca sc R m (pc + 3) ls (st) sh (gSet M i (gUp (M i) j x)) rv sh' M') : Go D ca sc R m pc ls ((t', x) :: gR i :: st) sh M rv sh' M' := by
  obtain ⟨q, ty0, hq, hj, hin, hlk, hft, hty, hnm, htk, hfin, hdecl, h4⟩ := fp
  intro p l e s mi args below meth c Q ad H locs cells slots A H0 lc hc hs hr1 hr2 hk0
  obtain ⟨hl, hlo, hso, hok, hP, hD, hS⟩ := hs
  have hx := hto (ok_h hso)
  have hnf := gTyOk.put (ca := ca) htk h4 hx ad
  have kk : ∀ (H1 : Heap) (locs1 : List Loc), va_P D vwCl ((gW ca ad sh M).set i (ad i, .inr (ci, ((gFt ci).mapIdx (fun j t => gVl ca ad t (M i j))).set j (gVl ca ad t x)))) H1 → va_D A ((gW ca ad sh M).set i (ad i, .inr (ci, ((gFt ci).mapIdx (fun j t => gVl ca ad t (M i j))).set j (gVl ca ad t x)))) → va_S A H0 H1 locs1 → W p l e R s mi args below meth c H1 locs1 cells slots Q (F0 mi (pc + 3) lc (st.map fun v => gVl ca ad v.1 v.2)) := by
    intro H1 locs1 hP1 hD1 hS1
    rw [gFs_set (M i) x hft] at hP1 hD1
    have e0 : (gW ca ad sh M).set i (ad i, .inr (ci, (gFt ci).mapIdx (fun j' t => gVl ca ad t (gUp (M i) j x j')))) = gW ca ad sh (gSet M i (gUp (M i) j x)) := gW_set hk _
    rw [e0] at hP1 hD1
    refine k p l e s mi args below meth c Q ad H1 locs1 cells slots A H0 lc hc ⟨hl, hlo, ok_t (ok_t hso), gOk_set hok hk ?_, hP1, hD1, hS1⟩ hr1 hr2 hk0
    intro j' t1 hj'
    by_cases ej : j' = j
    · subst ej
      cases hft.symm.trans hj'
      rw [gUp_s]
      exact hx
    · rw [gUp_n ej]
      exact hok i _ hk j' t1 hj'
  show W p l e R s mi args below meth c H locs cells slots Q (F0 mi pc lc (gVl ca ad t' x :: gVl ca ad 2 ((i : Int) + 1) :: st.map fun v => gVl ca ad v.1 v.2))
  rw [gVl_R, ← ht]
  have hll : j < ((gFt ci).mapIdx (fun j t => gVl ca ad t (M i j))).length := by
    rw [List.length_mapIdx]
    exact (List.getElem?_eq_some_iff.mp hft).1
  cases hfin' : fin with
  | false => exact va_put (D := D) (ci := ci) (v := gVl ca ad t x) (ty := ty0 j) (C := q.1) (T := q.2.1) (N := q.2.2) hc.1 hc.2.1 hc.2.2.2.2.2.1 hin ty0 hty hnm hc.2.2.2.2.1 hc.2.2.2.2.2.2.2.1.1 hP hD hS i (gW_at hk) hq j hj (hc.2.2.2.2.2.1 _ hlk) (fun _ h => h) (hfin.trans hfin') (hty j hj) hnf.1 hnf.2 hll hd kk
  | true => exact va_putF (D := D) (ci := ci) (v := gVl ca ad t x) (ty := ty0 j) (C := q.1) (T := q.2.1) (N := q.2.2) hc.1 hc.2.1 hc.2.2.2.2.2.1 hin ty0 hty hnm hc.2.2.2.2.1 hc.2.2.2.2.2.2.2.1.1 hP hD hS i (gW_at hk) hq j hj (hc.2.2.2.2.2.1 _ hlk) (fun _ h => h) (hfin.trans hfin') (hc.2.2.2.2.2.2.2.2.1 (hf hfin')) (hdecl hfin') (hty j hj) hnf.1 hnf.2 hll hd kk

theorem Go_putI {i ci j idx : Nat} {x : Int} (fp : gFp (gOwn m) idx ci j 0 false) (hk : sh[i]? = some (0, ci)) (hd : decode (gCode m) pc = .ok (.putfield idx, 3)) (k : Go D ca sc R m (pc + 3) ls (st) sh (gSet M i (gUp (M i) j x)) rv sh' M') : Go D ca sc R m pc ls ((0, x) :: gR i :: st) sh M rv sh' M' := Go_put0 fp (fun h => by cases h) hk hd (fun _ => rfl) (fun h => h) k
theorem Go_putJ {i ci j idx : Nat} {x : Int} (fp : gFp (gOwn m) idx ci j 1 false) (hk : sh[i]? = some (0, ci)) (hd : decode (gCode m) pc = .ok (.putfield idx, 3)) (k : Go D ca sc R m (pc + 3) ls (st) sh (gSet M i (gUp (M i) j x)) rv sh' M') : Go D ca sc R m pc ls ((1, x) :: gR i :: st) sh M rv sh' M' := Go_put0 fp (fun h => by cases h) hk hd (fun _ => rfl) (fun h => h) k
theorem Go_putZ {i ci j idx : Nat} {x : Int} (hx : x = 0 ∨ x = 1) (fp : gFp (gOwn m) idx ci j 3 false) (hk : sh[i]? = some (0, ci)) (hd : decode (gCode m) pc = .ok (.putfield idx, 3)) (k : Go D ca sc R m (pc + 3) ls (st) sh (gSet M i (gUp (M i) j x)) rv sh' M') : Go D ca sc R m pc ls ((0, x) :: gR i :: st) sh M rv sh' M' := Go_put0 fp (fun h => by cases h) hk hd (fun _ => rfl) (fun _ => hx) k
theorem Go_putF {i ci j idx : Nat} {x : Int} (fp : gFp (gOwn m) idx ci j 2 true) (hi : gIni m = true) (hk : sh[i]? = some (0, ci)) (hd : decode (gCode m) pc = .ok (.putfield idx, 3)) (k : Go D ca sc R m (pc + 3) ls (st) sh (gSet M i (gUp (M i) j x)) rv sh' M') : Go D ca sc R m pc ls ((2, x) :: gR i :: st) sh M rv sh' M' := Go_put0 fp (fun _ => hi) hk hd (fun _ => rfl) (fun h => h) k
theorem Go_iaload {i n : Nat} {x : Int} (j : Nat) (hk : sh[i]? = some (1, n)) (hj : x = (j : Int)) (hlt : j < n) (hd : decode (gCode m) pc = .ok (.iaload, 1)) (k : Go D ca sc R m (pc + 1) ls (gI (M i j) :: st) sh M rv sh' M') : Go D ca sc R m pc ls (gI x :: gR i :: st) sh M rv sh' M' := by
  refine Go_step (st' := gI (M i j) :: st) (fun p l e s mi args below meth c Q ad H locs cells slots A H0 lc hc hs => ⟨ok_c (hs.2.2.2.1 i _ hk j) (ok_t (ok_t hs.2.2.1)), fun w => ?_⟩) k
  have hx : in32 x := ok_h hs.2.2.1
  subst hj
  show W p l e R s mi args below meth c H locs cells slots Q (F0 mi pc lc (.int (Int32.ofInt (j : Int)) :: gVl ca ad 2 ((i : Int) + 1) :: st.map fun v => gVl ca ad v.1 v.2))
  rw [gVl_R]
  refine va_iald (f := fun j => Int32.ofInt (M i j)) hc.1 hc.2.1 hc.2.2.2.2.2.2.2.1.1 hs.2.2.2.2.1 i 0 (gW_at hk) rfl (in_32 hx (by omega) (by omega)) hd ?_
  have e0 : (Int32.ofInt (j : Int)).toNatClampNeg = j := by rw [nn32 hx]; omega
  rw [e0]
  exact w
theorem Go_laload {i n : Nat} {x : Int} (j : Nat) (hk : sh[i]? = some (2, n)) (hj : x = (j : Int)) (hlt : j < n) (hd : decode (gCode m) pc = .ok (.laload, 1)) (k : Go D ca sc R m (pc + 1) ls (gJ (M i j) :: st) sh M rv sh' M') : Go D ca sc R m pc ls (gI x :: gR i :: st) sh M rv sh' M' := by
  refine Go_step (st' := gJ (M i j) :: st) (fun p l e s mi args below meth c Q ad H locs cells slots A H0 lc hc hs => ⟨ok_c (hs.2.2.2.1 i _ hk j) (ok_t (ok_t hs.2.2.1)), fun w => ?_⟩) k
  have hx : in32 x := ok_h hs.2.2.1
  subst hj
  show W p l e R s mi args below meth c H locs cells slots Q (F0 mi pc lc (.int (Int32.ofInt (j : Int)) :: gVl ca ad 2 ((i : Int) + 1) :: st.map fun v => gVl ca ad v.1 v.2))
  rw [gVl_R]
  refine va_lald (f := fun j => Int64.ofInt (M i j)) hc.1 hc.2.1 hc.2.2.2.2.2.2.2.1.1 hs.2.2.2.2.1 i 1 (gW_at hk) rfl (in_32 hx (by omega) (by omega)) hd ?_
  have e0 : (Int32.ofInt (j : Int)).toNatClampNeg = j := by rw [nn32 hx]; omega
  rw [e0]
  exact w
theorem Go_iastore {i n : Nat} {x v : Int} (j : Nat) (hk : sh[i]? = some (1, n)) (hj : x = (j : Int)) (hlt : j < n) (hd : decode (gCode m) pc = .ok (.iastore, 1)) (k : Go D ca sc R m (pc + 1) ls (st) sh (gSet M i (gUp (M i) j v)) rv sh' M') : Go D ca sc R m pc ls (gI v :: gI x :: gR i :: st) sh M rv sh' M' := by
  intro p l e s mi args below meth c Q ad H locs cells slots A H0 lc hc hs hr1 hr2 hk0
  obtain ⟨hl, hlo, hso, hok, hP, hD, hS⟩ := hs
  have hx : in32 x := ok_h (ok_t hso)
  subst hj
  show W p l e R s mi args below meth c H locs cells slots Q (F0 mi pc lc (.int (Int32.ofInt v) :: .int (Int32.ofInt (j : Int)) :: gVl ca ad 2 ((i : Int) + 1) :: st.map fun v => gVl ca ad v.1 v.2))
  rw [gVl_R]
  refine va_iast (f := fun j => Int32.ofInt (M i j)) hc.1 hc.2.1 hc.2.2.2.2.2.2.2.1.1 hP hD hS i 0 (gW_at hk) rfl (in_32 hx (by omega) (by omega)) hd (fun H1 locs1 hP1 hD1 hS1 => ?_)
  have e0 : (Int32.ofInt (j : Int)).toNatClampNeg = j := by rw [nn32 hx]; omega
  have e2 : upd (fun j => Int32.ofInt (M i j)) j (Int32.ofInt v) = fun j' => Int32.ofInt (gUp (M i) j v j') := by
    funext j'
    by_cases ej : j' = j
    · simp [upd, gUp, ej]
    · simp [upd, gUp, ej]
  rw [e0, e2] at hP1 hD1
  have e3 := gW_set (ca := ca) (ad := ad) (M := M) hk (gUp (M i) j v)
  have hP2 : va_P D vwCl (gW ca ad sh (gSet M i (gUp (M i) j v))) H1 := by rw [← e3]; exact hP1
  have hD2 : va_D A (gW ca ad sh (gSet M i (gUp (M i) j v))) := by rw [← e3]; exact hD1
  refine k p l e s mi args below meth c Q ad H1 locs1 cells slots A H0 lc hc ⟨hl, hlo, ok_t (ok_t (ok_t hso)), gOk_set hok hk ?_, hP2, hD2, hS1⟩ hr1 hr2 hk0
  intro j'
  by_cases ej : j' = j
  · subst ej
    rw [gUp_s]
    exact ok_h hso
  · rw [gUp_n ej]
    exact hok i _ hk j'
theorem Go_lastore {i n : Nat} {x v : Int} (j : Nat) (hk : sh[i]? = some (2, n)) (hj : x = (j : Int)) (hlt : j < n) (hd : decode (gCode m) pc = .ok (.lastore, 1)) (k : Go D ca sc R m (pc + 1) ls (st) sh (gSet M i (gUp (M i) j v)) rv sh' M') : Go D ca sc R m pc ls (gJ v :: gI x :: gR i :: st) sh M rv sh' M' := by
  intro p l e s mi args below meth c Q ad H locs cells slots A H0 lc hc hs hr1 hr2 hk0
  obtain ⟨hl, hlo, hso, hok, hP, hD, hS⟩ := hs
  have hx : in32 x := ok_h (ok_t hso)
  subst hj
  show W p l e R s mi args below meth c H locs cells slots Q (F0 mi pc lc (.long (Int64.ofInt v) :: .int (Int32.ofInt (j : Int)) :: gVl ca ad 2 ((i : Int) + 1) :: st.map fun v => gVl ca ad v.1 v.2))
  rw [gVl_R]
  refine va_last (f := fun j => Int64.ofInt (M i j)) hc.1 hc.2.1 hc.2.2.2.2.2.2.2.1.1 hP hD hS i 1 (gW_at hk) rfl (in_32 hx (by omega) (by omega)) hd (fun H1 locs1 hP1 hD1 hS1 => ?_)
  have e0 : (Int32.ofInt (j : Int)).toNatClampNeg = j := by rw [nn32 hx]; omega
  have e2 : vp_updL (fun j => Int64.ofInt (M i j)) j (Int64.ofInt v) = fun j' => Int64.ofInt (gUp (M i) j v j') := by
    funext j'
    by_cases ej : j' = j
    · simp [vp_updL, gUp, ej]
    · simp [vp_updL, gUp, ej]
  rw [e0, e2] at hP1 hD1
  have e3 := gW_set (ca := ca) (ad := ad) (M := M) hk (gUp (M i) j v)
  have hP2 : va_P D vwCl (gW ca ad sh (gSet M i (gUp (M i) j v))) H1 := by rw [← e3]; exact hP1
  have hD2 : va_D A (gW ca ad sh (gSet M i (gUp (M i) j v))) := by rw [← e3]; exact hD1
  refine k p l e s mi args below meth c Q ad H1 locs1 cells slots A H0 lc hc ⟨hl, hlo, ok_t (ok_t (ok_t hso)), gOk_set hok hk ?_, hP2, hD2, hS1⟩ hr1 hr2 hk0
  intro j'
  by_cases ej : j' = j
  · subst ej
    rw [gUp_s]
    exact ok_h hso
  · rw [gUp_n ej]
    exact hok i _ hk j'
theorem Go_aaload {i n t c' : Nat} {x : Int} {C : String} (j : Nat) (hk : sh[i]? = some (t + 3, n)) (hC : (gTy ca)[t + 2]? = some (ca (t + 2), .object C)) (hM : M i j = (c' : Int) + 1) (hj : x = (j : Int)) (hlt : j < n) (hd : decode (gCode m) pc = .ok (.aaload, 1)) (k : Go D ca sc R m (pc + 1) ls (gR c' :: st) sh M rv sh' M') : Go D ca sc R m pc ls (gI x :: gR i :: st) sh M rv sh' M' := by
  refine Go_step (st' := gR c' :: st) (fun p l e s mi args below meth c Q ad H locs cells slots A H0 lc hc hs => ⟨ok_c (by have h := hs.2.2.2.1 i _ hk j; rw [hM] at h; exact h) (ok_t (ok_t hs.2.2.1)), fun w => ?_⟩) k
  have hx : in32 x := ok_h hs.2.2.1
  subst hj
  show W p l e R s mi args below meth c H locs cells slots Q (F0 mi pc lc (.int (Int32.ofInt (j : Int)) :: gVl ca ad 2 ((i : Int) + 1) :: st.map fun v => gVl ca ad v.1 v.2))
  rw [gVl_R]
  refine va_aldq (f := fun j => gRf ad (M i j)) hc.1 hc.2.1 hc.2.2.2.2.2.2.2.1.1 hs.2.2.2.2.1 i (t + 2) (gW_at hk) hC (in_32 hx (by omega) (by omega)) hd ?_
  have e0 : (Int32.ofInt (j : Int)).toNatClampNeg = j := by rw [nn32 hx]; omega
  rw [e0, hM]
  exact w
theorem Go_alen {i n kd : Nat} (hk : sh[i]? = some (kd, n)) (hkd : kd = 1 ∨ kd = 2) (hn : n < 2147483648) (hd : decode (gCode m) pc = .ok (.arraylength, 1)) (k : Go D ca sc R m (pc + 1) ls (gI (n : Int) :: st) sh M rv sh' M') : Go D ca sc R m pc ls (gR i :: st) sh M rv sh' M' := by
  refine Go_step (st' := gI (n : Int) :: st) (fun p l e s mi args below meth c Q ad H locs cells slots A H0 lc hc hs => ⟨ok_c (by show in32 (n : Int); unfold in32; omega) (ok_t hs.2.2.1), fun w => ?_⟩) k
  rw [mapR]
  rcases hkd with rfl | rfl
  · exact va_alen hc.1 hc.2.1 hc.2.2.2.2.2.2.2.1.1 hs.2.2.2.2.1 i 0 (gW_at hk) (ty := .int) rfl (v := Int32.ofInt (n : Int)) (by rfl) hd w
  · exact va_alen hc.1 hc.2.1 hc.2.2.2.2.2.2.2.1.1 hs.2.2.2.2.1 i 1 (gW_at hk) (ty := .long) rfl (v := Int32.ofInt (n : Int)) (by rfl) hd w
theorem Go_sld {L : Nat} {xs : Nat → Int} {x : Int} (j : Nat) (hsc : sc = some (L, xs)) (hj : x = (j : Int)) (hlt : j < L) (hd : decode (gCode m) pc = .ok (.iaload, 1)) (k : Go D ca sc R m (pc + 1) ls (gI (xs j) :: st) sh M rv sh' M') : Go D ca sc R m pc ls (gI x :: gS :: st) sh M rv sh' M' := by
  refine Go_step (st' := gI (xs j) :: st) (fun p l e s mi args below meth c Q ad H locs cells slots A H0 lc hc hs => ?_) k
  have hx : in32 x := ok_h hs.2.2.1
  have hz := hc.2.2.2.2.2.2.2.2.2.2
  rw [hsc] at hz
  obtain ⟨z1, z2, z3, z4, -⟩ := hz
  refine ⟨ok_c (z4 j) (ok_t (ok_t hs.2.2.1)), fun w => ?_⟩
  subst hj
  have e0 : (Int32.ofInt (j : Int)).toNatClampNeg = j := by rw [nn32 hx]; omega
  refine va_sld (i := Int32.ofInt (j : Int)) hc.1 hc.2.1 z1 z2 z3 hs.2.2.2.2.2.2 (in_32 hx (by omega) (by show (j : Int) < ((L : Nat) : Int); omega)) hd ?_
  rw [e0]
  exact w
theorem Go_slen {L : Nat} {xs : Nat → Int} (hsc : sc = some (L, xs)) (hd : decode (gCode m) pc = .ok (.arraylength, 1)) (k : Go D ca sc R m (pc + 1) ls (gI (L : Int) :: st) sh M rv sh' M') : Go D ca sc R m pc ls (gS :: st) sh M rv sh' M' := by
  refine Go_step (st' := gI (L : Int) :: st) (fun p l e s mi args below meth c Q ad H locs cells slots A H0 lc hc hs => ?_) k
  have hz := hc.2.2.2.2.2.2.2.2.2.2
  rw [hsc] at hz
  obtain ⟨z1, z2, z3, z4, z5⟩ := hz
  refine ⟨ok_c (by show in32 (L : Int); unfold in32; have z5 : L ≤ 2560 := z5; omega) (ok_t hs.2.2.1), fun w => ?_⟩
  exact va_slen hc.1 hc.2.1 z1 z2 z3 hs.2.2.2.2.2.2 hd w
end GM
end
section
section GA
variable {D : va_G} {ca : Nat → ClassId} {sc : gScr} {R : Room} {m : gMd} {pc pc' : Nat} {ls ls' : gLs} {st st' : List gAV} {sh sh' : gShp} {M M' : gMem} {rv : List gAV}
theorem gRf_ad {ad ad' : Nat → Nat} {n : Nat} {x : Int} (h : ∀ i, i < n → ad' i = ad i) (hx : 0 ≤ x ∧ x ≤ n) : gRf ad' x = gRf ad x := by
  unfold gRf
  by_cases h0 : x = 0
  · rw [if_pos h0, if_pos h0]
  · rw [if_neg h0, if_neg h0, h _ (by omega)]
theorem gVl_ad {ad ad' : Nat → Nat} {n t : Nat} {x : Int} (h : ∀ i, i < n → ad' i = ad i) (hx : gOkV n t x) : gVl ca ad' t x = gVl ca ad t x := by
  match t, hx with
  | 0, _ => rfl
  | 1, _ => rfl
  | 2, hx => show va_rf (gRf ad' x) = va_rf (gRf ad x); rw [gRf_ad h hx]
  | 3, _ => rfl
  | t + 4, _ => rfl
theorem gEnt_ad {ad ad' : Nat → Nat} {n : Nat} {k : Nat × Nat} {r : Nat → Int} (h : ∀ i, i < n → ad' i = ad i) (hx : gOkK n k r) : gEnt ca ad' k r = gEnt ca ad k r := by
  obtain ⟨k1, k2⟩ := k
  match k1, hx with
  | 0, hx =>
    show Sum.inr (k2, (gFt k2).mapIdx (fun j t => gVl ca ad' t (r j))) = Sum.inr (k2, (gFt k2).mapIdx (fun j t => gVl ca ad t (r j)))
    congr 2
    apply List.ext_getElem?
    intro j
    simp only [List.getElem?_mapIdx]
    cases hj : (gFt k2)[j]? with
    | none => rfl
    | some t => simp only [Option.map_some]; rw [gVl_ad h (hx j t hj)]
  | 1, _ => rfl
  | 2, _ => rfl
  | t + 3, hx =>
    show (Sum.inl (ca (t + 2), k2, Sum.inr (Sum.inr (Sum.inr (Sum.inr (fun j => gRf ad' (r j)))))) : va_E) = Sum.inl (ca (t + 2), k2, Sum.inr (Sum.inr (Sum.inr (Sum.inr (fun j => gRf ad (r j))))))
    have e0 : (fun j => gRf ad' (r j)) = fun j => gRf ad (r j) := funext fun j => gRf_ad h (hx j)
    rw [e0]
theorem gW_ad {ad ad' : Nat → Nat} (h : ∀ i, i < sh.length → ad' i = ad i) (hok : gOk sh M) : gW ca ad' sh M = gW ca ad sh M := by
  apply List.ext_getElem?
  intro i
  simp only [gW, List.getElem?_mapIdx]
  cases hi : sh[i]? with
  | none => rfl
  | some k => simp only [Option.map_some]; rw [h i (List.getElem?_eq_some_iff.mp hi).1, gEnt_ad h (hok i k hi)]
theorem gW_len (ad : Nat → Nat) : (gW ca ad sh M).length = sh.length := by simp [gW]
theorem gW_app {ad : Nat → Nat} {k : Nat × Nat} {r : Nat → Int} : gW ca ad (sh ++ [k]) (gSet M sh.length r) = gW ca ad sh M ++ [(ad sh.length, gEnt ca ad k r)] := by
  apply List.ext_getElem?
  intro j
  by_cases h : j < sh.length
  · rw [List.getElem?_append_left (by rw [gW_len]; exact h)]
    simp only [gW, List.getElem?_mapIdx, List.getElem?_append_left h]
    rw [gSet_n (by omega)]
  · rw [List.getElem?_append_right (by rw [gW_len]; omega), gW_len]
    simp only [gW, List.getElem?_mapIdx]
    rw [List.getElem?_append_right (by omega)]
    by_cases h2 : j = sh.length
    · subst h2
      simp [gSet_s]
    · have h3 : 1 ≤ j - sh.length := by omega
      rw [List.getElem?_eq_none (by simpa using h3), List.getElem?_eq_none (by simpa using h3)]
      rfl
theorem gOkV_mono {n n' t : Nat} {x : Int} (h : n ≤ n') (hx : gOkV n t x) : gOkV n' t x := by
  match t, hx with
  | 0, hx => exact hx
  | 1, hx => exact hx
  | 2, hx => exact ⟨hx.1, by have := hx.2; omega⟩
  | 3, hx => exact hx
  | t + 4, hx => exact hx
theorem gOkK_mono {n n' : Nat} {k : Nat × Nat} {r : Nat → Int} (h : n ≤ n') (hx : gOkK n k r) : gOkK n' k r := by
  obtain ⟨k1, k2⟩ := k
  match k1, hx with
  | 0, hx => exact fun j t hj => gOkV_mono h (hx j t hj)
  | 1, hx => exact hx
  | 2, hx => exact hx
  | t + 3, hx => exact fun j => ⟨(hx j).1, by have := (hx j).2; omega⟩
theorem gOkV_0 (n t : Nat) : gOkV n t 0 := by
  match t with
  | 0 => exact in32_0
  | 1 => exact in32_64 in32_0
  | 2 => exact ⟨Int.le_refl 0, by omega⟩
  | 3 => exact Or.inl rfl
  | t + 4 => exact trivial
theorem gOkK_0 (n : Nat) (k : Nat × Nat) : gOkK n k (fun _ => 0) := by
  obtain ⟨k1, k2⟩ := k
  match k1 with
  | 0 => exact fun j t _ => gOkV_0 n t
  | 1 => exact fun _ => in32_0
  | 2 => exact fun _ => in32_64 in32_0
  | t + 3 => exact fun _ => ⟨Int.le_refl 0, by show (0 : Int) ≤ (n : Int); omega⟩
theorem gOk_app {k : Nat × Nat} (hok : gOk sh M) : gOk (sh ++ [k]) (gSet M sh.length (fun _ => 0)) := by
  intro j k' hj
  have hl : (sh ++ [k]).length = sh.length + 1 := by simp
  by_cases h : j < sh.length
  · rw [List.getElem?_append_left h] at hj
    rw [gSet_n (by omega), hl]
    exact gOkK_mono (by omega) (hok j k' hj)
  · by_cases h2 : j = sh.length
    · subst h2
      rw [gSet_s]
      exact gOkK_0 _ _
    · rw [List.getElem?_append_right (by omega)] at hj
      rw [List.getElem?_eq_none (by simp; omega)] at hj
      cases hj
theorem gSz_app (k : Nat × Nat) : gSz (sh ++ [k]) = gSz sh + gKs k := by simp [gSz]
theorem Go_alloc {k : Nat × Nat} (hst : ∀ v ∈ st', v ∈ st) (hle : sh.length + 1 ≤ sh'.length) (hsz : gSz sh + gKs k ≤ gSz sh')
    (h : ∀ (p : Program) (l : Launch) (e : Env) (s : State) (mi : MethodId) (args : Array Value) (below : List Frame) (meth : Method) (c : Code) (Q : State → Prop) (ad : Nat → Nat) (H : Heap) (locs : List Loc) (cells slots : Nat) (A : Nat → Prop) (H0 : Heap) (lc : Array Slot), gCx D ca sc m p s mi args meth c A H0 → gSt D ca m ls st sh M ad H locs A H0 lc → cells + 1 ≤ R.cells → slots + gKs k ≤ R.slots →
      (∀ (q : Nat) (H1 : Heap), va_P D vwCl (gW ca ad sh M ++ [(q, gEnt ca ad k (fun _ => 0))]) H1 → va_D A (gW ca ad sh M ++ [(q, gEnt ca ad k (fun _ => 0))]) → va_S A H0 H1 locs → W p l e R s mi args below meth c H1 locs (cells + 1) (slots + gKs k) Q (F0 mi pc' lc (.ref q :: st'.map fun v => gVl ca ad v.1 v.2))) →
      W p l e R s mi args below meth c H locs cells slots Q (F0 mi pc lc (st.map fun v => gVl ca ad v.1 v.2)))
    (k0 : Go D ca sc R m pc' ls (gR sh.length :: st') (sh ++ [k]) (gSet M sh.length (fun _ => 0)) rv sh' M') : Go D ca sc R m pc ls (st) sh M rv sh' M' := by
  intro p l e s mi args below meth c Q ad H locs cells slots A H0 lc hc hs hr1 hr2 hk
  refine h p l e s mi args below meth c Q ad H locs cells slots A H0 lc hc hs (by omega) (by omega) (fun q H1 hP1 hD1 hS1 => ?_)
  obtain ⟨hl, hlo, hso, hok, hP, hD, hS⟩ := hs
  have hag : ∀ i, i < sh.length → (fun i => if i = sh.length then q else ad i) i = ad i := fun i hi => if_neg (by omega)
  have hlen : (sh ++ [k]).length = sh.length + 1 := by simp
  have e1 : gW ca ad sh M ++ [(q, gEnt ca ad k (fun _ => 0))] = gW ca (fun i => if i = sh.length then q else ad i) (sh ++ [k]) (gSet M sh.length (fun _ => 0)) := by
    rw [gW_app, gW_ad hag hok, gEnt_ad hag (gOkK_0 _ _)]
    simp
  rw [e1] at hP1 hD1
  have e2 : (.ref q :: st'.map fun v => gVl ca ad v.1 v.2) = (gR sh.length :: st').map fun v => gVl ca (fun i => if i = sh.length then q else ad i) v.1 v.2 := by
    rw [mapR]
    congr 1
    · simp
    · exact List.map_congr_left (fun v hv => (gVl_ad hag (hso v (hst v hv))).symm)
  rw [e2]
  refine k0 p l e s mi args below meth c Q (fun i => if i = sh.length then q else ad i) H1 locs (cells + 1) (slots + gKs k) A H0 lc hc ⟨?_, ?_, ?_, gOk_app hok, hP1, hD1, hS1⟩ (by rw [hlen]; omega) (by rw [gSz_app]; omega) ?_
  · have e3 : (ls.map fun q' => (q'.1, gVl ca (fun i => if i = sh.length then q else ad i) q'.2.1 q'.2.2)) = ls.map fun q' => (q'.1, gVl ca ad q'.2.1 q'.2.2) := List.map_congr_left (fun v hv => by rw [gVl_ad hag (hlo v hv)])
    rw [e3]
    exact hl
  · intro v hv
    rw [hlen]
    exact gOkV_mono (by omega) (hlo v hv)
  · refine ok_c ?_ (fun v hv => by rw [hlen]; exact gOkV_mono (by omega) (hso v (hst v hv)))
    show 0 ≤ ((sh.length : Nat) : Int) + 1 ∧ ((sh.length : Nat) : Int) + 1 ≤ (((sh ++ [k]).length : Nat) : Int)
    rw [hlen]
    omega
  · intro ad' H' locs' cells' slots' lc' pc2 g1 g2 g3 g4 g5 g6 g7 g8 g9
    refine hk ad' H' locs' cells' slots' lc' pc2 (fun i hi => (g1 i (by rw [hlen]; omega)).trans (hag i hi)) g2 g3 g4 g5 g6 (by rw [hlen] at g7; omega) (by rw [gSz_app] at g8; omega) g9
/-- an object of the class ci is made -/
def gNc (own : String) (idx ci : Nat) : Prop := ∃ (q : vw_C) (ty0 : Nat → FieldType), vwCl[ci]? = some q ∧ (∀ w ∈ u_ws q.1 q.2.1 q.2.2, w ∈ gTb) ∧ (∀ k, k < q.2.2 → parseFieldDescriptor (q.2.1 k).2.2.1 = some (ty0 k)) ∧ Cond.classLink own idx q.1 ∈ gTb ∧ Cond.instantiable q.1 q.2.2 ∈ gTb ∧ Cond.initialized q.1 ∈ gTb ∧ (gFt ci).length = q.2.2 ∧ ∀ j, j < q.2.2 → ∃ t, (gFt ci)[j]? = some t ∧ t < 4 ∧ gTyOk t (ty0 j)
theorem gTyOk.dflt {t : Nat} {ty : FieldType} (h : gTyOk t ty) (h4 : t < 4) (ad : Nat → Nat) : defaultValue ty = gVl ca ad t 0 := by
  match t, h, h4 with
  | 0, h, _ => cases h; rfl
  | 1, h, _ => cases h; rfl
  | 3, h, _ => cases h; rfl
  | 2, h, _ => rcases h with ⟨n, rfl⟩ | ⟨u, rfl⟩ <;> rfl
  | n + 4, _, h4 => omega
theorem Go_new {ci idx : Nat} (nc : gNc (gOwn m) idx ci) (hle : sh.length + 1 ≤ sh'.length) (hsz : gSz sh + gKs (0, ci) ≤ gSz sh') (hd : decode (gCode m) pc = .ok (.new idx, 3)) (k0 : Go D ca sc R m (pc + 3) ls (gR sh.length :: st) (sh ++ [(0, ci)]) (gSet M sh.length (fun _ => 0)) rv sh' M') : Go D ca sc R m pc ls (st) sh M rv sh' M' := by
  obtain ⟨q, ty0, hq, hin, hty, hcl, hinst, hini, hlen, hts⟩ := nc
  refine Go_alloc (k := (0, ci)) (st' := st) (fun v hv => hv) hle hsz (fun p l e s mi args below meth c Q ad H locs cells slots A H0 lc hc hs h1 h2 kk => ?_) k0
  have hks : gKs (0, ci) = q.2.2 := hlen
  rw [hks] at h2 kk
  exact va_new (ci := ci) (C := q.1) (T := q.2.1) (N := q.2.2) (fs := (gFt ci).mapIdx (fun j t => gVl ca ad t 0)) hc.1 hc.2.1 hc.2.2.2.2.2.1 hin ty0 hty hc.2.2.2.2.1 (hc.2.2.2.2.2.1 _ hcl) (hc.2.2.2.2.2.1 _ hinst) (hc.2.2.2.2.2.1 _ hini) hc.2.2.2.2.2.2.2.1.1 hs.2.2.2.2.1 hs.2.2.2.2.2.1 hs.2.2.2.2.2.2 hc.2.2.2.2.2.2.2.2.2.1 hq (fun j hj => by
    obtain ⟨t, ht, h4, hok⟩ := hts j hj
    rw [hok.dflt (ca := ca) h4 ad, vp_V, List.getD_eq_getElem?_getD, List.getElem?_mapIdx, ht]
    rfl) h1 h2 hd kk
theorem Go_newI {n : Nat} {x : Int} (hx : x = (n : Int)) (hn : n ≤ 2000) (harr : Cond.arrayClass .int ∈ gTb) (hle : sh.length + 1 ≤ sh'.length) (hsz : gSz sh + gKs (1, n) ≤ gSz sh') (hd : decode (gCode m) pc = .ok (.newarray .int, 2)) (k0 : Go D ca sc R m (pc + 2) ls (gR sh.length :: st) (sh ++ [(1, n)]) (gSet M sh.length (fun _ => 0)) rv sh' M') : Go D ca sc R m pc ls (gI x :: st) sh M rv sh' M' := by
  refine Go_alloc (k := (1, n)) (st' := st) (fun v hv => List.mem_cons_of_mem _ hv) hle hsz (fun p l e s mi args below meth c Q ad H locs cells slots A H0 lc hc hs h1 h2 kk => ?_) k0
  have hx3 : in32 x := ok_h hs.2.2.1
  have hK := hc.2.2.2.2.2.2.2.1.1
  refine va_newa (atype := .int) (ty := .int) (n := Int32.ofInt x) (N' := n) (a0 := (n, .inl (fun _ => Int32.ofInt 0))) hc.1 hc.2.1 (hc.2.2.2.2.2.1 _ harr) rfl hK hs.2.2.2.2.1 hs.2.2.2.2.2.1 hs.2.2.2.2.2.2 hc.2.2.2.2.2.2.2.2.2.1 (fun cA => ?_) (fun h => by rw [show (0 : Int32) = Int32.ofInt 0 from rfl, lt32 hx3 in32_0] at h; omega) (by rw [nn32 hx3]; omega) (by show n * 4 ≤ _; omega) h1 h2 hd (fun q cA H1 hK1 hP1 hD1 hS1 => ?_)
  · rfl
  · have e1 : cA = ca 0 := by
      have r1 : va_RA s cA .int := (hK1.2 (gTy ca).length (cA, .int) (by simp)).2
      have r2 : va_RA s (ca 0) .int := (hK.2 0 (ca 0, .int) rfl).2
      exact Option.some.inj (r1.symm.trans r2)
    subst e1
    exact kk q H1 hP1 hD1 hS1
theorem Go_newJ {n : Nat} {x : Int} (hx : x = (n : Int)) (hn : n ≤ 2000) (harr : Cond.arrayClass .long ∈ gTb) (hle : sh.length + 1 ≤ sh'.length) (hsz : gSz sh + gKs (2, n) ≤ gSz sh') (hd : decode (gCode m) pc = .ok (.newarray .long, 2)) (k0 : Go D ca sc R m (pc + 2) ls (gR sh.length :: st) (sh ++ [(2, n)]) (gSet M sh.length (fun _ => 0)) rv sh' M') : Go D ca sc R m pc ls (gI x :: st) sh M rv sh' M' := by
  refine Go_alloc (k := (2, n)) (st' := st) (fun v hv => List.mem_cons_of_mem _ hv) hle hsz (fun p l e s mi args below meth c Q ad H locs cells slots A H0 lc hc hs h1 h2 kk => ?_) k0
  have hx3 : in32 x := ok_h hs.2.2.1
  have hK := hc.2.2.2.2.2.2.2.1.1
  refine va_newa (atype := .long) (ty := .long) (n := Int32.ofInt x) (N' := n) (a0 := (n, .inr (.inl (fun _ => Int64.ofInt 0)))) hc.1 hc.2.1 (hc.2.2.2.2.2.1 _ harr) rfl hK hs.2.2.2.2.1 hs.2.2.2.2.2.1 hs.2.2.2.2.2.2 hc.2.2.2.2.2.2.2.2.2.1 (fun cA => ?_) (fun h => by rw [show (0 : Int32) = Int32.ofInt 0 from rfl, lt32 hx3 in32_0] at h; omega) (by rw [nn32 hx3]; omega) (by show n * 8 ≤ _; omega) h1 h2 hd (fun q cA H1 hK1 hP1 hD1 hS1 => ?_)
  · rfl
  · have e1 : cA = ca 1 := by
      have r1 : va_RA s cA .long := (hK1.2 (gTy ca).length (cA, .long) (by simp)).2
      have r2 : va_RA s (ca 1) .long := (hK.2 1 (ca 1, .long) rfl).2
      exact Option.some.inj (r1.symm.trans r2)
    subst e1
    exact kk q H1 hP1 hD1 hS1
theorem Go_newR {n t idx : Nat} {x : Int} {C : String} (hx : x = (n : Int)) (hn : n ≤ 2000) (hC : (t = 0 ∧ C = "BreadOvens$Valley") ∨ (t = 1 ∧ C = "BreadOvens$Chart")) (hcl : Cond.classLink (gOwn m) idx C ∈ gTb) (hle : sh.length + 1 ≤ sh'.length) (hsz : gSz sh + gKs (t + 3, n) ≤ gSz sh') (hd : decode (gCode m) pc = .ok (.anewarray idx, 3)) (k0 : Go D ca sc R m (pc + 3) ls (gR sh.length :: st) (sh ++ [(t + 3, n)]) (gSet M sh.length (fun _ => 0)) rv sh' M') : Go D ca sc R m pc ls (gI x :: st) sh M rv sh' M' := by
  refine Go_alloc (k := (t + 3, n)) (st' := st) (fun v hv => List.mem_cons_of_mem _ hv) hle hsz (fun p l e s mi args below meth c Q ad H locs cells slots A H0 lc hc hs h1 h2 kk => ?_) k0
  have hx3 : in32 x := ok_h hs.2.2.1
  have hK := hc.2.2.2.2.2.2.2.1.1
  have hty : (gTy ca)[t + 2]? = some (ca (t + 2), .object C) := by rcases hC with ⟨rfl, rfl⟩ | ⟨rfl, rfl⟩ <;> rfl
  have hao : va_AO C s := by
    rcases hC with ⟨_, rfl⟩ | ⟨_, rfl⟩
    · exact hc.2.2.2.2.2.2.2.1.2.2.1
    · exact hc.2.2.2.2.2.2.2.1.2.2.2
  refine va_newq (n := Int32.ofInt x) (N' := n) hc.1 hc.2.1 hc.2.2.2.2.1 (hc.2.2.2.2.2.1 _ hcl) hao hK hs.2.2.2.2.1 hs.2.2.2.2.2.1 hs.2.2.2.2.2.2 hc.2.2.2.2.2.2.2.2.2.1 (fun h => by rw [show (0 : Int32) = Int32.ofInt 0 from rfl, lt32 hx3 in32_0] at h; omega) (by rw [nn32 hx3]; omega) (by omega) h1 h2 hd (fun q cA H1 hK1 hP1 hD1 hS1 => ?_)
  have e1 : cA = ca (t + 2) := by
    obtain ⟨k1, c1, a1, a2, a3, a4⟩ : va_RA s cA (.object C) := (hK1.2 (gTy ca).length (cA, .object C) (by simp)).2
    obtain ⟨k2, c2, b1, b2, b3, b4⟩ : va_RA s (ca (t + 2)) (.object C) := (hK.2 (t + 2) _ hty).2
    exact Option.some.inj (a4.symm.trans b4)
  subst e1
  exact kk q H1 hP1 hD1 hS1
theorem Go_aastore {i n t b ci : Nat} {x : Int} {r : vw_C} (j : Nat) (hk : sh[i]? = some (t + 3, n)) (hr : vwCl[ci]? = some r) (hC : (gTy ca)[t + 2]? = some (ca (t + 2), .object r.1)) (hb : sh[b]? = some (0, ci)) (hj : x = (j : Int)) (hlt : j < n) (hd : decode (gCode m) pc = .ok (.aastore, 1)) (k : Go D ca sc R m (pc + 1) ls (st) sh (gSet M i (gUp (M i) j ((b : Int) + 1))) rv sh' M') : Go D ca sc R m pc ls (gR b :: gI x :: gR i :: st) sh M rv sh' M' := by
  intro p l e s mi args below meth c Q ad H locs cells slots A H0 lc hc hs hr1 hr2 hk0
  obtain ⟨hl, hlo, hso, hok, hP, hD, hS⟩ := hs
  have hx : in32 x := ok_h (ok_t hso)
  subst hj
  show W p l e R s mi args below meth c H locs cells slots Q (F0 mi pc lc (gVl ca ad 2 ((b : Int) + 1) :: .int (Int32.ofInt (j : Int)) :: gVl ca ad 2 ((i : Int) + 1) :: st.map fun v => gVl ca ad v.1 v.2))
  rw [gVl_R, gVl_R]
  refine va_astq (f := fun j => gRf ad (M i j)) hc.1 hc.2.1 hc.2.2.2.2.2.2.2.1.1 hP hD hS i (t + 2) b ci (gW_at hk) hC (gW_at hb) hr (in_32 hx (by omega) (by omega)) hd (fun H1 locs1 hP1 hD1 hS1 => ?_)
  have e0 : (Int32.ofInt (j : Int)).toNatClampNeg = j := by rw [nn32 hx]; omega
  have e2 : va_up (fun j => gRf ad (M i j)) j (some (ad b)) = fun j' => gRf ad (gUp (M i) j ((b : Int) + 1) j') := by
    funext j'
    by_cases ej : j' = j
    · have h1 : ¬ ((b : Int) + 1 = 0) := by omega
      have h2 : ((b : Int) + 1).toNat - 1 = b := by omega
      simp only [va_up, gUp, ej, if_true, gRf, if_neg h1, h2]
    · simp only [va_up, gUp, if_neg ej]
  rw [e0, e2] at hP1 hD1
  have e3 := gW_set (ca := ca) (ad := ad) (M := M) hk (gUp (M i) j ((b : Int) + 1))
  have hP2 : va_P D vwCl (gW ca ad sh (gSet M i (gUp (M i) j ((b : Int) + 1)))) H1 := by rw [← e3]; exact hP1
  have hD2 : va_D A (gW ca ad sh (gSet M i (gUp (M i) j ((b : Int) + 1)))) := by rw [← e3]; exact hD1
  refine k p l e s mi args below meth c Q ad H1 locs1 cells slots A H0 lc hc ⟨hl, hlo, ok_t (ok_t (ok_t hso)), gOk_set hok hk ?_, hP2, hD2, hS1⟩ hr1 hr2 hk0
  intro j'
  by_cases ej : j' = j
  · subst ej
    rw [gUp_s]
    exact ok_h hso
  · rw [gUp_n ej]
    exact hok i _ hk j'
end GA
end
section
/-! a method as a whole: Fn; calls -/
def gRm (m : gMd) (dc ds : Nat) : Room := { frames := gFr m, cells := dc, slots := ds, locals := gLo m }
def gWs (m : gMd) : List Cond := Cond.code (gNm m) (gCode m) (gNL m) (gRet m) :: gTb
def gQ (D : va_G) (ca : Nat → ClassId) (A : Nat → Prop) (ad : Nat → Nat) (sh : gShp) (rv : List gAV) (sh' : gShp) (M' : gMem) : Array Value → State → Outcome → State → Prop := fun _ st oc t =>
  (oc = .returned ((rv.map fun v => gVl ca ad v.1 v.2).head?) ∧ (∀ v ∈ rv, gOkV sh'.length v.1 v.2) ∧ gOk sh' M' ∧ ∃ ad' : Nat → Nat, (∀ i, i < sh.length → ad' i = ad i) ∧ va_P D vwCl (gW ca ad' sh' M') t.heap ∧ va_D A (gW ca ad' sh' M')) ∧ va_F A st t
def gB (D : va_G) (ca : Nat → ClassId) (ad : Nat → Nat) (sh : gShp) (M : gMem) (sz : Nat) (U : State) : Prop := U.heap.size = sz ∧ va_P D vwCl (gW ca ad sh M) U.heap ∧ gKx D ca U ∧ va_D (fun _ => True) (gW ca ad sh M)
/-- the method m with these arguments and this memory answers rv and leaves M' -/
def Fn (D : va_G) (ca : Nat → ClassId) (m : gMd) (as : List gAV) (sh : gShp) (M : gMem) (rv : List gAV) (sh' : gShp) (M' : gMem) : Prop :=
  ∀ (l : Launch) (ad : Nat → Nat) (sz : Nat), (∀ v ∈ as, gOkV sh.length v.1 v.2) → gOk sh M →
    Met l (gNm m) (gWs m) (gRm m (sh'.length - sh.length) (gSz sh' - gSz sh)) (va_Pc (as.map fun v => gVl ca ad v.1 v.2) (gB D ca ad sh M sz)) (gQ D ca (va_A (gW ca ad sh M) sz) ad sh rv sh' M') (sh'.length - sh.length) (gSz sh' - gSz sh) (va_A (gW ca ad sh M) sz)
def gArgs : Nat → List gAV → gLs
  | _, [] => []
  | i, v :: vs => (i, v) :: gArgs (if v.1 = 1 then i + 2 else i + 1) vs
def gWd (as : List gAV) : Nat := (as.map fun v => if v.1 = 1 then 2 else 1).sum
theorem cat_if (ca : Nat → ClassId) (ad : Nat → Nat) (t : Nat) (x : Int) : (gVl ca ad t x).category = 2 ↔ t = 1 := by
  have h := cat_gVl (ca := ca) ad t x
  constructor
  · intro h2
    rw [h2] at h
    simpa using h.symm
  · intro h2
    subst h2
    rfl
theorem cat_val (ca : Nat → ClassId) (ad : Nat → Nat) (t : Nat) (x : Int) : (gVl ca ad t x).category = if t = 1 then 2 else 1 := by
  match t with
  | 0 => rfl
  | 1 => rfl
  | 2 =>
    show (va_rf (gRf ad x)).category = 1
    rcases va_rf_or (gRf ad x) with h | ⟨a, h⟩ <;> rw [h] <;> rfl
  | 3 => rfl
  | n + 4 => rfl
theorem gArgs_map (ca : Nat → ClassId) (ad : Nat → Nat) : ∀ (as : List gAV) (i : Nat), lv_args i (as.map fun v => gVl ca ad v.1 v.2) = (gArgs i as).map fun q => (q.1, gVl ca ad q.2.1 q.2.2)
  | [], _ => rfl
  | v :: vs, i => by
    show (i, gVl ca ad v.1 v.2) :: lv_args (if (gVl ca ad v.1 v.2).category = 2 then i + 2 else i + 1) (vs.map fun v => gVl ca ad v.1 v.2) = (i, gVl ca ad v.1 v.2) :: (gArgs (if v.1 = 1 then i + 2 else i + 1) vs).map fun q => (q.1, gVl ca ad q.2.1 q.2.2)
    rw [← gArgs_map ca ad vs]
    simp only [cat_if]
theorem gWd_len (ca : Nat → ClassId) (ad : Nat → Nat) : ∀ (as : List gAV), (lg_sl (as.map fun v => gVl ca ad v.1 v.2)).length = gWd as
  | [] => rfl
  | v :: vs => by
    have ih := gWd_len ca ad vs
    simp only [lg_sl, List.map_cons, List.flatMap_cons, List.length_append] at ih ⊢
    rw [ih, show gWd (v :: vs) = (if v.1 = 1 then 2 else 1) + gWd vs from by simp [gWd]]
    by_cases h : v.1 = 1
    · rw [if_pos ((cat_if ca ad v.1 v.2).mpr h), if_pos h]; rfl
    · rw [if_neg (fun q => h ((cat_if ca ad v.1 v.2).mp q)), if_neg h]; rfl
theorem gArgs_mem : ∀ (as : List gAV) (i : Nat) (q : Nat × gAV), q ∈ gArgs i as → q.2 ∈ as
  | [], _, _, h => by cases h
  | v :: vs, i, q, h => by
    rcases List.mem_cons.mp h with rfl | h
    · exact List.mem_cons_self
    · exact List.mem_cons_of_mem _ (gArgs_mem vs _ q h)
def gRok (ret : Option FieldType) (rv : List gAV) : Prop := (ret = none ∧ rv = []) ∨ (∃ x, ret = some .int ∧ rv = [gI x]) ∨ (∃ x, ret = some .boolean ∧ rv = [gI x] ∧ (x = 0 ∨ x = 1)) ∨ (∃ x, ret = some .long ∧ rv = [gJ x])
/-- what a method's record must be -/
def gMok (m : gMd) : Prop := plainName (gNm m).cls = true ∧ (gNm m).cls = gOwn m ∧ (gIni m = true → (gNm m).name = "<init>")
theorem Fn_of {D : va_G} {ca : Nat → ClassId} {m : gMd} {as : List gAV} {sh sh' : gShp} {M M' : gMem} {rv : List gAV} (hm : gMok m) (hn : gWd as ≤ gNL m) (hrv : gRok (gRet m) rv) (hls : sh.length ≤ sh'.length) (hsz : gSz sh ≤ gSz sh')
    (h : Go D ca none (gRm m (sh'.length - sh.length) (gSz sh' - gSz sh)) m 0 (gArgs 0 as) [] sh M rv sh' M') : Fn D ca m as sh M rv sh' M' := by
  intro l ad sz hao hok
  refine Met.ofW (cc := gCode m) (maxL := gNL m) (ret := gRet m) (ws' := gTb) hm.1 rfl ?_
  intro p e s mi args below meth c s₁ B hml hv
  obtain ⟨rfl, hsz0, hP, hK, hD0⟩ := hv
  have hr := B.returns
  have hts0 := atoms_spec (ws := gWs m) B.pre
  have hown : s.vm.findClass (gOwn m) = some mi.cls := by rw [← hm.2.1]; exact findClass_of_methodNamed B.named
  have hlocks := B.notSynchronized
  subst hsz0
  have hD := hD0.self (sz := s.heap.size)
  have hA : ∀ q : Nat, s.heap.size ≤ q → va_A (gW ca ad sh M) s.heap.size q := fun q h => Or.inr h
  have hl := lv_entry (as.map fun v => gVl ca ad v.1 v.2) (n := gNL m) (by rw [gWd_len]; exact hn)
  rw [lg_entry_eq]
  rw [gArgs_map] at hl
  refine h p l e s mi _ below meth c _ ad s.heap [] 0 0 (va_A (gW ca ad sh M) s.heap.size) s.heap _ ⟨B.exec, B.bytes, hml, hr, hown, fun w hw => hts0 w (List.mem_cons_of_mem _ hw), hlocks, hK, fun hi => ?_, hA, trivial⟩ ⟨hl, fun q hq => hao q.2 (gArgs_mem as 0 q hq), fun v hv => (by cases hv), hok, hP, hD, va_S.rf⟩ ?_ ?_ ?_
  · rw [← hm.2.2 hi]
    exact (name_of_methodNamed B.named B.method).1
  · show 0 + sh'.length ≤ (sh'.length - sh.length) + sh.length
    omega
  · show 0 + gSz sh' ≤ (gSz sh' - gSz sh) + gSz sh
    omega
  · intro ad' H' locs' cells' slots' lc' pc' g1 g2 g3 g4 g5 g6 g7 g8 g9
    refine W.widen (k := sh'.length - sh.length) (n := gSz sh' - gSz sh) (by omega) (by omega) ?_
    have hq : ∀ t : State, t.heap = H' → gQ D ca (va_A (gW ca ad sh M) s.heap.size) ad sh rv sh' M' (as.map fun v => gVl ca ad v.1 v.2).toArray s (.returned ((rv.map fun v => gVl ca ad v.1 v.2).head?)) t := fun t ht => ⟨⟨rfl, g2, g3, ad', g1, by rw [ht]; exact g4, g5⟩, g6.F ht⟩
    rcases hrv with ⟨h1, h2⟩ | ⟨x, h1, h2⟩ | ⟨x, h1, h2, h3⟩ | ⟨x, h1, h2⟩
    · subst h2
      exact W.vret B.exec B.bytes (hr.trans h1) (fun t ht _ => hq t ht) g6.2.2 g9
    · subst h2
      exact W.iret B.exec B.bytes (hr.trans h1) (fun t ht _ => hq t ht) g6.2.2 g9
    · subst h2
      exact W.zret (ty := .boolean) B.exec B.bytes (hr.trans h1) (by rcases h3 with rfl | rfl <;> rfl) (fun t ht _ => hq t ht) g6.2.2 g9
    · subst h2
      exact W.lret B.exec B.bytes (hr.trans h1) (fun t ht _ => hq t ht) g6.2.2 g9
theorem gTb_good : ∀ w ∈ gTb, goodWord w = true := fun w h => (List.mem_filter.mp h).2
theorem gWs_good {m : gMd} (h : Cond.code (gNm m) (gCode m) (gNL m) (gRet m) ∈ gTb) : GoodIn gTb (gWs m) := fun w hw => by
  rcases List.mem_cons.mp hw with rfl | hw
  · exact ⟨h, good_of_word (gTb_good _ h)⟩
  · exact ⟨hw, good_of_word (gTb_good _ hw)⟩
section GC
variable {D : va_G} {ca : Nat → ClassId} {sc : gScr} {R : Room} {m m' : gMd} {pc pc' : Nat} {ls ls' : gLs} {st stk : List gAV} {sh sh1 sh' : gShp} {M M1 M' : gMem} {rv rv1 : List gAV} {as : List gAV}
theorem gB_blind {ad : Nat → Nat} {sz : Nat} {av : List Value} : FrameBlind (va_Pc av (gB D ca ad sh M sz)) := by
  intro a U g mk q
  obtain ⟨q0, q1, qP, qK, qD⟩ := q
  exact ⟨q0, q1, qP, qK.same rfl, qD⟩
/-- what a call leaves -/
theorem Go_ran (hrv : ∀ v ∈ rv1, v.1 < 2) (hr2 : rv1.length ≤ 1) (hsh : sh.length ≤ sh1.length) (hsz : gSz sh ≤ gSz sh1) (hst : ∀ v ∈ st, v ∈ stk)
    (h : ∀ (p : Program) (l : Launch) (e : Env) (s : State) (mi : MethodId) (args : Array Value) (below : List Frame) (meth : Method) (c : Code) (ad : Nat → Nat) (H : Heap) (locs : List Loc) (cells slots : Nat) (A : Nat → Prop) (H0 : Heap) (lc : Array Slot), gCx D ca sc m p s mi args meth c A H0 → gSt D ca m ls stk sh M ad H locs A H0 lc →
      cells + (sh1.length - sh.length) ≤ R.cells → slots + (gSz sh1 - gSz sh) ≤ R.slots → ∃ a : Array Value,
      va_Run p l e R s mi args below meth c H locs cells slots (sh1.length - sh.length) (gSz sh1 - gSz sh) (F0 mi pc lc (stk.map fun v => gVl ca ad v.1 v.2)) (st.map fun v => gVl ca ad v.1 v.2) (gQ D ca (va_A (gW ca ad sh M) H.size) ad sh rv1 sh1 M1 a) (va_A (gW ca ad sh M) H.size))
    (hsh1 : sh1.length ≤ sh'.length) (hsz1 : gSz sh1 ≤ gSz sh')
    (k : Go D ca sc R m (pc + 3) ls (rv1 ++ st) sh1 M1 rv sh' M') : Go D ca sc R m pc ls stk sh M rv sh' M' := by
  intro p l e s mi args below meth c Q ad H locs cells slots A H0 lc hc hs hr1 hr2' hk
  obtain ⟨a, hr⟩ := h p l e s mi args below meth c ad H locs cells slots A H0 lc hc hs (by omega) (by omega)
  obtain ⟨hl, hlo, hso, hok, hP, hD, hS⟩ := hs
  have hF : ∀ q, va_A (gW ca ad sh M) H.size q → A q := fun q hq => by
    rcases hq with ⟨k, e1, h1⟩ | h1
    · exact hD.2 k (q, e1) h1
    · exact hc.2.2.2.2.2.2.2.2.2.1 q (Nat.le_trans hS.1 h1)
  intro T hT X
  obtain ⟨v, st₀, t, T', L, h0, X', hL, e1, e2, ⟨⟨hv, hrok, hok1, ad', hag, hP1, hD1⟩, hz, hk1⟩, stp⟩ := hr T hT X
  rw [h0] at hz hk1
  have hS1 : va_S A H0 t.heap (locs ++ L) := ⟨Nat.le_trans hS.1 hz, fun q h1 h2 => by rw [hk1 q (Nat.lt_of_lt_of_le h1 hS.1) (fun z => h2 (hF q z))]; exact hS.2.1 q h1 h2, fun q hq => by
      rcases List.mem_append.mp hq with h | h
      · exact hS.2.2 q h
      · exact hF _ (hL q h)⟩
  have hv' : v = (rv1.map fun v => gVl ca ad v.1 v.2).head? := by
    have := hv
    simpa using this
  have es : v.toList ++ (st.map fun v => gVl ca ad v.1 v.2) = (rv1 ++ st).map fun v => gVl ca ad' v.1 v.2 := by
    rw [hv', List.map_append]
    congr 1
    · match rv1, hrv, hr2 with
      | [], _, _ => rfl
      | [w], hrv, _ =>
        have hw := hrv w List.mem_cons_self
        show [gVl ca ad w.1 w.2] = [gVl ca ad' w.1 w.2]
        rw [show gVl ca ad w.1 w.2 = gVl ca ad' w.1 w.2 from by
          obtain ⟨t, x⟩ := w
          match t, hw with
          | 0, _ => rfl
          | 1, _ => rfl]
      | _ :: _ :: _, _, hr2 => exact absurd hr2 (by simp)
    · exact List.map_congr_left (fun w hw => (gVl_ad hag (hso w (hst w hw))).symm)
  have K := k p l e s mi args below meth c Q ad' t.heap (locs ++ L) (cells + (sh1.length - sh.length)) (slots + (gSz sh1 - gSz sh)) A H0 lc hc ⟨?_, ?_, ?_, hok1, hP1, hD1.weaken (fun _ q _ h => hF q.1 h), hS1⟩ (by omega) (by omega) ?_
  · rw [← es] at K
    obtain ⟨t2, a1, b1⟩ := K T' e1 X'
    exact ⟨t2, stp t2 a1, b1⟩
  · have e3 : (ls.map fun q' => (q'.1, gVl ca ad' q'.2.1 q'.2.2)) = ls.map fun q' => (q'.1, gVl ca ad q'.2.1 q'.2.2) := List.map_congr_left (fun v hv => by rw [gVl_ad hag (hlo v hv)])
    rw [e3]
    exact hl
  · exact fun q hq => gOkV_mono hsh (hlo q hq)
  · intro w hw
    rcases List.mem_append.mp hw with hw | hw
    · exact hrok w hw
    · exact gOkV_mono hsh (hso w (hst w hw))
  · intro ad2 H' locs' cells' slots' lc' pc2 g1 g2 g3 g4 g5 g6 g7 g8 g9
    exact hk ad2 H' locs' cells' slots' lc' pc2 (fun i hi => (g1 i (by omega)).trans (hag i hi)) g2 g3 g4 g5 g6 (by omega) (by omega) g9
theorem gRooms {st : List gAV} {ad : Nat → Nat} {mi : MethodId} {lc : Array Slot} {vs : List Value} (h : gWd st ≤ 8) : 2 * (F0 mi pc lc vs).monitorRoom + ((st.map fun v => gVl ca ad v.1 v.2).map fun v => v.category).sum ≤ 8 := by
  refine lv_room ?_
  have : ((st.map fun v => gVl ca ad v.1 v.2).map fun v => v.category).sum = gWd st := by
    rw [List.map_map]
    unfold gWd
    congr 1
    exact List.map_congr_left (fun v _ => cat_val ca ad v.1 v.2)
  rw [this]
  exact h
/-- a call's words: of the method m' from the class own by the entry idx -/
def gCw (own : String) (idx : Nat) (m' : gMd) (n : Nat) : Prop := Cond.methodLink own idx (gNm m') ∈ gTb ∧ Cond.code (gNm m') (gCode m') (gNL m') (gRet m') ∈ gTb ∧ Cond.initialized (gNm m').cls ∈ gTb ∧ ((gNm m').cls ≠ "java/lang/invoke/MethodHandle" ∧ (gNm m').cls ≠ "java/lang/invoke/VarHandle" ∧ (parseMethodDescriptor (gNm m').desc).map (fun d => d.parameters.length) = some n)
def gCn (own : String) (idx : Nat) (m' : gMd) (host : String) (n : Nat) : Prop := (own, idx, gNm m', host) ∈ gNest ∧ Cond.code (gNm m') (gCode m') (gNL m') (gRet m') ∈ gTb ∧ Cond.initialized (gNm m').cls ∈ gTb ∧ ((gNm m').cls ≠ "java/lang/invoke/MethodHandle" ∧ (gNm m').cls ≠ "java/lang/invoke/VarHandle" ∧ (parseMethodDescriptor (gNm m').desc).map (fun d => d.parameters.length) = some n)
def gSub (R : Room) (m' : gMd) : Prop := gFr m' + 1 ≤ R.frames ∧ 8 + (gNL m' + 11) + gLo m' ≤ R.locals
theorem gCallB {s : State} {args : Array Value} {own : String} {idx n dc ds : Nat} (ht : ∀ w ∈ gTb, w.before args s = true) (cw : gCw own idx m' n) (hR : gSub R m') : CallB R s args own idx (gNm m') (gCode m') (gNL m') (gRet m') (gWs m') (gRm m' dc ds) dc ds n :=
  callB_of n ht (gWs_good cw.2.1) rfl rfl rfl (ht _ cw.2.2.1) (ht _ cw.1) cw.2.2.2 hR
theorem gCallN {s : State} {args : Array Value} {own host : String} {idx n dc ds : Nat} (ht : ∀ w ∈ gTb, w.before args s = true) (hK : gKx D ca s) (cw : gCn own idx m' host n) (hR : gSub R m') : va_CN R s args own idx (gNm m') host (gCode m') (gNL m') (gRet m') (gWs m') (gRm m' dc ds) dc ds n :=
  va_cnB n ht (gWs_good cw.2.1) rfl rfl rfl (hK.2.1 _ cw.1) (ht _ cw.2.2.1) cw.2.2.2 hR
theorem gPreS {s : State} {H : Heap} {A : Nat → Prop} {ad : Nat → Nat} {av : List Value} (hP : va_P D vwCl (gW ca ad sh M) H) (hD : va_D A (gW ca ad sh M)) (hK : gKx D ca s) : PreS s H (va_Pc av (gB D ca ad sh M H.size)) av :=
  ⟨gB_blind, fun U hU hW => ⟨rfl, by rw [hU], by rw [hU]; exact hP, hK.warm hW, hD.weaken (fun _ _ _ _ => trivial)⟩⟩
theorem map_rev (ad : Nat → Nat) (as st : List gAV) : (as.reverse ++ st).map (fun v => gVl ca ad v.1 v.2) = (as.map fun v => gVl ca ad v.1 v.2).reverse ++ st.map fun v => gVl ca ad v.1 v.2 := by
  rw [List.map_append, List.map_reverse]
/-- of an instance -/
theorem Go_callV {b ci idx : Nat} {q : vw_C} (hF : Fn D ca m' (gR b :: as) sh M rv1 sh1 M1) (cw : gCw (gOwn m) idx m' as.length) (ci' : Cond.instanceMethod (gNm m') ∈ gTb ∧ Cond.selects (gNm m').cls (gNm m') (gNm m') ∈ gTb) (hq : vwCl[ci]? = some q) (hqc : q.1 = (gNm m').cls) (hR : gSub R m') (hk : sh[b]? = some (0, ci)) (hstk : stk = as.reverse ++ gR b :: st) (hw : gWd st ≤ 8)
    (hrv : (∀ v ∈ rv1, v.1 < 2) ∧ rv1.length ≤ 1) (hsh : sh.length ≤ sh1.length ∧ sh1.length ≤ sh'.length ∧ gSz sh ≤ gSz sh1 ∧ gSz sh1 ≤ gSz sh') (hd : decode (gCode m) pc = .ok (.invokevirtual idx, 3))
    (k : Go D ca sc R m (pc + 3) ls (rv1 ++ st) sh1 M1 rv sh' M') : Go D ca sc R m pc ls stk sh M rv sh' M' := by
  refine Go_ran hrv.1 hrv.2 hsh.1 hsh.2.2.1 (fun v hv => by rw [hstk]; exact List.mem_append_right _ (List.mem_cons_of_mem _ hv)) (fun p l e s mi args below meth c ad H locs cells slots A H0 lc hc hs h1 h2 => ?_) hsh.2.1 hsh.2.2.2 k
  obtain ⟨hl, hlo, hso, hok, hP, hD, hS⟩ := hs
  have hK := hc.2.2.2.2.2.2.2.1
  have hts := hc.2.2.2.2.2.1
  have hao : ∀ v ∈ gR b :: as, gOkV sh.length v.1 v.2 := fun v hv => hso v (by
    rw [hstk]
    rcases List.mem_cons.mp hv with rfl | hv
    · exact List.mem_append_right _ List.mem_cons_self
    · exact List.mem_append_left _ (List.mem_reverse.mpr hv))
  have hM := hF l ad H.size hao hok
  have e1 : ((gR b :: as).map fun v => gVl ca ad v.1 v.2) = .ref (ad b) :: as.map fun v => gVl ca ad v.1 v.2 := mapR b as
  rw [e1] at hM
  obtain ⟨cell, g1, g2, g3⟩ := va_recv hK.1 hP hq (gW_at hk)
  have hp : PreV s H (gNm m').cls (ad b) (va_Pc (.ref (ad b) :: as.map fun v => gVl ca ad v.1 v.2) (gB D ca ad sh M H.size)) (as.map fun v => gVl ca ad v.1 v.2) := ⟨gB_blind, ⟨cell, g1, g2, by rw [← hqc]; exact g3⟩, (gPreS hP hD hK).2⟩
  exact ⟨_, va_runV (n := as.length) (b := ad b) (As := as.map fun v => gVl ca ad v.1 v.2) ⟨hc.1, hc.2.1, hc.2.2.1, hc.2.2.2.2.1, hts⟩ hM ⟨gCallB hts cw hR, hts _ ci'.1, hts _ ci'.2⟩ hp rfl (by rw [List.length_map]) hl.1 (by show stk.map _ = _; rw [hstk, map_rev, mapR]) (gRooms hw) hd ⟨h1, h2⟩⟩
/-- of a class -/
theorem Go_callS {idx : Nat} (hF : Fn D ca m' as sh M rv1 sh1 M1) (cw : gCw (gOwn m) idx m' as.length) (ci' : Cond.static (gNm m') ∈ gTb) (hR : gSub R m') (hstk : stk = as.reverse ++ st) (hw : gWd st ≤ 8)
    (hrv : (∀ v ∈ rv1, v.1 < 2) ∧ rv1.length ≤ 1) (hsh : sh.length ≤ sh1.length ∧ sh1.length ≤ sh'.length ∧ gSz sh ≤ gSz sh1 ∧ gSz sh1 ≤ gSz sh') (hd : decode (gCode m) pc = .ok (.invokestatic idx, 3))
    (k : Go D ca sc R m (pc + 3) ls (rv1 ++ st) sh1 M1 rv sh' M') : Go D ca sc R m pc ls stk sh M rv sh' M' := by
  refine Go_ran hrv.1 hrv.2 hsh.1 hsh.2.2.1 (fun v hv => by rw [hstk]; exact List.mem_append_right _ hv) (fun p l e s mi args below meth c ad H locs cells slots A H0 lc hc hs h1 h2 => ?_) hsh.2.1 hsh.2.2.2 k
  obtain ⟨hl, hlo, hso, hok, hP, hD, hS⟩ := hs
  have hts := hc.2.2.2.2.2.1
  have hM := hF l ad H.size (fun v hv => hso v (by rw [hstk]; exact List.mem_append_left _ (List.mem_reverse.mpr hv))) hok
  exact ⟨_, va_runS (n := as.length) (As := as.map fun v => gVl ca ad v.1 v.2) ⟨hc.1, hc.2.1, hc.2.2.1, hc.2.2.2.2.1, hts⟩ hM ⟨gCallB hts cw hR, hts _ ci'⟩ (gPreS hP hD hc.2.2.2.2.2.2.2.1) rfl (by rw [List.length_map]) hl.1 (by show stk.map _ = _; rw [hstk, map_rev]) (gRooms hw) hd ⟨h1, h2⟩⟩
theorem Go_callSN {idx : Nat} {host : String} (hF : Fn D ca m' as sh M rv1 sh1 M1) (cw : gCn (gOwn m) idx m' host as.length) (ci' : Cond.static (gNm m') ∈ gTb) (hR : gSub R m') (hstk : stk = as.reverse ++ st) (hw : gWd st ≤ 8)
    (hrv : (∀ v ∈ rv1, v.1 < 2) ∧ rv1.length ≤ 1) (hsh : sh.length ≤ sh1.length ∧ sh1.length ≤ sh'.length ∧ gSz sh ≤ gSz sh1 ∧ gSz sh1 ≤ gSz sh') (hd : decode (gCode m) pc = .ok (.invokestatic idx, 3))
    (k : Go D ca sc R m (pc + 3) ls (rv1 ++ st) sh1 M1 rv sh' M') : Go D ca sc R m pc ls stk sh M rv sh' M' := by
  refine Go_ran hrv.1 hrv.2 hsh.1 hsh.2.2.1 (fun v hv => by rw [hstk]; exact List.mem_append_right _ hv) (fun p l e s mi args below meth c ad H locs cells slots A H0 lc hc hs h1 h2 => ?_) hsh.2.1 hsh.2.2.2 k
  obtain ⟨hl, hlo, hso, hok, hP, hD, hS⟩ := hs
  have hts := hc.2.2.2.2.2.1
  have hM := hF l ad H.size (fun v hv => hso v (by rw [hstk]; exact List.mem_append_left _ (List.mem_reverse.mpr hv))) hok
  exact ⟨_, va_runSN (n := as.length) (As := as.map fun v => gVl ca ad v.1 v.2) ⟨hc.1, hc.2.1, hc.2.2.1, hc.2.2.2.2.1, hts⟩ hM ⟨gCallN hts hc.2.2.2.2.2.2.2.1 cw hR, hts _ ci', trivial⟩ (gPreS hP hD hc.2.2.2.2.2.2.2.1) rfl (by rw [List.length_map]) hl.1 (by show stk.map _ = _; rw [hstk, map_rev]) (gRooms hw) hd ⟨h1, h2⟩⟩
theorem gInitMet {l : Launch} {ad : Nat → Nat} {sz b : Nat} (hF : Fn D ca m' (gR b :: as) sh M [] sh1 M1) (hok : gOk sh M) (hao : ∀ v ∈ gR b :: as, gOkV sh.length v.1 v.2) : Met l (gNm m') (gWs m') (gRm m' (sh1.length - sh.length) (gSz sh1 - gSz sh)) (va_Pc (.ref (ad b) :: as.map fun v => gVl ca ad v.1 v.2) (gB D ca ad sh M sz)) (gQ D ca (va_A (gW ca ad sh M) sz) ad sh [] sh1 M1) (sh1.length - sh.length) (gSz sh1 - gSz sh) (va_A (gW ca ad sh M) sz) := by
  have hM := hF l ad sz hao hok
  rw [show ((gR b :: as).map fun v => gVl ca ad v.1 v.2) = .ref (ad b) :: as.map fun v => gVl ca ad v.1 v.2 from mapR b as] at hM
  exact hM
/-- of a constructor -/
theorem Go_callI {b idx : Nat} (hF : Fn D ca m' (gR b :: as) sh M [] sh1 M1) (hret : gRet m' = none) (cw : gCw (gOwn m) idx m' as.length) (ci' : Cond.instanceMethod (gNm m') ∈ gTb ∧ (gNm m').name = "<init>") (hR : gSub R m') (hstk : stk = as.reverse ++ gR b :: st) (hw : gWd st ≤ 8)
    (hsh : sh.length ≤ sh1.length ∧ sh1.length ≤ sh'.length ∧ gSz sh ≤ gSz sh1 ∧ gSz sh1 ≤ gSz sh') (hd : decode (gCode m) pc = .ok (.invokespecial idx, 3))
    (k : Go D ca sc R m (pc + 3) ls st sh1 M1 rv sh' M') : Go D ca sc R m pc ls stk sh M rv sh' M' := by
  refine Go_ran (rv1 := []) (fun v hv => by cases hv) (Nat.zero_le _) hsh.1 hsh.2.2.1 (fun v hv => by rw [hstk]; exact List.mem_append_right _ (List.mem_cons_of_mem _ hv)) (fun p l e s mi args below meth c ad H locs cells slots A H0 lc hc hs h1 h2 => ?_) hsh.2.1 hsh.2.2.2 k
  obtain ⟨hl, hlo, hso, hok, hP, hD, hS⟩ := hs
  have hts := hc.2.2.2.2.2.1
  have hao : ∀ v ∈ gR b :: as, gOkV sh.length v.1 v.2 := fun v hv => hso v (by
    rw [hstk]
    rcases List.mem_cons.mp hv with rfl | hv
    · exact List.mem_append_right _ List.mem_cons_self
    · exact List.mem_append_left _ (List.mem_reverse.mpr hv))
  have hM := gInitMet (l := l) (ad := ad) (sz := H.size) hF hok hao
  have hB := gCallB (R := R) (dc := sh1.length - sh.length) (ds := gSz sh1 - gSz sh) hts cw hR
  rw [hret] at hB
  exact ⟨_, va_runI (n := as.length) (b := ad b) (As := as.map fun v => gVl ca ad v.1 v.2) ⟨hc.1, hc.2.1, hc.2.2.1, hc.2.2.2.2.1, hts⟩ hM ⟨hB, ci'.2, hts _ ci'.1⟩ (gPreS hP hD hc.2.2.2.2.2.2.2.1) rfl (by rw [List.length_map]) hl.1 (by show stk.map _ = _; rw [hstk, map_rev, mapR]) (gRooms hw) hd ⟨h1, h2⟩⟩
theorem Go_callIN {b idx : Nat} {host : String} (hF : Fn D ca m' (gR b :: as) sh M [] sh1 M1) (hret : gRet m' = none) (cw : gCn (gOwn m) idx m' host as.length) (ci' : Cond.instanceMethod (gNm m') ∈ gTb ∧ (gNm m').name = "<init>") (hR : gSub R m') (hstk : stk = as.reverse ++ gR b :: st) (hw : gWd st ≤ 8)
    (hsh : sh.length ≤ sh1.length ∧ sh1.length ≤ sh'.length ∧ gSz sh ≤ gSz sh1 ∧ gSz sh1 ≤ gSz sh') (hd : decode (gCode m) pc = .ok (.invokespecial idx, 3))
    (k : Go D ca sc R m (pc + 3) ls st sh1 M1 rv sh' M') : Go D ca sc R m pc ls stk sh M rv sh' M' := by
  refine Go_ran (rv1 := []) (fun v hv => by cases hv) (Nat.zero_le _) hsh.1 hsh.2.2.1 (fun v hv => by rw [hstk]; exact List.mem_append_right _ (List.mem_cons_of_mem _ hv)) (fun p l e s mi args below meth c ad H locs cells slots A H0 lc hc hs h1 h2 => ?_) hsh.2.1 hsh.2.2.2 k
  obtain ⟨hl, hlo, hso, hok, hP, hD, hS⟩ := hs
  have hts := hc.2.2.2.2.2.1
  have hao : ∀ v ∈ gR b :: as, gOkV sh.length v.1 v.2 := fun v hv => hso v (by
    rw [hstk]
    rcases List.mem_cons.mp hv with rfl | hv
    · exact List.mem_append_right _ List.mem_cons_self
    · exact List.mem_append_left _ (List.mem_reverse.mpr hv))
  have hM := gInitMet (l := l) (ad := ad) (sz := H.size) hF hok hao
  have hB := gCallN (R := R) (dc := sh1.length - sh.length) (ds := gSz sh1 - gSz sh) hts hc.2.2.2.2.2.2.2.1 cw hR
  rw [hret] at hB
  exact ⟨_, va_runIN (n := as.length) (b := ad b) (As := as.map fun v => gVl ca ad v.1 v.2) ⟨hc.1, hc.2.1, hc.2.2.1, hc.2.2.2.2.1, hts⟩ hM ⟨hB, ci'.2, hts _ ci'.1⟩ (gPreS hP hD hc.2.2.2.2.2.2.2.1) rfl (by rw [List.length_map]) hl.1 (by show stk.map _ = _; rw [hstk, map_rev, mapR]) (gRooms hw) hd ⟨h1, h2⟩⟩
/-- java.lang.Object's constructor -/
theorem Go_oinit {b idx : Nat} (ol : Cond.methodLink (gOwn m) idx Lib.objectInit ∈ gTb ∧ Cond.instanceMethod Lib.objectInit ∈ gTb ∧ Cond.code Lib.objectInit ⟨#[0xb1]⟩ 1 none ∈ gTb) (hR : 1 ≤ R.frames ∧ gWd st + 12 ≤ R.locals) (hd : decode (gCode m) pc = .ok (.invokespecial idx, 3)) (k : Go D ca sc R m (pc + 3) ls st sh M rv sh' M') : Go D ca sc R m pc ls (gR b :: st) sh M rv sh' M' := by
  refine Go_step (st' := st) (fun p l e s mi args below meth c Q ad H locs cells slots A H0 lc hc hs => ⟨ok_t hs.2.2.1, fun w => ?_⟩) k
  rw [mapR]
  have hts := hc.2.2.2.2.2.1
  have hw : ((st.map fun v => gVl ca ad v.1 v.2).map fun v => v.category).sum = gWd st := by
    rw [List.map_map]
    unfold gWd
    congr 1
    exact List.map_congr_left (fun v _ => cat_val ca ad v.1 v.2)
  refine W.objInit hc.1 hc.2.1 hc.2.2.2.2.1 (hts _ ol.1) (hts _ ol.2.1) (hts _ ol.2.2) rfl (by show lc.size = _; rw [hc.2.2.1]; exact hs.1.1) rfl hd hR.1 ?_ w
  show 2 * 0 + ((st.map fun v => gVl ca ad v.1 v.2).map fun v => v.category).sum + 12 ≤ R.locals
  rw [hw]
  omega
/-- System.arraycopy of whole rows of ints -/
theorem Go_copy {a b idx n : Nat} {x : Int} (ol : Cond.methodLink (gOwn m) idx arraycopyName ∈ gTb ∧ Cond.native arraycopyName ∈ gTb ∧ Cond.static arraycopyName ∈ gTb ∧ Cond.initialized "java/lang/System" ∈ gTb) (ha : sh[a]? = some (1, n)) (hb : sh[b]? = some (1, n)) (hx : x = (n : Int)) (hR : 1 ≤ R.frames ∧ gWd st + (nativeFrameWords "java/lang/System" "arraycopy" 5 + 11) ≤ R.locals) (hd : decode (gCode m) pc = .ok (.invokestatic idx, 3))
    (k : Go D ca sc R m (pc + 3) ls st sh (gSet M b (fun j => if j < n then M a j else M b j)) rv sh' M') : Go D ca sc R m pc ls (gI x :: gI 0 :: gR b :: gI 0 :: gR a :: st) sh M rv sh' M' := by
  intro p l e s mi args below meth c Q ad H locs cells slots A H0 lc hc hs hr1 hr2 hk0
  obtain ⟨hl, hlo, hso, hok, hP, hD, hS⟩ := hs
  have hx3 : in32 x := ok_h hso
  have hts := hc.2.2.2.2.2.1
  have e0 : (Int32.ofInt x).toNatClampNeg = n := by rw [nn32 hx3]; omega
  show W p l e R s mi args below meth c H locs cells slots Q (F0 mi pc lc (.int (Int32.ofInt x) :: .int (Int32.ofInt 0) :: gVl ca ad 2 ((b : Int) + 1) :: .int (Int32.ofInt 0) :: gVl ca ad 2 ((a : Int) + 1) :: st.map fun v => gVl ca ad v.1 v.2))
  rw [gVl_R, gVl_R]
  have hw : ((st.map fun v => gVl ca ad v.1 v.2).map fun v => v.category).sum = gWd st := by
    rw [List.map_map]
    unfold gWd
    congr 1
    exact List.map_congr_left (fun v _ => cat_val ca ad v.1 v.2)
  refine va_copyi (f := fun j => Int32.ofInt (M a j)) (g := fun j => Int32.ofInt (M b j)) (n0 := n) (n1 := n) (ty := .int) (sp := Int32.ofInt 0) (dp := Int32.ofInt 0) (n := Int32.ofInt x) hc.1 hc.2.1 (by rw [hc.2.2.1]; exact hl.1.symm) hc.2.2.2.2.1 (hts _ ol.1) (hts _ ol.2.1) (hts _ ol.2.2.1) (hts _ ol.2.2.2) hc.2.2.2.2.2.2.2.1.1 hP hD hS a b 0 0 (gW_at ha) (gW_at hb) rfl rfl rfl (by decide) (by decide) (fun h => by rw [show (0 : Int32) = Int32.ofInt 0 from rfl, lt32 hx3 in32_0] at h; omega) (by rw [e0]; show (Int32.ofInt 0).toNatClampNeg + n ≤ n; rw [show (Int32.ofInt 0).toNatClampNeg = 0 from rfl]; omega) (by rw [e0]; show (Int32.ofInt 0).toNatClampNeg + n ≤ n; rw [show (Int32.ofInt 0).toNatClampNeg = 0 from rfl]; omega) (fun i _ => rfl) hR.1 (by rw [hw]; exact hR.2) hd (fun H1 locs1 hP1 hD1 hS1 => ?_)
  have e2 : va_cpy (fun j => Int32.ofInt (M a j)) (fun j => Int32.ofInt (M b j)) (Int32.ofInt 0).toNatClampNeg (Int32.ofInt 0).toNatClampNeg (Int32.ofInt x).toNatClampNeg = fun j => Int32.ofInt (if j < n then M a j else M b j) := by
    rw [e0, show (Int32.ofInt 0).toNatClampNeg = 0 from rfl]
    funext j
    simp only [va_cpy, Nat.zero_le, true_and, Nat.zero_add, Nat.sub_zero]
    by_cases hj : j < n
    · rw [if_pos hj, if_pos hj]
    · rw [if_neg hj, if_neg hj]
  rw [e2] at hP1 hD1
  have e3 := gW_set (ca := ca) (ad := ad) (M := M) hb (fun j => if j < n then M a j else M b j)
  have hP2 : va_P D vwCl (gW ca ad sh (gSet M b (fun j => if j < n then M a j else M b j))) H1 := by rw [← e3]; exact hP1
  have hD2 : va_D A (gW ca ad sh (gSet M b (fun j => if j < n then M a j else M b j))) := by rw [← e3]; exact hD1
  refine k p l e s mi args below meth c Q ad H1 locs1 cells slots A H0 lc hc ⟨hl, hlo, ok_t (ok_t (ok_t (ok_t (ok_t hso)))), gOk_set hok hb ?_, hP2, hD2, hS1⟩ hr1 hr2 hk0
  intro j
  show in32 (if j < n then M a j else M b j)
  split
  · exact hok a _ ha j
  · exact hok b _ hb j
/-- the end of a method -/
theorem Go_ret {stv : List gAV} (hst : stv = rv) (hd : decode (gCode m) pc = .ok (gRi rv, 1)) : Go D ca sc R m pc ls stv sh M rv sh M := by
  subst hst
  intro p l e s mi args below meth c Q ad H locs cells slots A H0 lc hc hs hr1 hr2 hk
  exact hk ad H locs cells slots lc pc (fun _ _ => rfl) hs.2.2.1 hs.2.2.2.1 hs.2.2.2.2.1 hs.2.2.2.2.2.1 hs.2.2.2.2.2.2 (Nat.le_refl _) (Nat.le_refl _) hd
end GC
end
section
theorem inT {w : Cond} (i : Nat) (h : tables_1[i]? = some w) (hg : goodWord w = true) : w ∈ gTb := List.mem_filter.mpr ⟨List.mem_append_right _ (List.mem_of_getElem? h), hg⟩
theorem inP {w : Cond} (i : Nat) (h : (k2_sels lw_privs)[i]? = some w) (hg : goodWord w = true) : w ∈ gTb := List.mem_filter.mpr ⟨List.mem_append_left _ (List.mem_of_getElem? h), hg⟩
theorem uwX0_0 : u_lay RX0 TX0 0 ∈ gTb := inT 190 (by decide +kernel) (by decide +kernel)
theorem uwX0_1 : u_lay RX0 TX0 1 ∈ gTb := inT 192 (by decide +kernel) (by decide +kernel)
theorem uwX0_2 : u_lay RX0 TX0 2 ∈ gTb := inT 194 (by decide +kernel) (by decide +kernel)
theorem uwX0_3 : u_lay RX0 TX0 3 ∈ gTb := inT 196 (by decide +kernel) (by decide +kernel)
theorem uwX0 : ∀ w ∈ u_ws RX0 TX0 4, w ∈ gTb := by
  intro w hw
  obtain ⟨k, hk, rfl⟩ := List.mem_map.mp hw
  have hk := List.mem_range.mp hk
  match k, hk with
  | 0, _ => exact uwX0_0
  | 1, _ => exact uwX0_1
  | 2, _ => exact uwX0_2
  | 3, _ => exact uwX0_3
  | k + 4, hk => omega
theorem uwX1_0 : u_lay RX1 TX1 0 ∈ gTb := inT 238 (by decide +kernel) (by decide +kernel)
theorem uwX1_1 : u_lay RX1 TX1 1 ∈ gTb := inT 240 (by decide +kernel) (by decide +kernel)
theorem uwX1_2 : u_lay RX1 TX1 2 ∈ gTb := inT 242 (by decide +kernel) (by decide +kernel)
theorem uwX1 : ∀ w ∈ u_ws RX1 TX1 3, w ∈ gTb := by
  intro w hw
  obtain ⟨k, hk, rfl⟩ := List.mem_map.mp hw
  have hk := List.mem_range.mp hk
  match k, hk with
  | 0, _ => exact uwX1_0
  | 1, _ => exact uwX1_1
  | 2, _ => exact uwX1_2
  | k + 3, hk => omega
theorem uwX2_0 : u_lay RX2 TX2 0 ∈ gTb := inT 90 (by decide +kernel) (by decide +kernel)
theorem uwX2_1 : u_lay RX2 TX2 1 ∈ gTb := inT 92 (by decide +kernel) (by decide +kernel)
theorem uwX2_2 : u_lay RX2 TX2 2 ∈ gTb := inT 94 (by decide +kernel) (by decide +kernel)
theorem uwX2 : ∀ w ∈ u_ws RX2 TX2 3, w ∈ gTb := by
  intro w hw
  obtain ⟨k, hk, rfl⟩ := List.mem_map.mp hw
  have hk := List.mem_range.mp hk
  match k, hk with
  | 0, _ => exact uwX2_0
  | 1, _ => exact uwX2_1
  | 2, _ => exact uwX2_2
  | k + 3, hk => omega
theorem uwX3_0 : u_lay RX3 TX3 0 ∈ gTb := inT 123 (by decide +kernel) (by decide +kernel)
theorem uwX3_1 : u_lay RX3 TX3 1 ∈ gTb := inT 125 (by decide +kernel) (by decide +kernel)
theorem uwX3_2 : u_lay RX3 TX3 2 ∈ gTb := inT 127 (by decide +kernel) (by decide +kernel)
theorem uwX3_3 : u_lay RX3 TX3 3 ∈ gTb := inT 129 (by decide +kernel) (by decide +kernel)
theorem uwX3 : ∀ w ∈ u_ws RX3 TX3 4, w ∈ gTb := by
  intro w hw
  obtain ⟨k, hk, rfl⟩ := List.mem_map.mp hw
  have hk := List.mem_range.mp hk
  match k, hk with
  | 0, _ => exact uwX3_0
  | 1, _ => exact uwX3_1
  | 2, _ => exact uwX3_2
  | 3, _ => exact uwX3_3
  | k + 4, hk => omega
theorem uwX4_0 : u_lay RX4 TX4 0 ∈ gTb := inT 214 (by decide +kernel) (by decide +kernel)
theorem uwX4_1 : u_lay RX4 TX4 1 ∈ gTb := inT 216 (by decide +kernel) (by decide +kernel)
theorem uwX4_2 : u_lay RX4 TX4 2 ∈ gTb := inT 218 (by decide +kernel) (by decide +kernel)
theorem uwX4_3 : u_lay RX4 TX4 3 ∈ gTb := inT 220 (by decide +kernel) (by decide +kernel)
theorem uwX4_4 : u_lay RX4 TX4 4 ∈ gTb := inT 222 (by decide +kernel) (by decide +kernel)
theorem uwX4_5 : u_lay RX4 TX4 5 ∈ gTb := inT 224 (by decide +kernel) (by decide +kernel)
theorem uwX4 : ∀ w ∈ u_ws RX4 TX4 6, w ∈ gTb := by
  intro w hw
  obtain ⟨k, hk, rfl⟩ := List.mem_map.mp hw
  have hk := List.mem_range.mp hk
  match k, hk with
  | 0, _ => exact uwX4_0
  | 1, _ => exact uwX4_1
  | 2, _ => exact uwX4_2
  | 3, _ => exact uwX4_3
  | 4, _ => exact uwX4_4
  | 5, _ => exact uwX4_5
  | k + 6, hk => omega
theorem uwX5_0 : u_lay RX5 TX5 0 ∈ gTb := inT 157 (by decide +kernel) (by decide +kernel)
theorem uwX5_1 : u_lay RX5 TX5 1 ∈ gTb := inT 159 (by decide +kernel) (by decide +kernel)
theorem uwX5_2 : u_lay RX5 TX5 2 ∈ gTb := inT 161 (by decide +kernel) (by decide +kernel)
theorem uwX5_3 : u_lay RX5 TX5 3 ∈ gTb := inT 163 (by decide +kernel) (by decide +kernel)
theorem uwX5_4 : u_lay RX5 TX5 4 ∈ gTb := inT 165 (by decide +kernel) (by decide +kernel)
theorem uwX5_5 : u_lay RX5 TX5 5 ∈ gTb := inT 167 (by decide +kernel) (by decide +kernel)
theorem uwX5_6 : u_lay RX5 TX5 6 ∈ gTb := inT 169 (by decide +kernel) (by decide +kernel)
theorem uwX5_7 : u_lay RX5 TX5 7 ∈ gTb := inT 171 (by decide +kernel) (by decide +kernel)
theorem uwX5_8 : u_lay RX5 TX5 8 ∈ gTb := inT 173 (by decide +kernel) (by decide +kernel)
theorem uwX5_9 : u_lay RX5 TX5 9 ∈ gTb := inT 175 (by decide +kernel) (by decide +kernel)
theorem uwX5 : ∀ w ∈ u_ws RX5 TX5 10, w ∈ gTb := by
  intro w hw
  obtain ⟨k, hk, rfl⟩ := List.mem_map.mp hw
  have hk := List.mem_range.mp hk
  match k, hk with
  | 0, _ => exact uwX5_0
  | 1, _ => exact uwX5_1
  | 2, _ => exact uwX5_2
  | 3, _ => exact uwX5_3
  | 4, _ => exact uwX5_4
  | 5, _ => exact uwX5_5
  | 6, _ => exact uwX5_6
  | 7, _ => exact uwX5_7
  | 8, _ => exact uwX5_8
  | 9, _ => exact uwX5_9
  | k + 10, hk => omega
theorem uwX6_0 : u_lay RX6 TX6 0 ∈ gTb := inT 57 (by decide +kernel) (by decide +kernel)
theorem uwX6_1 : u_lay RX6 TX6 1 ∈ gTb := inT 59 (by decide +kernel) (by decide +kernel)
theorem uwX6_2 : u_lay RX6 TX6 2 ∈ gTb := inT 61 (by decide +kernel) (by decide +kernel)
theorem uwX6_3 : u_lay RX6 TX6 3 ∈ gTb := inT 63 (by decide +kernel) (by decide +kernel)
theorem uwX6_4 : u_lay RX6 TX6 4 ∈ gTb := inT 65 (by decide +kernel) (by decide +kernel)
theorem uwX6_5 : u_lay RX6 TX6 5 ∈ gTb := inT 67 (by decide +kernel) (by decide +kernel)
theorem uwX6_6 : u_lay RX6 TX6 6 ∈ gTb := inT 69 (by decide +kernel) (by decide +kernel)
theorem uwX6_7 : u_lay RX6 TX6 7 ∈ gTb := inT 71 (by decide +kernel) (by decide +kernel)
theorem uwX6_8 : u_lay RX6 TX6 8 ∈ gTb := inT 73 (by decide +kernel) (by decide +kernel)
theorem uwX6 : ∀ w ∈ u_ws RX6 TX6 9, w ∈ gTb := by
  intro w hw
  obtain ⟨k, hk, rfl⟩ := List.mem_map.mp hw
  have hk := List.mem_range.mp hk
  match k, hk with
  | 0, _ => exact uwX6_0
  | 1, _ => exact uwX6_1
  | 2, _ => exact uwX6_2
  | 3, _ => exact uwX6_3
  | 4, _ => exact uwX6_4
  | 5, _ => exact uwX6_5
  | 6, _ => exact uwX6_6
  | 7, _ => exact uwX6_7
  | 8, _ => exact uwX6_8
  | k + 9, hk => omega
theorem uwX7_0 : u_lay RX7 TX7 0 ∈ gTb := inT 106 (by decide +kernel) (by decide +kernel)
theorem uwX7 : ∀ w ∈ u_ws RX7 TX7 1, w ∈ gTb := by
  intro w hw
  obtain ⟨k, hk, rfl⟩ := List.mem_map.mp hw
  have hk := List.mem_range.mp hk
  match k, hk with
  | 0, _ => exact uwX7_0
  | k + 1, hk => omega
theorem uwX8_0 : u_lay RX8 TX8 0 ∈ gTb := inT 254 (by decide +kernel) (by decide +kernel)
theorem uwX8_1 : u_lay RX8 TX8 1 ∈ gTb := inT 256 (by decide +kernel) (by decide +kernel)
theorem uwX8_2 : u_lay RX8 TX8 2 ∈ gTb := inT 258 (by decide +kernel) (by decide +kernel)
theorem uwX8_3 : u_lay RX8 TX8 3 ∈ gTb := inT 260 (by decide +kernel) (by decide +kernel)
theorem uwX8_4 : u_lay RX8 TX8 4 ∈ gTb := inT 262 (by decide +kernel) (by decide +kernel)
theorem uwX8_5 : u_lay RX8 TX8 5 ∈ gTb := inT 264 (by decide +kernel) (by decide +kernel)
theorem uwX8_6 : u_lay RX8 TX8 6 ∈ gTb := inT 266 (by decide +kernel) (by decide +kernel)
theorem uwX8_7 : u_lay RX8 TX8 7 ∈ gTb := inT 268 (by decide +kernel) (by decide +kernel)
theorem uwX8_8 : u_lay RX8 TX8 8 ∈ gTb := inT 270 (by decide +kernel) (by decide +kernel)
theorem uwX8 : ∀ w ∈ u_ws RX8 TX8 9, w ∈ gTb := by
  intro w hw
  obtain ⟨k, hk, rfl⟩ := List.mem_map.mp hw
  have hk := List.mem_range.mp hk
  match k, hk with
  | 0, _ => exact uwX8_0
  | 1, _ => exact uwX8_1
  | 2, _ => exact uwX8_2
  | 3, _ => exact uwX8_3
  | 4, _ => exact uwX8_4
  | 5, _ => exact uwX8_5
  | 6, _ => exact uwX8_6
  | 7, _ => exact uwX8_7
  | 8, _ => exact uwX8_8
  | k + 9, hk => omega
theorem uwX9_0 : u_lay RX9 TX9 0 ∈ gTb := inT 802 (by decide +kernel) (by decide +kernel)
theorem uwX9_1 : u_lay RX9 TX9 1 ∈ gTb := inT 804 (by decide +kernel) (by decide +kernel)
theorem uwX9_2 : u_lay RX9 TX9 2 ∈ gTb := inT 806 (by decide +kernel) (by decide +kernel)
theorem uwX9_3 : u_lay RX9 TX9 3 ∈ gTb := inT 808 (by decide +kernel) (by decide +kernel)
theorem uwX9_4 : u_lay RX9 TX9 4 ∈ gTb := inT 810 (by decide +kernel) (by decide +kernel)
theorem uwX9_5 : u_lay RX9 TX9 5 ∈ gTb := inT 812 (by decide +kernel) (by decide +kernel)
theorem uwX9_6 : u_lay RX9 TX9 6 ∈ gTb := inT 814 (by decide +kernel) (by decide +kernel)
theorem uwX9_7 : u_lay RX9 TX9 7 ∈ gTb := inT 816 (by decide +kernel) (by decide +kernel)
theorem uwX9_8 : u_lay RX9 TX9 8 ∈ gTb := inT 818 (by decide +kernel) (by decide +kernel)
theorem uwX9_9 : u_lay RX9 TX9 9 ∈ gTb := inT 820 (by decide +kernel) (by decide +kernel)
theorem uwX9_10 : u_lay RX9 TX9 10 ∈ gTb := inT 822 (by decide +kernel) (by decide +kernel)
theorem uwX9_11 : u_lay RX9 TX9 11 ∈ gTb := inT 824 (by decide +kernel) (by decide +kernel)
theorem uwX9_12 : u_lay RX9 TX9 12 ∈ gTb := inT 826 (by decide +kernel) (by decide +kernel)
theorem uwX9_13 : u_lay RX9 TX9 13 ∈ gTb := inT 828 (by decide +kernel) (by decide +kernel)
theorem uwX9_14 : u_lay RX9 TX9 14 ∈ gTb := inT 830 (by decide +kernel) (by decide +kernel)
theorem uwX9_15 : u_lay RX9 TX9 15 ∈ gTb := inT 832 (by decide +kernel) (by decide +kernel)
theorem uwX9_16 : u_lay RX9 TX9 16 ∈ gTb := inT 834 (by decide +kernel) (by decide +kernel)
theorem uwX9_17 : u_lay RX9 TX9 17 ∈ gTb := inT 836 (by decide +kernel) (by decide +kernel)
theorem uwX9_18 : u_lay RX9 TX9 18 ∈ gTb := inT 838 (by decide +kernel) (by decide +kernel)
theorem uwX9_19 : u_lay RX9 TX9 19 ∈ gTb := inT 840 (by decide +kernel) (by decide +kernel)
theorem uwX9_20 : u_lay RX9 TX9 20 ∈ gTb := inT 842 (by decide +kernel) (by decide +kernel)
theorem uwX9_21 : u_lay RX9 TX9 21 ∈ gTb := inT 844 (by decide +kernel) (by decide +kernel)
theorem uwX9_22 : u_lay RX9 TX9 22 ∈ gTb := inT 846 (by decide +kernel) (by decide +kernel)
theorem uwX9_23 : u_lay RX9 TX9 23 ∈ gTb := inT 848 (by decide +kernel) (by decide +kernel)
theorem uwX9_24 : u_lay RX9 TX9 24 ∈ gTb := inT 850 (by decide +kernel) (by decide +kernel)
theorem uwX9_25 : u_lay RX9 TX9 25 ∈ gTb := inT 852 (by decide +kernel) (by decide +kernel)
theorem uwX9_26 : u_lay RX9 TX9 26 ∈ gTb := inT 854 (by decide +kernel) (by decide +kernel)
theorem uwX9_27 : u_lay RX9 TX9 27 ∈ gTb := inT 856 (by decide +kernel) (by decide +kernel)
theorem uwX9_28 : u_lay RX9 TX9 28 ∈ gTb := inT 858 (by decide +kernel) (by decide +kernel)
theorem uwX9_29 : u_lay RX9 TX9 29 ∈ gTb := inT 860 (by decide +kernel) (by decide +kernel)
theorem uwX9_30 : u_lay RX9 TX9 30 ∈ gTb := inT 862 (by decide +kernel) (by decide +kernel)
theorem uwX9_31 : u_lay RX9 TX9 31 ∈ gTb := inT 864 (by decide +kernel) (by decide +kernel)
theorem uwX9_32 : u_lay RX9 TX9 32 ∈ gTb := inT 866 (by decide +kernel) (by decide +kernel)
theorem uwX9_33 : u_lay RX9 TX9 33 ∈ gTb := inT 868 (by decide +kernel) (by decide +kernel)
theorem uwX9_34 : u_lay RX9 TX9 34 ∈ gTb := inT 870 (by decide +kernel) (by decide +kernel)
theorem uwX9_35 : u_lay RX9 TX9 35 ∈ gTb := inT 872 (by decide +kernel) (by decide +kernel)
theorem uwX9_36 : u_lay RX9 TX9 36 ∈ gTb := inT 874 (by decide +kernel) (by decide +kernel)
theorem uwX9_37 : u_lay RX9 TX9 37 ∈ gTb := inT 876 (by decide +kernel) (by decide +kernel)
theorem uwX9_38 : u_lay RX9 TX9 38 ∈ gTb := inT 878 (by decide +kernel) (by decide +kernel)
theorem uwX9 : ∀ w ∈ u_ws RX9 TX9 39, w ∈ gTb := by
  intro w hw
  obtain ⟨k, hk, rfl⟩ := List.mem_map.mp hw
  have hk := List.mem_range.mp hk
  match k, hk with
  | 0, _ => exact uwX9_0
  | 1, _ => exact uwX9_1
  | 2, _ => exact uwX9_2
  | 3, _ => exact uwX9_3
  | 4, _ => exact uwX9_4
  | 5, _ => exact uwX9_5
  | 6, _ => exact uwX9_6
  | 7, _ => exact uwX9_7
  | 8, _ => exact uwX9_8
  | 9, _ => exact uwX9_9
  | 10, _ => exact uwX9_10
  | 11, _ => exact uwX9_11
  | 12, _ => exact uwX9_12
  | 13, _ => exact uwX9_13
  | 14, _ => exact uwX9_14
  | 15, _ => exact uwX9_15
  | 16, _ => exact uwX9_16
  | 17, _ => exact uwX9_17
  | 18, _ => exact uwX9_18
  | 19, _ => exact uwX9_19
  | 20, _ => exact uwX9_20
  | 21, _ => exact uwX9_21
  | 22, _ => exact uwX9_22
  | 23, _ => exact uwX9_23
  | 24, _ => exact uwX9_24
  | 25, _ => exact uwX9_25
  | 26, _ => exact uwX9_26
  | 27, _ => exact uwX9_27
  | 28, _ => exact uwX9_28
  | 29, _ => exact uwX9_29
  | 30, _ => exact uwX9_30
  | 31, _ => exact uwX9_31
  | 32, _ => exact uwX9_32
  | 33, _ => exact uwX9_33
  | 34, _ => exact uwX9_34
  | 35, _ => exact uwX9_35
  | 36, _ => exact uwX9_36
  | 37, _ => exact uwX9_37
  | 38, _ => exact uwX9_38
  | k + 39, hk => omega
abbrev mX0_init : gMd := (yX0_init, cX0_init, RX0, 2, none, true, 1, 20)
abbrev mX0_putUp : gMd := (yX0_putUp, cX0_putUp, RX0, 4, some .int, false, 5, 117)
abbrev mX0_improve : gMd := (yX0_improve, cX0_improve, RX0, 5, some .int, false, 5, 118)
abbrev mX0_withOneMore : gMd := (yX0_withOneMore, cX0_withOneMore, RX0, 3, some .int, false, 4, 95)
abbrev mX0_withOneForAnother : gMd := (yX0_withOneForAnother, cX0_withOneForAnother, RX0, 4, some .int, false, 4, 95)
abbrev mX0_startFrom : gMd := (yX0_startFrom, cX0_startFrom, RX0, 2, none, false, 3, 72)
abbrev mX0_consider : gMd := (yX0_consider, cX0_consider, RX0, 4, none, false, 3, 72)
abbrev mX1_init : gMd := (yX1_init, cX1_init, RX1, 1, none, true, 1, 20)
abbrev mX1_renew : gMd := (yX1_renew, cX1_renew, RX1, 4, none, false, 0, 0)
abbrev mX1_write : gMd := (yX1_write, cX1_write, RX1, 4, none, false, 0, 0)
abbrev mX1_holdsRoad : gMd := (yX1_holdsRoad, cX1_holdsRoad, RX1, 2, some .boolean, false, 0, 0)
abbrev mX2_init : gMd := (yX2_init, cX2_init, RX2, 2, none, true, 2, 40)
abbrev mX2_open : gMd := (yX2_open, cX2_open, RX2, 2, none, false, 2, 47)
abbrev mX2_close : gMd := (yX2_close, cX2_close, RX2, 2, some .boolean, false, 2, 43)
abbrev mX2_turnBack : gMd := (yX2_turnBack, cX2_turnBack, RX2, 2, none, false, 2, 47)
abbrev mX3_init : gMd := (yX3_init, cX3_init, RX3, 2, none, true, 1, 20)
abbrev mX3_carry : gMd := (yX3_carry, cX3_carry, RX3, 4, none, false, 1, 23)
abbrev mX3_carriedOver : gMd := (yX3_carriedOver, cX3_carriedOver, RX3, 3, some .int, false, 0, 0)
abbrev mX3_carriedTo : gMd := (yX3_carriedTo, cX3_carriedTo, RX3, 3, some .int, false, 0, 0)
abbrev mX3_isChoice : gMd := (yX3_isChoice, cX3_isChoice, RX3, 2, some .boolean, false, 0, 0)
abbrev mX3_mayStand : gMd := (yX3_mayStand, cX3_mayStand, RX3, 2, some .boolean, false, 1, 20)
abbrev mX3_ovenFor : gMd := (yX3_ovenFor, cX3_ovenFor, RX3, 6, some .int, false, 1, 22)
abbrev mX3_measureOf : gMd := (yX3_measureOf, cX3_measureOf, RX3, 6, some .long, false, 2, 47)
abbrev mX3_feeds : gMd := (yX3_feeds, cX3_feeds, RX3, 4, some .boolean, false, 2, 47)
abbrev mX3_villagesOf : gMd := (yX3_villagesOf, cX3_villagesOf, RX3, 5, some .int, false, 3, 70)
abbrev mX3_loavesOf : gMd := (yX3_loavesOf, cX3_loavesOf, RX3, 5, some .int, false, 3, 70)
abbrev mX3_farthestOf : gMd := (yX3_farthestOf, cX3_farthestOf, RX3, 5, some .int, false, 3, 70)
abbrev mX3_farthestOfAll : gMd := (yX3_farthestOfAll, cX3_farthestOfAll, RX3, 5, some .int, false, 2, 47)
abbrev mX4_init : gMd := (yX4_init, cX4_init, RX4, 3, none, true, 1, 20)
abbrev mX4_forgetFrom : gMd := (yX4_forgetFrom, cX4_forgetFrom, RX4, 3, none, false, 0, 0)
abbrev mX4_giftOf : gMd := (yX4_giftOf, cX4_giftOf, RX4, 4, some .long, false, 1, 23)
abbrev mX4_worthOf : gMd := (yX4_worthOf, cX4_worthOf, RX4, 5, some .long, false, 2, 46)
abbrev mX4_findTop : gMd := (yX4_findTop, cX4_findTop, RX4, 3, none, false, 4, 95)
abbrev mX4_addUpWorths : gMd := (yX4_addUpWorths, cX4_addUpWorths, RX4, 6, none, false, 3, 70)
abbrev mX4_boundOfTop : gMd := (yX4_boundOfTop, cX4_boundOfTop, RX4, 4, some .long, false, 0, 0)
abbrev mX4_climbFromTop : gMd := (yX4_climbFromTop, cX4_climbFromTop, RX4, 5, some .int, false, 5, 117)
abbrev mX4_movePrices : gMd := (yX4_movePrices, cX4_movePrices, RX4, 6, some .int, false, 3, 69)
abbrev mX4_movedPrice : gMd := (yX4_movedPrice, cX4_movedPrice, RX4, 4, some .long, false, 1, 23)
abbrev mX4_giversOfTop : gMd := (yX4_giversOfTop, cX4_giversOfTop, RX4, 4, some .int, false, 2, 46)
abbrev mX5_init : gMd := (yX5_init, cX5_init, RX5, 1, none, true, 1, 20)
abbrev mX5_take : gMd := (yX5_take, cX5_take, RX5, 6, none, false, 3, 72)
abbrev mX5_forget : gMd := (yX5_forget, cX5_forget, RX5, 2, none, false, 0, 0)
abbrev mX5_noteCost : gMd := (yX5_noteCost, cX5_noteCost, RX5, 4, none, false, 0, 0)
abbrev mX5_noteLosses : gMd := (yX5_noteLosses, cX5_noteLosses, RX5, 5, none, false, 1, 23)
abbrev mX5_noteFar : gMd := (yX5_noteFar, cX5_noteFar, RX5, 3, none, false, 0, 0)
abbrev mX5_dearestLoss : gMd := (yX5_dearestLoss, cX5_dearestLoss, RX5, 6, some .int, false, 0, 0)
abbrev mX6_init : gMd := (yX6_init, cX6_init, RX6, 1, none, true, 1, 20)
abbrev mX6_hasVillage : gMd := (yX6_hasVillage, cX6_hasVillage, RX6, 3, some .boolean, false, 1, 25)
abbrev mX6_hasPlace : gMd := (yX6_hasPlace, cX6_hasPlace, RX6, 2, some .boolean, false, 1, 25)
abbrev mX6_takesRoad : gMd := (yX6_takesRoad, cX6_takesRoad, RX6, 7, some .boolean, false, 2, 47)
abbrev mX6_settle : gMd := (yX6_settle, cX6_settle, RX6, 2, some .int, false, 0, 0)
abbrev mX6_stake : gMd := (yX6_stake, cX6_stake, RX6, 4, some .int, false, 0, 0)
abbrev mX6_lengthOf : gMd := (yX6_lengthOf, cX6_lengthOf, RX6, 3, some .int, false, 0, 0)
abbrev mX6_pave : gMd := (yX6_pave, cX6_pave, RX6, 4, none, false, 0, 0)
abbrev mX6_roads : gMd := (yX6_roads, cX6_roads, RX6, 4, some .int, false, 1, 22)
abbrev mX6_allLoaves : gMd := (yX6_allLoaves, cX6_allLoaves, RX6, 3, some .int, false, 0, 0)
abbrev mX6_placesOfKind : gMd := (yX6_placesOfKind, cX6_placesOfKind, RX6, 4, some .int, false, 0, 0)
abbrev mX6_ovenCost : gMd := (yX6_ovenCost, cX6_ovenCost, RX6, 2, some .int, false, 0, 0)
abbrev mX6_copyFrom : gMd := (yX6_copyFrom, cX6_copyFrom, RX6, 2, none, false, 1, 26)
abbrev mX6_isLike : gMd := (yX6_isLike, cX6_isLike, RX6, 2, some .boolean, false, 1, 22)
abbrev mX6_sameRows : gMd := (yX6_sameRows, cX6_sameRows, RX6, 3, some .boolean, false, 0, 0)
abbrev mX7_init : gMd := (yX7_init, cX7_init, RX7, 1, none, true, 1, 20)
abbrev mX7_between : gMd := (yX7_between, cX7_between, RX7, 3, some .int, false, 0, 0)
abbrev mX7_measure : gMd := (yX7_measure, cX7_measure, RX7, 4, none, false, 2, 48)
abbrev mX7_takeRoads : gMd := (yX7_takeRoads, cX7_takeRoads, RX7, 5, none, false, 1, 22)
abbrev mX7_shorten : gMd := (yX7_shorten, cX7_shorten, RX7, 7, none, false, 1, 22)
abbrev mX7_villageAt : gMd := (yX7_villageAt, cX7_villageAt, RX7, 7, some .int, false, 2, 47)
abbrev mX7_nextOf : gMd := (yX7_nextOf, cX7_nextOf, RX7, 6, some .int, false, 1, 22)
abbrev mX8_init : gMd := (yX8_init, cX8_init, RX8, 2, none, true, 3, 61)
abbrev mX8_village : gMd := (yX8_village, cX8_village, RX8, 3, some .int, false, 5, 111)
abbrev mX8_loaves : gMd := (yX8_loaves, cX8_loaves, RX8, 4, some .int, false, 5, 111)
abbrev mX8_road : gMd := (yX8_road, cX8_road, RX8, 5, some .int, false, 5, 111)
abbrev mX8_place : gMd := (yX8_place, cX8_place, RX8, 5, some .int, false, 5, 111)
abbrev mX8_reach : gMd := (yX8_reach, cX8_reach, RX8, 4, some .int, false, 5, 111)
abbrev mX8_number : gMd := (yX8_number, cX8_number, RX8, 3, some .int, false, 5, 111)
abbrev mX8_map : gMd := (yX8_map, cX8_map, RX8, 4, some .int, false, 2, 45)
abbrev mX8_lay : gMd := (yX8_lay, cX8_lay, RX8, 5, some .int, false, 2, 45)
abbrev mX8_draw : gMd := (yX8_draw, cX8_draw, RX8, 5, some .int, false, 5, 111)
abbrev mX8_apart : gMd := (yX8_apart, cX8_apart, RX8, 4, some .int, false, 2, 47)
abbrev mX8_way : gMd := (yX8_way, cX8_way, RX8, 4, some .int, false, 3, 73)
abbrev mX8_allowed : gMd := (yX8_allowed, cX8_allowed, RX8, 2, some .int, false, 2, 41)
abbrev mX8_cost : gMd := (yX8_cost, cX8_cost, RX8, 4, some .long, false, 3, 72)
abbrev mX8_served : gMd := (yX8_served, cX8_served, RX8, 3, some .int, false, 2, 47)
abbrev mX8_share : gMd := (yX8_share, cX8_share, RX8, 4, some .int, false, 4, 94)
abbrev mX8_least : gMd := (yX8_least, cX8_least, RX8, 1, some .long, false, 5, 117)
abbrev mX8_best : gMd := (yX8_best, cX8_best, RX8, 1, some .int, false, 5, 117)
abbrev mX8_many : gMd := (yX8_many, cX8_many, RX8, 1, some .int, false, 5, 117)
abbrev mX8_every : gMd := (yX8_every, cX8_every, RX8, 2, some .int, false, 5, 117)
abbrev mX8_second : gMd := (yX8_second, cX8_second, RX8, 2, some .int, false, 5, 117)
abbrev mX8_lose : gMd := (yX8_lose, cX8_lose, RX8, 4, some .long, false, 5, 117)
abbrev mX8_worst : gMd := (yX8_worst, cX8_worst, RX8, 1, some .int, false, 5, 117)
abbrev mX8_farthest : gMd := (yX8_farthest, cX8_farthest, RX8, 1, some .int, false, 5, 117)
abbrev mX8_nearest : gMd := (yX8_nearest, cX8_nearest, RX8, 1, some .int, false, 5, 117)
abbrev mX8_added : gMd := (yX8_added, cX8_added, RX8, 1, some .int, false, 6, 140)
abbrev mX8_changed : gMd := (yX8_changed, cX8_changed, RX8, 2, some .int, false, 6, 142)
abbrev mX8_moves : gMd := (yX8_moves, cX8_moves, RX8, 1, some .int, false, 0, 0)
abbrev mX8_price : gMd := (yX8_price, cX8_price, RX8, 3, some .int, false, 2, 47)
abbrev mX8_priced : gMd := (yX8_priced, cX8_priced, RX8, 2, some .long, false, 2, 47)
abbrev mX8_gives : gMd := (yX8_gives, cX8_gives, RX8, 3, some .long, false, 2, 47)
abbrev mX8_worth : gMd := (yX8_worth, cX8_worth, RX8, 2, some .long, false, 3, 70)
abbrev mX8_bound : gMd := (yX8_bound, cX8_bound, RX8, 1, some .long, false, 5, 117)
abbrev mX8_climb : gMd := (yX8_climb, cX8_climb, RX8, 3, some .int, false, 6, 141)
abbrev mX8_highest : gMd := (yX8_highest, cX8_highest, RX8, 1, some .long, false, 0, 0)
abbrev mX8_undo : gMd := (yX8_undo, cX8_undo, RX8, 1, some .int, false, 4, 91)
abbrev mX8_count : gMd := (yX8_count, cX8_count, RX8, 2, some .int, false, 2, 45)
abbrev mX8_isWithin : gMd := (yX8_isWithin, cX8_isWithin, RX8, 6, some .boolean, false, 0, 0)
abbrev mX8_isMap : gMd := (yX8_isMap, cX8_isMap, RX8, 1, some .boolean, false, 1, 25)
abbrev mX8_isLane : gMd := (yX8_isLane, cX8_isLane, RX8, 1, some .boolean, false, 1, 25)
abbrev mX8_isIn : gMd := (yX8_isIn, cX8_isIn, RX8, 2, some .boolean, false, 0, 0)
abbrev mX8_keepChange : gMd := (yX8_keepChange, cX8_keepChange, RX8, 1, none, false, 4, 91)
abbrev mX8_workOut : gMd := (yX8_workOut, cX8_workOut, RX8, 1, none, false, 3, 71)
abbrev mX8_surveyChoices : gMd := (yX8_surveyChoices, cX8_surveyChoices, RX8, 1, none, false, 4, 97)
abbrev mX8_refusalToDraw : gMd := (yX8_refusalToDraw, cX8_refusalToDraw, RX8, 6, some .int, false, 3, 73)
abbrev mX8_paveFrom : gMd := (yX8_paveFrom, cX8_paveFrom, RX8, 5, none, false, 1, 23)
abbrev mX9_init : gMd := (yX9_init, cX9_init, RX9, 1, none, true, 1, 20)
abbrev mX9_in : gMd := (yX9_in, cX9_in, RX9, 6, some .boolean, false, 0, 0)
abbrev mX9_keep : gMd := (yX9_keep, cX9_keep, RX9, 2, none, false, 0, 0)
abbrev mX9_undo : gMd := (yX9_undo, cX9_undo, RX9, 2, some .int, false, 0, 0)
abbrev mX9_isVillage : gMd := (yX9_isVillage, cX9_isVillage, RX9, 2, some .boolean, false, 1, 25)
abbrev mX9_isPlace : gMd := (yX9_isPlace, cX9_isPlace, RX9, 2, some .boolean, false, 1, 25)
abbrev mX9_village : gMd := (yX9_village, cX9_village, RX9, 4, some .int, false, 1, 25)
abbrev mX9_loaves : gMd := (yX9_loaves, cX9_loaves, RX9, 4, some .int, false, 2, 46)
abbrev mX9_isRoad : gMd := (yX9_isRoad, cX9_isRoad, RX9, 7, some .boolean, false, 1, 25)
abbrev mX9_road : gMd := (yX9_road, cX9_road, RX9, 5, some .int, false, 2, 51)
abbrev mX9_place : gMd := (yX9_place, cX9_place, RX9, 4, some .int, false, 2, 46)
abbrev mX9_reach : gMd := (yX9_reach, cX9_reach, RX9, 4, some .int, false, 2, 46)
abbrev mX9_number : gMd := (yX9_number, cX9_number, RX9, 3, some .int, false, 1, 25)
abbrev mX9_map : gMd := (yX9_map, cX9_map, RX9, 5, some .int, false, 1, 25)
abbrev mX9_lay : gMd := (yX9_lay, cX9_lay, RX9, 5, some .int, false, 1, 25)
abbrev mX9_draw : gMd := (yX9_draw, cX9_draw, RX9, 9, some .int, false, 2, 51)
abbrev mX9_findWays : gMd := (yX9_findWays, cX9_findWays, RX9, 5, none, false, 0, 0)
abbrev mX9_apart : gMd := (yX9_apart, cX9_apart, RX9, 3, some .int, false, 2, 46)
abbrev mX9_way : gMd := (yX9_way, cX9_way, RX9, 7, some .int, false, 2, 46)
abbrev mX9_carried : gMd := (yX9_carried, cX9_carried, RX9, 4, some .int, false, 0, 0)
abbrev mX9_ovenCost : gMd := (yX9_ovenCost, cX9_ovenCost, RX9, 2, some .int, false, 0, 0)
abbrev mX9_isChoice : gMd := (yX9_isChoice, cX9_isChoice, RX9, 2, some .boolean, false, 1, 25)
abbrev mX9_isAllowed : gMd := (yX9_isAllowed, cX9_isAllowed, RX9, 6, some .boolean, false, 0, 0)
abbrev mX9_servedBy : gMd := (yX9_servedBy, cX9_servedBy, RX9, 5, some .int, false, 1, 23)
abbrev mX9_weigh : gMd := (yX9_weigh, cX9_weigh, RX9, 4, none, false, 2, 47)
abbrev mX9_allowed : gMd := (yX9_allowed, cX9_allowed, RX9, 2, some .int, false, 2, 46)
abbrev mX9_cost : gMd := (yX9_cost, cX9_cost, RX9, 2, some .long, false, 3, 70)
abbrev mX9_served : gMd := (yX9_served, cX9_served, RX9, 3, some .int, false, 2, 47)
abbrev mX9_share : gMd := (yX9_share, cX9_share, RX9, 8, some .int, false, 2, 47)
abbrev mX9_find : gMd := (yX9_find, cX9_find, RX9, 4, none, false, 3, 70)
abbrev mX9_least : gMd := (yX9_least, cX9_least, RX9, 1, some .long, false, 4, 93)
abbrev mX9_best : gMd := (yX9_best, cX9_best, RX9, 1, some .int, false, 4, 93)
abbrev mX9_many : gMd := (yX9_many, cX9_many, RX9, 1, some .int, false, 4, 93)
abbrev mX9_every : gMd := (yX9_every, cX9_every, RX9, 2, some .int, false, 4, 93)
abbrev mX9_second : gMd := (yX9_second, cX9_second, RX9, 2, some .int, false, 4, 93)
abbrev mX9_lose : gMd := (yX9_lose, cX9_lose, RX9, 2, some .long, false, 4, 93)
abbrev mX9_worst : gMd := (yX9_worst, cX9_worst, RX9, 7, some .int, false, 4, 93)
abbrev mX9_findNearest : gMd := (yX9_findNearest, cX9_findNearest, RX9, 2, none, false, 3, 70)
abbrev mX9_farthest : gMd := (yX9_farthest, cX9_farthest, RX9, 1, some .int, false, 4, 91)
abbrev mX9_nearest : gMd := (yX9_nearest, cX9_nearest, RX9, 1, some .int, false, 4, 91)
abbrev mX9_shrines : gMd := (yX9_shrines, cX9_shrines, RX9, 3, some .int, false, 0, 0)
abbrev mX9_isLess : gMd := (yX9_isLess, cX9_isLess, RX9, 3, some .boolean, false, 3, 70)
abbrev mX9_begins : gMd := (yX9_begins, cX9_begins, RX9, 2, none, false, 3, 70)
abbrev mX9_added : gMd := (yX9_added, cX9_added, RX9, 6, some .int, false, 4, 92)
abbrev mX9_changed : gMd := (yX9_changed, cX9_changed, RX9, 8, some .int, false, 4, 92)
abbrev mX9_moves : gMd := (yX9_moves, cX9_moves, RX9, 1, some .int, false, 0, 0)
abbrev mX9_price : gMd := (yX9_price, cX9_price, RX9, 3, some .int, false, 2, 46)
abbrev mX9_priced : gMd := (yX9_priced, cX9_priced, RX9, 2, some .long, false, 2, 46)
abbrev mX9_given : gMd := (yX9_given, cX9_given, RX9, 5, some .long, false, 1, 23)
abbrev mX9_gives : gMd := (yX9_gives, cX9_gives, RX9, 3, some .long, false, 2, 47)
abbrev mX9_worthOf : gMd := (yX9_worthOf, cX9_worthOf, RX9, 5, some .long, false, 2, 47)
abbrev mX9_worth : gMd := (yX9_worth, cX9_worth, RX9, 2, some .long, false, 3, 71)
abbrev mX9_findRichest : gMd := (yX9_findRichest, cX9_findRichest, RX9, 5, none, false, 3, 71)
abbrev mX9_boundNow : gMd := (yX9_boundNow, cX9_boundNow, RX9, 4, some .long, false, 4, 95)
abbrev mX9_bound : gMd := (yX9_bound, cX9_bound, RX9, 1, some .long, false, 5, 118)
abbrev mX9_climb : gMd := (yX9_climb, cX9_climb, RX9, 9, some .int, false, 5, 118)
abbrev mX9_highest : gMd := (yX9_highest, cX9_highest, RX9, 1, some .long, false, 0, 0)
abbrev mX9_count : gMd := (yX9_count, cX9_count, RX9, 4, some .int, false, 0, 0)
abbrev mJ6_bitCount_0f7a4 : gMd := (yJ6_bitCount_0f7a4, cJ6_bitCount_0f7a4, RJ6, 1, some .int, false, 0, 0)
abbrev mJ9_max_7cf53 : gMd := (yJ9_max_7cf53, cJ9_max_7cf53, RJ9, 2, some .int, false, 0, 0)
abbrev mJ9_max_f86c9 : gMd := (yJ9_max_f86c9, cJ9_max_f86c9, RJ9, 4, some .long, false, 0, 0)
abbrev mJ9_min_7cf53 : gMd := (yJ9_min_7cf53, cJ9_min_7cf53, RJ9, 2, some .int, false, 0, 0)
abbrev mJ9_min_f86c9 : gMd := (yJ9_min_f86c9, cJ9_min_f86c9, RJ9, 4, some .long, false, 0, 0)
abbrev mL_law : gMd := (yL_law, cL_law, RL, 4, some .boolean, false, 9, 330)
end
section
theorem okX0_init : gMok mX0_init := ⟨by decide +kernel, rfl, fun _ => rfl⟩
theorem cdX0_init : Cond.code (gNm mX0_init) (gCode mX0_init) (gNL mX0_init) (gRet mX0_init) ∈ gTb := inT 183 (by decide +kernel) (by decide +kernel)
theorem imX0_init : Cond.instanceMethod (gNm mX0_init) ∈ gTb ∧ (gNm mX0_init).name = "<init>" := ⟨inT 182 (by decide +kernel) (by decide +kernel), rfl⟩
theorem pdX0_init : (gNm mX0_init).cls ≠ "java/lang/invoke/MethodHandle" ∧ (gNm mX0_init).cls ≠ "java/lang/invoke/VarHandle" ∧ (parseMethodDescriptor (gNm mX0_init).desc).map (fun d => d.parameters.length) = some 1 := by decide +kernel
theorem okX0_putUp : gMok mX0_putUp := ⟨by decide +kernel, rfl, fun h => (by cases h)⟩
theorem cdX0_putUp : Cond.code (gNm mX0_putUp) (gCode mX0_putUp) (gNL mX0_putUp) (gRet mX0_putUp) ∈ gTb := inT 620 (by decide +kernel) (by decide +kernel)
theorem imX0_putUp : Cond.instanceMethod (gNm mX0_putUp) ∈ gTb ∧ Cond.selects (gNm mX0_putUp).cls (gNm mX0_putUp) (gNm mX0_putUp) ∈ gTb := ⟨inT 618 (by decide +kernel) (by decide +kernel), inT 619 (by decide +kernel) (by decide +kernel)⟩
theorem pdX0_putUp : (gNm mX0_putUp).cls ≠ "java/lang/invoke/MethodHandle" ∧ (gNm mX0_putUp).cls ≠ "java/lang/invoke/VarHandle" ∧ (parseMethodDescriptor (gNm mX0_putUp).desc).map (fun d => d.parameters.length) = some 0 := by decide +kernel
theorem okX0_improve : gMok mX0_improve := ⟨by decide +kernel, rfl, fun h => (by cases h)⟩
theorem cdX0_improve : Cond.code (gNm mX0_improve) (gCode mX0_improve) (gNL mX0_improve) (gRet mX0_improve) ∈ gTb := inT 643 (by decide +kernel) (by decide +kernel)
theorem imX0_improve : Cond.instanceMethod (gNm mX0_improve) ∈ gTb ∧ Cond.selects (gNm mX0_improve).cls (gNm mX0_improve) (gNm mX0_improve) ∈ gTb := ⟨inT 641 (by decide +kernel) (by decide +kernel), inT 642 (by decide +kernel) (by decide +kernel)⟩
theorem pdX0_improve : (gNm mX0_improve).cls ≠ "java/lang/invoke/MethodHandle" ∧ (gNm mX0_improve).cls ≠ "java/lang/invoke/VarHandle" ∧ (parseMethodDescriptor (gNm mX0_improve).desc).map (fun d => d.parameters.length) = some 1 := by decide +kernel
theorem okX0_withOneMore : gMok mX0_withOneMore := ⟨by decide +kernel, rfl, fun h => (by cases h)⟩
theorem cdX0_withOneMore : Cond.code (gNm mX0_withOneMore) (gCode mX0_withOneMore) (gNL mX0_withOneMore) (gRet mX0_withOneMore) ∈ gTb := inT 624 (by decide +kernel) (by decide +kernel)
theorem imX0_withOneMore : Cond.instanceMethod (gNm mX0_withOneMore) ∈ gTb ∧ Cond.selects (gNm mX0_withOneMore).cls (gNm mX0_withOneMore) (gNm mX0_withOneMore) ∈ gTb := ⟨inT 623 (by decide +kernel) (by decide +kernel), inP 14 (by decide +kernel) (by decide +kernel)⟩
theorem pdX0_withOneMore : (gNm mX0_withOneMore).cls ≠ "java/lang/invoke/MethodHandle" ∧ (gNm mX0_withOneMore).cls ≠ "java/lang/invoke/VarHandle" ∧ (parseMethodDescriptor (gNm mX0_withOneMore).desc).map (fun d => d.parameters.length) = some 1 := by decide +kernel
theorem okX0_withOneForAnother : gMok mX0_withOneForAnother := ⟨by decide +kernel, rfl, fun h => (by cases h)⟩
theorem cdX0_withOneForAnother : Cond.code (gNm mX0_withOneForAnother) (gCode mX0_withOneForAnother) (gNL mX0_withOneForAnother) (gRet mX0_withOneForAnother) ∈ gTb := inT 647 (by decide +kernel) (by decide +kernel)
theorem imX0_withOneForAnother : Cond.instanceMethod (gNm mX0_withOneForAnother) ∈ gTb ∧ Cond.selects (gNm mX0_withOneForAnother).cls (gNm mX0_withOneForAnother) (gNm mX0_withOneForAnother) ∈ gTb := ⟨inT 646 (by decide +kernel) (by decide +kernel), inP 17 (by decide +kernel) (by decide +kernel)⟩
theorem pdX0_withOneForAnother : (gNm mX0_withOneForAnother).cls ≠ "java/lang/invoke/MethodHandle" ∧ (gNm mX0_withOneForAnother).cls ≠ "java/lang/invoke/VarHandle" ∧ (parseMethodDescriptor (gNm mX0_withOneForAnother).desc).map (fun d => d.parameters.length) = some 1 := by decide +kernel
theorem okX0_startFrom : gMok mX0_startFrom := ⟨by decide +kernel, rfl, fun h => (by cases h)⟩
theorem cdX0_startFrom : Cond.code (gNm mX0_startFrom) (gCode mX0_startFrom) (gNL mX0_startFrom) (gRet mX0_startFrom) ∈ gTb := inT 628 (by decide +kernel) (by decide +kernel)
theorem imX0_startFrom : Cond.instanceMethod (gNm mX0_startFrom) ∈ gTb ∧ Cond.selects (gNm mX0_startFrom).cls (gNm mX0_startFrom) (gNm mX0_startFrom) ∈ gTb := ⟨inT 627 (by decide +kernel) (by decide +kernel), inP 15 (by decide +kernel) (by decide +kernel)⟩
theorem pdX0_startFrom : (gNm mX0_startFrom).cls ≠ "java/lang/invoke/MethodHandle" ∧ (gNm mX0_startFrom).cls ≠ "java/lang/invoke/VarHandle" ∧ (parseMethodDescriptor (gNm mX0_startFrom).desc).map (fun d => d.parameters.length) = some 1 := by decide +kernel
theorem okX0_consider : gMok mX0_consider := ⟨by decide +kernel, rfl, fun h => (by cases h)⟩
theorem cdX0_consider : Cond.code (gNm mX0_consider) (gCode mX0_consider) (gNL mX0_consider) (gRet mX0_consider) ∈ gTb := inT 634 (by decide +kernel) (by decide +kernel)
theorem imX0_consider : Cond.instanceMethod (gNm mX0_consider) ∈ gTb ∧ Cond.selects (gNm mX0_consider).cls (gNm mX0_consider) (gNm mX0_consider) ∈ gTb := ⟨inT 633 (by decide +kernel) (by decide +kernel), inP 16 (by decide +kernel) (by decide +kernel)⟩
theorem pdX0_consider : (gNm mX0_consider).cls ≠ "java/lang/invoke/MethodHandle" ∧ (gNm mX0_consider).cls ≠ "java/lang/invoke/VarHandle" ∧ (parseMethodDescriptor (gNm mX0_consider).desc).map (fun d => d.parameters.length) = some 1 := by decide +kernel
theorem okX1_init : gMok mX1_init := ⟨by decide +kernel, rfl, fun _ => rfl⟩
theorem cdX1_init : Cond.code (gNm mX1_init) (gCode mX1_init) (gNL mX1_init) (gRet mX1_init) ∈ gTb := inT 230 (by decide +kernel) (by decide +kernel)
theorem imX1_init : Cond.instanceMethod (gNm mX1_init) ∈ gTb ∧ (gNm mX1_init).name = "<init>" := ⟨inT 229 (by decide +kernel) (by decide +kernel), rfl⟩
theorem pdX1_init : (gNm mX1_init).cls ≠ "java/lang/invoke/MethodHandle" ∧ (gNm mX1_init).cls ≠ "java/lang/invoke/VarHandle" ∧ (parseMethodDescriptor (gNm mX1_init).desc).map (fun d => d.parameters.length) = some 0 := by decide +kernel
theorem okX1_renew : gMok mX1_renew := ⟨by decide +kernel, rfl, fun h => (by cases h)⟩
theorem cdX1_renew : Cond.code (gNm mX1_renew) (gCode mX1_renew) (gNL mX1_renew) (gRet mX1_renew) ∈ gTb := inT 416 (by decide +kernel) (by decide +kernel)
theorem imX1_renew : Cond.instanceMethod (gNm mX1_renew) ∈ gTb ∧ Cond.selects (gNm mX1_renew).cls (gNm mX1_renew) (gNm mX1_renew) ∈ gTb := ⟨inT 414 (by decide +kernel) (by decide +kernel), inT 415 (by decide +kernel) (by decide +kernel)⟩
theorem pdX1_renew : (gNm mX1_renew).cls ≠ "java/lang/invoke/MethodHandle" ∧ (gNm mX1_renew).cls ≠ "java/lang/invoke/VarHandle" ∧ (parseMethodDescriptor (gNm mX1_renew).desc).map (fun d => d.parameters.length) = some 2 := by decide +kernel
theorem okX1_write : gMok mX1_write := ⟨by decide +kernel, rfl, fun h => (by cases h)⟩
theorem cdX1_write : Cond.code (gNm mX1_write) (gCode mX1_write) (gNL mX1_write) (gRet mX1_write) ∈ gTb := inT 424 (by decide +kernel) (by decide +kernel)
theorem imX1_write : Cond.instanceMethod (gNm mX1_write) ∈ gTb ∧ Cond.selects (gNm mX1_write).cls (gNm mX1_write) (gNm mX1_write) ∈ gTb := ⟨inT 422 (by decide +kernel) (by decide +kernel), inT 423 (by decide +kernel) (by decide +kernel)⟩
theorem pdX1_write : (gNm mX1_write).cls ≠ "java/lang/invoke/MethodHandle" ∧ (gNm mX1_write).cls ≠ "java/lang/invoke/VarHandle" ∧ (parseMethodDescriptor (gNm mX1_write).desc).map (fun d => d.parameters.length) = some 2 := by decide +kernel
theorem okX1_holdsRoad : gMok mX1_holdsRoad := ⟨by decide +kernel, rfl, fun h => (by cases h)⟩
theorem cdX1_holdsRoad : Cond.code (gNm mX1_holdsRoad) (gCode mX1_holdsRoad) (gNL mX1_holdsRoad) (gRet mX1_holdsRoad) ∈ gTb := inT 436 (by decide +kernel) (by decide +kernel)
theorem imX1_holdsRoad : Cond.instanceMethod (gNm mX1_holdsRoad) ∈ gTb ∧ Cond.selects (gNm mX1_holdsRoad).cls (gNm mX1_holdsRoad) (gNm mX1_holdsRoad) ∈ gTb := ⟨inT 434 (by decide +kernel) (by decide +kernel), inT 435 (by decide +kernel) (by decide +kernel)⟩
theorem pdX1_holdsRoad : (gNm mX1_holdsRoad).cls ≠ "java/lang/invoke/MethodHandle" ∧ (gNm mX1_holdsRoad).cls ≠ "java/lang/invoke/VarHandle" ∧ (parseMethodDescriptor (gNm mX1_holdsRoad).desc).map (fun d => d.parameters.length) = some 1 := by decide +kernel
theorem okX2_init : gMok mX2_init := ⟨by decide +kernel, rfl, fun _ => rfl⟩
theorem cdX2_init : Cond.code (gNm mX2_init) (gCode mX2_init) (gNL mX2_init) (gRet mX2_init) ∈ gTb := inT 81 (by decide +kernel) (by decide +kernel)
theorem imX2_init : Cond.instanceMethod (gNm mX2_init) ∈ gTb ∧ (gNm mX2_init).name = "<init>" := ⟨inT 80 (by decide +kernel) (by decide +kernel), rfl⟩
theorem pdX2_init : (gNm mX2_init).cls ≠ "java/lang/invoke/MethodHandle" ∧ (gNm mX2_init).cls ≠ "java/lang/invoke/VarHandle" ∧ (parseMethodDescriptor (gNm mX2_init).desc).map (fun d => d.parameters.length) = some 0 := by decide +kernel
theorem okX2_open : gMok mX2_open := ⟨by decide +kernel, rfl, fun h => (by cases h)⟩
theorem cdX2_open : Cond.code (gNm mX2_open) (gCode mX2_open) (gNL mX2_open) (gRet mX2_open) ∈ gTb := inT 284 (by decide +kernel) (by decide +kernel)
theorem imX2_open : Cond.instanceMethod (gNm mX2_open) ∈ gTb ∧ Cond.selects (gNm mX2_open).cls (gNm mX2_open) (gNm mX2_open) ∈ gTb := ⟨inT 282 (by decide +kernel) (by decide +kernel), inT 283 (by decide +kernel) (by decide +kernel)⟩
theorem pdX2_open : (gNm mX2_open).cls ≠ "java/lang/invoke/MethodHandle" ∧ (gNm mX2_open).cls ≠ "java/lang/invoke/VarHandle" ∧ (parseMethodDescriptor (gNm mX2_open).desc).map (fun d => d.parameters.length) = some 1 := by decide +kernel
theorem okX2_close : gMok mX2_close := ⟨by decide +kernel, rfl, fun h => (by cases h)⟩
theorem cdX2_close : Cond.code (gNm mX2_close) (gCode mX2_close) (gNL mX2_close) (gRet mX2_close) ∈ gTb := inT 303 (by decide +kernel) (by decide +kernel)
theorem imX2_close : Cond.instanceMethod (gNm mX2_close) ∈ gTb ∧ Cond.selects (gNm mX2_close).cls (gNm mX2_close) (gNm mX2_close) ∈ gTb := ⟨inT 301 (by decide +kernel) (by decide +kernel), inT 302 (by decide +kernel) (by decide +kernel)⟩
theorem pdX2_close : (gNm mX2_close).cls ≠ "java/lang/invoke/MethodHandle" ∧ (gNm mX2_close).cls ≠ "java/lang/invoke/VarHandle" ∧ (parseMethodDescriptor (gNm mX2_close).desc).map (fun d => d.parameters.length) = some 1 := by decide +kernel
theorem okX2_turnBack : gMok mX2_turnBack := ⟨by decide +kernel, rfl, fun h => (by cases h)⟩
theorem cdX2_turnBack : Cond.code (gNm mX2_turnBack) (gCode mX2_turnBack) (gNL mX2_turnBack) (gRet mX2_turnBack) ∈ gTb := inT 738 (by decide +kernel) (by decide +kernel)
theorem imX2_turnBack : Cond.instanceMethod (gNm mX2_turnBack) ∈ gTb ∧ Cond.selects (gNm mX2_turnBack).cls (gNm mX2_turnBack) (gNm mX2_turnBack) ∈ gTb := ⟨inT 736 (by decide +kernel) (by decide +kernel), inT 737 (by decide +kernel) (by decide +kernel)⟩
theorem pdX2_turnBack : (gNm mX2_turnBack).cls ≠ "java/lang/invoke/MethodHandle" ∧ (gNm mX2_turnBack).cls ≠ "java/lang/invoke/VarHandle" ∧ (parseMethodDescriptor (gNm mX2_turnBack).desc).map (fun d => d.parameters.length) = some 1 := by decide +kernel
theorem okX3_init : gMok mX3_init := ⟨by decide +kernel, rfl, fun _ => rfl⟩
theorem cdX3_init : Cond.code (gNm mX3_init) (gCode mX3_init) (gNL mX3_init) (gRet mX3_init) ∈ gTb := inT 113 (by decide +kernel) (by decide +kernel)
theorem imX3_init : Cond.instanceMethod (gNm mX3_init) ∈ gTb ∧ (gNm mX3_init).name = "<init>" := ⟨inT 112 (by decide +kernel) (by decide +kernel), rfl⟩
theorem pdX3_init : (gNm mX3_init).cls ≠ "java/lang/invoke/MethodHandle" ∧ (gNm mX3_init).cls ≠ "java/lang/invoke/VarHandle" ∧ (parseMethodDescriptor (gNm mX3_init).desc).map (fun d => d.parameters.length) = some 1 := by decide +kernel
theorem okX3_carry : gMok mX3_carry := ⟨by decide +kernel, rfl, fun h => (by cases h)⟩
theorem cdX3_carry : Cond.code (gNm mX3_carry) (gCode mX3_carry) (gNL mX3_carry) (gRet mX3_carry) ∈ gTb := inT 342 (by decide +kernel) (by decide +kernel)
theorem imX3_carry : Cond.instanceMethod (gNm mX3_carry) ∈ gTb ∧ Cond.selects (gNm mX3_carry).cls (gNm mX3_carry) (gNm mX3_carry) ∈ gTb := ⟨inT 340 (by decide +kernel) (by decide +kernel), inT 341 (by decide +kernel) (by decide +kernel)⟩
theorem pdX3_carry : (gNm mX3_carry).cls ≠ "java/lang/invoke/MethodHandle" ∧ (gNm mX3_carry).cls ≠ "java/lang/invoke/VarHandle" ∧ (parseMethodDescriptor (gNm mX3_carry).desc).map (fun d => d.parameters.length) = some 1 := by decide +kernel
theorem okX3_carriedOver : gMok mX3_carriedOver := ⟨by decide +kernel, rfl, fun h => (by cases h)⟩
theorem cdX3_carriedOver : Cond.code (gNm mX3_carriedOver) (gCode mX3_carriedOver) (gNL mX3_carriedOver) (gRet mX3_carriedOver) ∈ gTb := inT 351 (by decide +kernel) (by decide +kernel)
theorem imX3_carriedOver : Cond.instanceMethod (gNm mX3_carriedOver) ∈ gTb ∧ Cond.selects (gNm mX3_carriedOver).cls (gNm mX3_carriedOver) (gNm mX3_carriedOver) ∈ gTb := ⟨inT 350 (by decide +kernel) (by decide +kernel), inP 4 (by decide +kernel) (by decide +kernel)⟩
theorem pdX3_carriedOver : (gNm mX3_carriedOver).cls ≠ "java/lang/invoke/MethodHandle" ∧ (gNm mX3_carriedOver).cls ≠ "java/lang/invoke/VarHandle" ∧ (parseMethodDescriptor (gNm mX3_carriedOver).desc).map (fun d => d.parameters.length) = some 2 := by decide +kernel
theorem okX3_carriedTo : gMok mX3_carriedTo := ⟨by decide +kernel, rfl, fun h => (by cases h)⟩
theorem cdX3_carriedTo : Cond.code (gNm mX3_carriedTo) (gCode mX3_carriedTo) (gNL mX3_carriedTo) (gRet mX3_carriedTo) ∈ gTb := inT 500 (by decide +kernel) (by decide +kernel)
theorem imX3_carriedTo : Cond.instanceMethod (gNm mX3_carriedTo) ∈ gTb ∧ Cond.selects (gNm mX3_carriedTo).cls (gNm mX3_carriedTo) (gNm mX3_carriedTo) ∈ gTb := ⟨inT 498 (by decide +kernel) (by decide +kernel), inT 499 (by decide +kernel) (by decide +kernel)⟩
theorem pdX3_carriedTo : (gNm mX3_carriedTo).cls ≠ "java/lang/invoke/MethodHandle" ∧ (gNm mX3_carriedTo).cls ≠ "java/lang/invoke/VarHandle" ∧ (parseMethodDescriptor (gNm mX3_carriedTo).desc).map (fun d => d.parameters.length) = some 2 := by decide +kernel
theorem okX3_isChoice : gMok mX3_isChoice := ⟨by decide +kernel, rfl, fun h => (by cases h)⟩
theorem cdX3_isChoice : Cond.code (gNm mX3_isChoice) (gCode mX3_isChoice) (gNL mX3_isChoice) (gRet mX3_isChoice) ∈ gTb := inT 466 (by decide +kernel) (by decide +kernel)
theorem imX3_isChoice : Cond.instanceMethod (gNm mX3_isChoice) ∈ gTb ∧ Cond.selects (gNm mX3_isChoice).cls (gNm mX3_isChoice) (gNm mX3_isChoice) ∈ gTb := ⟨inT 464 (by decide +kernel) (by decide +kernel), inT 465 (by decide +kernel) (by decide +kernel)⟩
theorem pdX3_isChoice : (gNm mX3_isChoice).cls ≠ "java/lang/invoke/MethodHandle" ∧ (gNm mX3_isChoice).cls ≠ "java/lang/invoke/VarHandle" ∧ (parseMethodDescriptor (gNm mX3_isChoice).desc).map (fun d => d.parameters.length) = some 1 := by decide +kernel
theorem okX3_mayStand : gMok mX3_mayStand := ⟨by decide +kernel, rfl, fun h => (by cases h)⟩
theorem cdX3_mayStand : Cond.code (gNm mX3_mayStand) (gCode mX3_mayStand) (gNL mX3_mayStand) (gRet mX3_mayStand) ∈ gTb := inT 470 (by decide +kernel) (by decide +kernel)
theorem imX3_mayStand : Cond.instanceMethod (gNm mX3_mayStand) ∈ gTb ∧ Cond.selects (gNm mX3_mayStand).cls (gNm mX3_mayStand) (gNm mX3_mayStand) ∈ gTb := ⟨inT 468 (by decide +kernel) (by decide +kernel), inT 469 (by decide +kernel) (by decide +kernel)⟩
theorem pdX3_mayStand : (gNm mX3_mayStand).cls ≠ "java/lang/invoke/MethodHandle" ∧ (gNm mX3_mayStand).cls ≠ "java/lang/invoke/VarHandle" ∧ (parseMethodDescriptor (gNm mX3_mayStand).desc).map (fun d => d.parameters.length) = some 1 := by decide +kernel
theorem okX3_ovenFor : gMok mX3_ovenFor := ⟨by decide +kernel, rfl, fun h => (by cases h)⟩
theorem cdX3_ovenFor : Cond.code (gNm mX3_ovenFor) (gCode mX3_ovenFor) (gNL mX3_ovenFor) (gRet mX3_ovenFor) ∈ gTb := inT 496 (by decide +kernel) (by decide +kernel)
theorem imX3_ovenFor : Cond.instanceMethod (gNm mX3_ovenFor) ∈ gTb ∧ Cond.selects (gNm mX3_ovenFor).cls (gNm mX3_ovenFor) (gNm mX3_ovenFor) ∈ gTb := ⟨inT 494 (by decide +kernel) (by decide +kernel), inT 495 (by decide +kernel) (by decide +kernel)⟩
theorem pdX3_ovenFor : (gNm mX3_ovenFor).cls ≠ "java/lang/invoke/MethodHandle" ∧ (gNm mX3_ovenFor).cls ≠ "java/lang/invoke/VarHandle" ∧ (parseMethodDescriptor (gNm mX3_ovenFor).desc).map (fun d => d.parameters.length) = some 2 := by decide +kernel
theorem okX3_measureOf : gMok mX3_measureOf := ⟨by decide +kernel, rfl, fun h => (by cases h)⟩
theorem cdX3_measureOf : Cond.code (gNm mX3_measureOf) (gCode mX3_measureOf) (gNL mX3_measureOf) (gRet mX3_measureOf) ∈ gTb := inT 485 (by decide +kernel) (by decide +kernel)
theorem imX3_measureOf : Cond.instanceMethod (gNm mX3_measureOf) ∈ gTb ∧ Cond.selects (gNm mX3_measureOf).cls (gNm mX3_measureOf) (gNm mX3_measureOf) ∈ gTb := ⟨inT 483 (by decide +kernel) (by decide +kernel), inT 484 (by decide +kernel) (by decide +kernel)⟩
theorem pdX3_measureOf : (gNm mX3_measureOf).cls ≠ "java/lang/invoke/MethodHandle" ∧ (gNm mX3_measureOf).cls ≠ "java/lang/invoke/VarHandle" ∧ (parseMethodDescriptor (gNm mX3_measureOf).desc).map (fun d => d.parameters.length) = some 1 := by decide +kernel
theorem okX3_feeds : gMok mX3_feeds := ⟨by decide +kernel, rfl, fun h => (by cases h)⟩
theorem cdX3_feeds : Cond.code (gNm mX3_feeds) (gCode mX3_feeds) (gNL mX3_feeds) (gRet mX3_feeds) ∈ gTb := inT 521 (by decide +kernel) (by decide +kernel)
theorem imX3_feeds : Cond.instanceMethod (gNm mX3_feeds) ∈ gTb ∧ Cond.selects (gNm mX3_feeds).cls (gNm mX3_feeds) (gNm mX3_feeds) ∈ gTb := ⟨inT 520 (by decide +kernel) (by decide +kernel), inP 8 (by decide +kernel) (by decide +kernel)⟩
theorem pdX3_feeds : (gNm mX3_feeds).cls ≠ "java/lang/invoke/MethodHandle" ∧ (gNm mX3_feeds).cls ≠ "java/lang/invoke/VarHandle" ∧ (parseMethodDescriptor (gNm mX3_feeds).desc).map (fun d => d.parameters.length) = some 3 := by decide +kernel
theorem okX3_villagesOf : gMok mX3_villagesOf := ⟨by decide +kernel, rfl, fun h => (by cases h)⟩
theorem cdX3_villagesOf : Cond.code (gNm mX3_villagesOf) (gCode mX3_villagesOf) (gNL mX3_villagesOf) (gRet mX3_villagesOf) ∈ gTb := inT 517 (by decide +kernel) (by decide +kernel)
theorem imX3_villagesOf : Cond.instanceMethod (gNm mX3_villagesOf) ∈ gTb ∧ Cond.selects (gNm mX3_villagesOf).cls (gNm mX3_villagesOf) (gNm mX3_villagesOf) ∈ gTb := ⟨inT 515 (by decide +kernel) (by decide +kernel), inT 516 (by decide +kernel) (by decide +kernel)⟩
theorem pdX3_villagesOf : (gNm mX3_villagesOf).cls ≠ "java/lang/invoke/MethodHandle" ∧ (gNm mX3_villagesOf).cls ≠ "java/lang/invoke/VarHandle" ∧ (parseMethodDescriptor (gNm mX3_villagesOf).desc).map (fun d => d.parameters.length) = some 2 := by decide +kernel
theorem okX3_loavesOf : gMok mX3_loavesOf := ⟨by decide +kernel, rfl, fun h => (by cases h)⟩
theorem cdX3_loavesOf : Cond.code (gNm mX3_loavesOf) (gCode mX3_loavesOf) (gNL mX3_loavesOf) (gRet mX3_loavesOf) ∈ gTb := inT 525 (by decide +kernel) (by decide +kernel)
theorem imX3_loavesOf : Cond.instanceMethod (gNm mX3_loavesOf) ∈ gTb ∧ Cond.selects (gNm mX3_loavesOf).cls (gNm mX3_loavesOf) (gNm mX3_loavesOf) ∈ gTb := ⟨inT 523 (by decide +kernel) (by decide +kernel), inT 524 (by decide +kernel) (by decide +kernel)⟩
theorem pdX3_loavesOf : (gNm mX3_loavesOf).cls ≠ "java/lang/invoke/MethodHandle" ∧ (gNm mX3_loavesOf).cls ≠ "java/lang/invoke/VarHandle" ∧ (parseMethodDescriptor (gNm mX3_loavesOf).desc).map (fun d => d.parameters.length) = some 2 := by decide +kernel
theorem okX3_farthestOf : gMok mX3_farthestOf := ⟨by decide +kernel, rfl, fun h => (by cases h)⟩
theorem cdX3_farthestOf : Cond.code (gNm mX3_farthestOf) (gCode mX3_farthestOf) (gNL mX3_farthestOf) (gRet mX3_farthestOf) ∈ gTb := inT 529 (by decide +kernel) (by decide +kernel)
theorem imX3_farthestOf : Cond.instanceMethod (gNm mX3_farthestOf) ∈ gTb ∧ Cond.selects (gNm mX3_farthestOf).cls (gNm mX3_farthestOf) (gNm mX3_farthestOf) ∈ gTb := ⟨inT 527 (by decide +kernel) (by decide +kernel), inT 528 (by decide +kernel) (by decide +kernel)⟩
theorem pdX3_farthestOf : (gNm mX3_farthestOf).cls ≠ "java/lang/invoke/MethodHandle" ∧ (gNm mX3_farthestOf).cls ≠ "java/lang/invoke/VarHandle" ∧ (parseMethodDescriptor (gNm mX3_farthestOf).desc).map (fun d => d.parameters.length) = some 2 := by decide +kernel
theorem okX3_farthestOfAll : gMok mX3_farthestOfAll := ⟨by decide +kernel, rfl, fun h => (by cases h)⟩
theorem cdX3_farthestOfAll : Cond.code (gNm mX3_farthestOfAll) (gCode mX3_farthestOfAll) (gNL mX3_farthestOfAll) (gRet mX3_farthestOfAll) ∈ gTb := inT 569 (by decide +kernel) (by decide +kernel)
theorem imX3_farthestOfAll : Cond.instanceMethod (gNm mX3_farthestOfAll) ∈ gTb ∧ Cond.selects (gNm mX3_farthestOfAll).cls (gNm mX3_farthestOfAll) (gNm mX3_farthestOfAll) ∈ gTb := ⟨inT 567 (by decide +kernel) (by decide +kernel), inT 568 (by decide +kernel) (by decide +kernel)⟩
theorem pdX3_farthestOfAll : (gNm mX3_farthestOfAll).cls ≠ "java/lang/invoke/MethodHandle" ∧ (gNm mX3_farthestOfAll).cls ≠ "java/lang/invoke/VarHandle" ∧ (parseMethodDescriptor (gNm mX3_farthestOfAll).desc).map (fun d => d.parameters.length) = some 1 := by decide +kernel
theorem okX4_init : gMok mX4_init := ⟨by decide +kernel, rfl, fun _ => rfl⟩
theorem cdX4_init : Cond.code (gNm mX4_init) (gCode mX4_init) (gNL mX4_init) (gRet mX4_init) ∈ gTb := inT 203 (by decide +kernel) (by decide +kernel)
theorem imX4_init : Cond.instanceMethod (gNm mX4_init) ∈ gTb ∧ (gNm mX4_init).name = "<init>" := ⟨inT 202 (by decide +kernel) (by decide +kernel), rfl⟩
theorem pdX4_init : (gNm mX4_init).cls ≠ "java/lang/invoke/MethodHandle" ∧ (gNm mX4_init).cls ≠ "java/lang/invoke/VarHandle" ∧ (parseMethodDescriptor (gNm mX4_init).desc).map (fun d => d.parameters.length) = some 2 := by decide +kernel
theorem okX4_forgetFrom : gMok mX4_forgetFrom := ⟨by decide +kernel, rfl, fun h => (by cases h)⟩
theorem cdX4_forgetFrom : Cond.code (gNm mX4_forgetFrom) (gCode mX4_forgetFrom) (gNL mX4_forgetFrom) (gRet mX4_forgetFrom) ∈ gTb := inT 742 (by decide +kernel) (by decide +kernel)
theorem imX4_forgetFrom : Cond.instanceMethod (gNm mX4_forgetFrom) ∈ gTb ∧ Cond.selects (gNm mX4_forgetFrom).cls (gNm mX4_forgetFrom) (gNm mX4_forgetFrom) ∈ gTb := ⟨inT 740 (by decide +kernel) (by decide +kernel), inT 741 (by decide +kernel) (by decide +kernel)⟩
theorem pdX4_forgetFrom : (gNm mX4_forgetFrom).cls ≠ "java/lang/invoke/MethodHandle" ∧ (gNm mX4_forgetFrom).cls ≠ "java/lang/invoke/VarHandle" ∧ (parseMethodDescriptor (gNm mX4_forgetFrom).desc).map (fun d => d.parameters.length) = some 1 := by decide +kernel
theorem okX4_giftOf : gMok mX4_giftOf := ⟨by decide +kernel, rfl, fun h => (by cases h)⟩
theorem cdX4_giftOf : Cond.code (gNm mX4_giftOf) (gCode mX4_giftOf) (gNL mX4_giftOf) (gRet mX4_giftOf) ∈ gTb := inT 668 (by decide +kernel) (by decide +kernel)
theorem imX4_giftOf : Cond.instanceMethod (gNm mX4_giftOf) ∈ gTb ∧ Cond.selects (gNm mX4_giftOf).cls (gNm mX4_giftOf) (gNm mX4_giftOf) ∈ gTb := ⟨inT 666 (by decide +kernel) (by decide +kernel), inT 667 (by decide +kernel) (by decide +kernel)⟩
theorem pdX4_giftOf : (gNm mX4_giftOf).cls ≠ "java/lang/invoke/MethodHandle" ∧ (gNm mX4_giftOf).cls ≠ "java/lang/invoke/VarHandle" ∧ (parseMethodDescriptor (gNm mX4_giftOf).desc).map (fun d => d.parameters.length) = some 2 := by decide +kernel
theorem okX4_worthOf : gMok mX4_worthOf := ⟨by decide +kernel, rfl, fun h => (by cases h)⟩
theorem cdX4_worthOf : Cond.code (gNm mX4_worthOf) (gCode mX4_worthOf) (gNL mX4_worthOf) (gRet mX4_worthOf) ∈ gTb := inT 681 (by decide +kernel) (by decide +kernel)
theorem imX4_worthOf : Cond.instanceMethod (gNm mX4_worthOf) ∈ gTb ∧ Cond.selects (gNm mX4_worthOf).cls (gNm mX4_worthOf) (gNm mX4_worthOf) ∈ gTb := ⟨inT 679 (by decide +kernel) (by decide +kernel), inT 680 (by decide +kernel) (by decide +kernel)⟩
theorem pdX4_worthOf : (gNm mX4_worthOf).cls ≠ "java/lang/invoke/MethodHandle" ∧ (gNm mX4_worthOf).cls ≠ "java/lang/invoke/VarHandle" ∧ (parseMethodDescriptor (gNm mX4_worthOf).desc).map (fun d => d.parameters.length) = some 1 := by decide +kernel
theorem okX4_findTop : gMok mX4_findTop := ⟨by decide +kernel, rfl, fun h => (by cases h)⟩
theorem cdX4_findTop : Cond.code (gNm mX4_findTop) (gCode mX4_findTop) (gNL mX4_findTop) (gRet mX4_findTop) ∈ gTb := inT 691 (by decide +kernel) (by decide +kernel)
theorem imX4_findTop : Cond.instanceMethod (gNm mX4_findTop) ∈ gTb ∧ Cond.selects (gNm mX4_findTop).cls (gNm mX4_findTop) (gNm mX4_findTop) ∈ gTb := ⟨inT 689 (by decide +kernel) (by decide +kernel), inT 690 (by decide +kernel) (by decide +kernel)⟩
theorem pdX4_findTop : (gNm mX4_findTop).cls ≠ "java/lang/invoke/MethodHandle" ∧ (gNm mX4_findTop).cls ≠ "java/lang/invoke/VarHandle" ∧ (parseMethodDescriptor (gNm mX4_findTop).desc).map (fun d => d.parameters.length) = some 0 := by decide +kernel
theorem okX4_addUpWorths : gMok mX4_addUpWorths := ⟨by decide +kernel, rfl, fun h => (by cases h)⟩
theorem cdX4_addUpWorths : Cond.code (gNm mX4_addUpWorths) (gCode mX4_addUpWorths) (gNL mX4_addUpWorths) (gRet mX4_addUpWorths) ∈ gTb := inT 695 (by decide +kernel) (by decide +kernel)
theorem imX4_addUpWorths : Cond.instanceMethod (gNm mX4_addUpWorths) ∈ gTb ∧ Cond.selects (gNm mX4_addUpWorths).cls (gNm mX4_addUpWorths) (gNm mX4_addUpWorths) ∈ gTb := ⟨inT 694 (by decide +kernel) (by decide +kernel), inP 18 (by decide +kernel) (by decide +kernel)⟩
theorem pdX4_addUpWorths : (gNm mX4_addUpWorths).cls ≠ "java/lang/invoke/MethodHandle" ∧ (gNm mX4_addUpWorths).cls ≠ "java/lang/invoke/VarHandle" ∧ (parseMethodDescriptor (gNm mX4_addUpWorths).desc).map (fun d => d.parameters.length) = some 0 := by decide +kernel
theorem okX4_boundOfTop : gMok mX4_boundOfTop := ⟨by decide +kernel, rfl, fun h => (by cases h)⟩
theorem cdX4_boundOfTop : Cond.code (gNm mX4_boundOfTop) (gCode mX4_boundOfTop) (gNL mX4_boundOfTop) (gRet mX4_boundOfTop) ∈ gTb := inT 701 (by decide +kernel) (by decide +kernel)
theorem imX4_boundOfTop : Cond.instanceMethod (gNm mX4_boundOfTop) ∈ gTb ∧ Cond.selects (gNm mX4_boundOfTop).cls (gNm mX4_boundOfTop) (gNm mX4_boundOfTop) ∈ gTb := ⟨inT 699 (by decide +kernel) (by decide +kernel), inT 700 (by decide +kernel) (by decide +kernel)⟩
theorem pdX4_boundOfTop : (gNm mX4_boundOfTop).cls ≠ "java/lang/invoke/MethodHandle" ∧ (gNm mX4_boundOfTop).cls ≠ "java/lang/invoke/VarHandle" ∧ (parseMethodDescriptor (gNm mX4_boundOfTop).desc).map (fun d => d.parameters.length) = some 0 := by decide +kernel
theorem okX4_climbFromTop : gMok mX4_climbFromTop := ⟨by decide +kernel, rfl, fun h => (by cases h)⟩
theorem cdX4_climbFromTop : Cond.code (gNm mX4_climbFromTop) (gCode mX4_climbFromTop) (gNL mX4_climbFromTop) (gRet mX4_climbFromTop) ∈ gTb := inT 710 (by decide +kernel) (by decide +kernel)
theorem imX4_climbFromTop : Cond.instanceMethod (gNm mX4_climbFromTop) ∈ gTb ∧ Cond.selects (gNm mX4_climbFromTop).cls (gNm mX4_climbFromTop) (gNm mX4_climbFromTop) ∈ gTb := ⟨inT 708 (by decide +kernel) (by decide +kernel), inT 709 (by decide +kernel) (by decide +kernel)⟩
theorem pdX4_climbFromTop : (gNm mX4_climbFromTop).cls ≠ "java/lang/invoke/MethodHandle" ∧ (gNm mX4_climbFromTop).cls ≠ "java/lang/invoke/VarHandle" ∧ (parseMethodDescriptor (gNm mX4_climbFromTop).desc).map (fun d => d.parameters.length) = some 2 := by decide +kernel
theorem okX4_movePrices : gMok mX4_movePrices := ⟨by decide +kernel, rfl, fun h => (by cases h)⟩
theorem cdX4_movePrices : Cond.code (gNm mX4_movePrices) (gCode mX4_movePrices) (gNL mX4_movePrices) (gRet mX4_movePrices) ∈ gTb := inT 715 (by decide +kernel) (by decide +kernel)
theorem imX4_movePrices : Cond.instanceMethod (gNm mX4_movePrices) ∈ gTb ∧ Cond.selects (gNm mX4_movePrices).cls (gNm mX4_movePrices) (gNm mX4_movePrices) ∈ gTb := ⟨inT 714 (by decide +kernel) (by decide +kernel), inP 19 (by decide +kernel) (by decide +kernel)⟩
theorem pdX4_movePrices : (gNm mX4_movePrices).cls ≠ "java/lang/invoke/MethodHandle" ∧ (gNm mX4_movePrices).cls ≠ "java/lang/invoke/VarHandle" ∧ (parseMethodDescriptor (gNm mX4_movePrices).desc).map (fun d => d.parameters.length) = some 1 := by decide +kernel
theorem okX4_movedPrice : gMok mX4_movedPrice := ⟨by decide +kernel, rfl, fun h => (by cases h)⟩
theorem cdX4_movedPrice : Cond.code (gNm mX4_movedPrice) (gCode mX4_movedPrice) (gNL mX4_movedPrice) (gRet mX4_movedPrice) ∈ gTb := inT 723 (by decide +kernel) (by decide +kernel)
theorem smX4_movedPrice : Cond.static (gNm mX4_movedPrice) ∈ gTb := inT 722 (by decide +kernel) (by decide +kernel)
theorem pdX4_movedPrice : (gNm mX4_movedPrice).cls ≠ "java/lang/invoke/MethodHandle" ∧ (gNm mX4_movedPrice).cls ≠ "java/lang/invoke/VarHandle" ∧ (parseMethodDescriptor (gNm mX4_movedPrice).desc).map (fun d => d.parameters.length) = some 3 := by decide +kernel
theorem okX4_giversOfTop : gMok mX4_giversOfTop := ⟨by decide +kernel, rfl, fun h => (by cases h)⟩
theorem cdX4_giversOfTop : Cond.code (gNm mX4_giversOfTop) (gCode mX4_giversOfTop) (gNL mX4_giversOfTop) (gRet mX4_giversOfTop) ∈ gTb := inT 719 (by decide +kernel) (by decide +kernel)
theorem imX4_giversOfTop : Cond.instanceMethod (gNm mX4_giversOfTop) ∈ gTb ∧ Cond.selects (gNm mX4_giversOfTop).cls (gNm mX4_giversOfTop) (gNm mX4_giversOfTop) ∈ gTb := ⟨inT 718 (by decide +kernel) (by decide +kernel), inP 20 (by decide +kernel) (by decide +kernel)⟩
theorem pdX4_giversOfTop : (gNm mX4_giversOfTop).cls ≠ "java/lang/invoke/MethodHandle" ∧ (gNm mX4_giversOfTop).cls ≠ "java/lang/invoke/VarHandle" ∧ (parseMethodDescriptor (gNm mX4_giversOfTop).desc).map (fun d => d.parameters.length) = some 1 := by decide +kernel
theorem okX5_init : gMok mX5_init := ⟨by decide +kernel, rfl, fun _ => rfl⟩
theorem cdX5_init : Cond.code (gNm mX5_init) (gCode mX5_init) (gNL mX5_init) (gRet mX5_init) ∈ gTb := inT 136 (by decide +kernel) (by decide +kernel)
theorem imX5_init : Cond.instanceMethod (gNm mX5_init) ∈ gTb ∧ (gNm mX5_init).name = "<init>" := ⟨inT 135 (by decide +kernel) (by decide +kernel), rfl⟩
theorem pdX5_init : (gNm mX5_init).cls ≠ "java/lang/invoke/MethodHandle" ∧ (gNm mX5_init).cls ≠ "java/lang/invoke/VarHandle" ∧ (parseMethodDescriptor (gNm mX5_init).desc).map (fun d => d.parameters.length) = some 0 := by decide +kernel
theorem okX5_take : gMok mX5_take := ⟨by decide +kernel, rfl, fun h => (by cases h)⟩
theorem cdX5_take : Cond.code (gNm mX5_take) (gCode mX5_take) (gNL mX5_take) (gRet mX5_take) ∈ gTb := inT 544 (by decide +kernel) (by decide +kernel)
theorem imX5_take : Cond.instanceMethod (gNm mX5_take) ∈ gTb ∧ Cond.selects (gNm mX5_take).cls (gNm mX5_take) (gNm mX5_take) ∈ gTb := ⟨inT 542 (by decide +kernel) (by decide +kernel), inT 543 (by decide +kernel) (by decide +kernel)⟩
theorem pdX5_take : (gNm mX5_take).cls ≠ "java/lang/invoke/MethodHandle" ∧ (gNm mX5_take).cls ≠ "java/lang/invoke/VarHandle" ∧ (parseMethodDescriptor (gNm mX5_take).desc).map (fun d => d.parameters.length) = some 1 := by decide +kernel
theorem okX5_forget : gMok mX5_forget := ⟨by decide +kernel, rfl, fun h => (by cases h)⟩
theorem cdX5_forget : Cond.code (gNm mX5_forget) (gCode mX5_forget) (gNL mX5_forget) (gRet mX5_forget) ∈ gTb := inT 548 (by decide +kernel) (by decide +kernel)
theorem imX5_forget : Cond.instanceMethod (gNm mX5_forget) ∈ gTb ∧ Cond.selects (gNm mX5_forget).cls (gNm mX5_forget) (gNm mX5_forget) ∈ gTb := ⟨inT 547 (by decide +kernel) (by decide +kernel), inP 10 (by decide +kernel) (by decide +kernel)⟩
theorem pdX5_forget : (gNm mX5_forget).cls ≠ "java/lang/invoke/MethodHandle" ∧ (gNm mX5_forget).cls ≠ "java/lang/invoke/VarHandle" ∧ (parseMethodDescriptor (gNm mX5_forget).desc).map (fun d => d.parameters.length) = some 0 := by decide +kernel
theorem okX5_noteCost : gMok mX5_noteCost := ⟨by decide +kernel, rfl, fun h => (by cases h)⟩
theorem cdX5_noteCost : Cond.code (gNm mX5_noteCost) (gCode mX5_noteCost) (gNL mX5_noteCost) (gRet mX5_noteCost) ∈ gTb := inT 557 (by decide +kernel) (by decide +kernel)
theorem imX5_noteCost : Cond.instanceMethod (gNm mX5_noteCost) ∈ gTb ∧ Cond.selects (gNm mX5_noteCost).cls (gNm mX5_noteCost) (gNm mX5_noteCost) ∈ gTb := ⟨inT 556 (by decide +kernel) (by decide +kernel), inP 11 (by decide +kernel) (by decide +kernel)⟩
theorem pdX5_noteCost : (gNm mX5_noteCost).cls ≠ "java/lang/invoke/MethodHandle" ∧ (gNm mX5_noteCost).cls ≠ "java/lang/invoke/VarHandle" ∧ (parseMethodDescriptor (gNm mX5_noteCost).desc).map (fun d => d.parameters.length) = some 2 := by decide +kernel
theorem okX5_noteLosses : gMok mX5_noteLosses := ⟨by decide +kernel, rfl, fun h => (by cases h)⟩
theorem cdX5_noteLosses : Cond.code (gNm mX5_noteLosses) (gCode mX5_noteLosses) (gNL mX5_noteLosses) (gRet mX5_noteLosses) ∈ gTb := inT 561 (by decide +kernel) (by decide +kernel)
theorem imX5_noteLosses : Cond.instanceMethod (gNm mX5_noteLosses) ∈ gTb ∧ Cond.selects (gNm mX5_noteLosses).cls (gNm mX5_noteLosses) (gNm mX5_noteLosses) ∈ gTb := ⟨inT 560 (by decide +kernel) (by decide +kernel), inP 12 (by decide +kernel) (by decide +kernel)⟩
theorem pdX5_noteLosses : (gNm mX5_noteLosses).cls ≠ "java/lang/invoke/MethodHandle" ∧ (gNm mX5_noteLosses).cls ≠ "java/lang/invoke/VarHandle" ∧ (parseMethodDescriptor (gNm mX5_noteLosses).desc).map (fun d => d.parameters.length) = some 2 := by decide +kernel
theorem okX5_noteFar : gMok mX5_noteFar := ⟨by decide +kernel, rfl, fun h => (by cases h)⟩
theorem cdX5_noteFar : Cond.code (gNm mX5_noteFar) (gCode mX5_noteFar) (gNL mX5_noteFar) (gRet mX5_noteFar) ∈ gTb := inT 573 (by decide +kernel) (by decide +kernel)
theorem imX5_noteFar : Cond.instanceMethod (gNm mX5_noteFar) ∈ gTb ∧ Cond.selects (gNm mX5_noteFar).cls (gNm mX5_noteFar) (gNm mX5_noteFar) ∈ gTb := ⟨inT 572 (by decide +kernel) (by decide +kernel), inP 13 (by decide +kernel) (by decide +kernel)⟩
theorem pdX5_noteFar : (gNm mX5_noteFar).cls ≠ "java/lang/invoke/MethodHandle" ∧ (gNm mX5_noteFar).cls ≠ "java/lang/invoke/VarHandle" ∧ (parseMethodDescriptor (gNm mX5_noteFar).desc).map (fun d => d.parameters.length) = some 2 := by decide +kernel
theorem okX5_dearestLoss : gMok mX5_dearestLoss := ⟨by decide +kernel, rfl, fun h => (by cases h)⟩
theorem cdX5_dearestLoss : Cond.code (gNm mX5_dearestLoss) (gCode mX5_dearestLoss) (gNL mX5_dearestLoss) (gRet mX5_dearestLoss) ∈ gTb := inT 603 (by decide +kernel) (by decide +kernel)
theorem imX5_dearestLoss : Cond.instanceMethod (gNm mX5_dearestLoss) ∈ gTb ∧ Cond.selects (gNm mX5_dearestLoss).cls (gNm mX5_dearestLoss) (gNm mX5_dearestLoss) ∈ gTb := ⟨inT 601 (by decide +kernel) (by decide +kernel), inT 602 (by decide +kernel) (by decide +kernel)⟩
theorem pdX5_dearestLoss : (gNm mX5_dearestLoss).cls ≠ "java/lang/invoke/MethodHandle" ∧ (gNm mX5_dearestLoss).cls ≠ "java/lang/invoke/VarHandle" ∧ (parseMethodDescriptor (gNm mX5_dearestLoss).desc).map (fun d => d.parameters.length) = some 1 := by decide +kernel
theorem okX6_init : gMok mX6_init := ⟨by decide +kernel, rfl, fun _ => rfl⟩
theorem cdX6_init : Cond.code (gNm mX6_init) (gCode mX6_init) (gNL mX6_init) (gRet mX6_init) ∈ gTb := inT 26 (by decide +kernel) (by decide +kernel)
theorem imX6_init : Cond.instanceMethod (gNm mX6_init) ∈ gTb ∧ (gNm mX6_init).name = "<init>" := ⟨inT 25 (by decide +kernel) (by decide +kernel), rfl⟩
theorem pdX6_init : (gNm mX6_init).cls ≠ "java/lang/invoke/MethodHandle" ∧ (gNm mX6_init).cls ≠ "java/lang/invoke/VarHandle" ∧ (parseMethodDescriptor (gNm mX6_init).desc).map (fun d => d.parameters.length) = some 0 := by decide +kernel
theorem okX6_hasVillage : gMok mX6_hasVillage := ⟨by decide +kernel, rfl, fun h => (by cases h)⟩
theorem cdX6_hasVillage : Cond.code (gNm mX6_hasVillage) (gCode mX6_hasVillage) (gNL mX6_hasVillage) (gRet mX6_hasVillage) ∈ gTb := inT 360 (by decide +kernel) (by decide +kernel)
theorem imX6_hasVillage : Cond.instanceMethod (gNm mX6_hasVillage) ∈ gTb ∧ Cond.selects (gNm mX6_hasVillage).cls (gNm mX6_hasVillage) (gNm mX6_hasVillage) ∈ gTb := ⟨inT 358 (by decide +kernel) (by decide +kernel), inT 359 (by decide +kernel) (by decide +kernel)⟩
theorem pdX6_hasVillage : (gNm mX6_hasVillage).cls ≠ "java/lang/invoke/MethodHandle" ∧ (gNm mX6_hasVillage).cls ≠ "java/lang/invoke/VarHandle" ∧ (parseMethodDescriptor (gNm mX6_hasVillage).desc).map (fun d => d.parameters.length) = some 1 := by decide +kernel
theorem okX6_hasPlace : gMok mX6_hasPlace := ⟨by decide +kernel, rfl, fun h => (by cases h)⟩
theorem cdX6_hasPlace : Cond.code (gNm mX6_hasPlace) (gCode mX6_hasPlace) (gNL mX6_hasPlace) (gRet mX6_hasPlace) ∈ gTb := inT 394 (by decide +kernel) (by decide +kernel)
theorem imX6_hasPlace : Cond.instanceMethod (gNm mX6_hasPlace) ∈ gTb ∧ Cond.selects (gNm mX6_hasPlace).cls (gNm mX6_hasPlace) (gNm mX6_hasPlace) ∈ gTb := ⟨inT 392 (by decide +kernel) (by decide +kernel), inT 393 (by decide +kernel) (by decide +kernel)⟩
theorem pdX6_hasPlace : (gNm mX6_hasPlace).cls ≠ "java/lang/invoke/MethodHandle" ∧ (gNm mX6_hasPlace).cls ≠ "java/lang/invoke/VarHandle" ∧ (parseMethodDescriptor (gNm mX6_hasPlace).desc).map (fun d => d.parameters.length) = some 1 := by decide +kernel
theorem okX6_takesRoad : gMok mX6_takesRoad := ⟨by decide +kernel, rfl, fun h => (by cases h)⟩
theorem cdX6_takesRoad : Cond.code (gNm mX6_takesRoad) (gCode mX6_takesRoad) (gNL mX6_takesRoad) (gRet mX6_takesRoad) ∈ gTb := inT 369 (by decide +kernel) (by decide +kernel)
theorem imX6_takesRoad : Cond.instanceMethod (gNm mX6_takesRoad) ∈ gTb ∧ Cond.selects (gNm mX6_takesRoad).cls (gNm mX6_takesRoad) (gNm mX6_takesRoad) ∈ gTb := ⟨inT 367 (by decide +kernel) (by decide +kernel), inT 368 (by decide +kernel) (by decide +kernel)⟩
theorem pdX6_takesRoad : (gNm mX6_takesRoad).cls ≠ "java/lang/invoke/MethodHandle" ∧ (gNm mX6_takesRoad).cls ≠ "java/lang/invoke/VarHandle" ∧ (parseMethodDescriptor (gNm mX6_takesRoad).desc).map (fun d => d.parameters.length) = some 3 := by decide +kernel
theorem okX6_settle : gMok mX6_settle := ⟨by decide +kernel, rfl, fun h => (by cases h)⟩
theorem cdX6_settle : Cond.code (gNm mX6_settle) (gCode mX6_settle) (gNL mX6_settle) (gRet mX6_settle) ∈ gTb := inT 295 (by decide +kernel) (by decide +kernel)
theorem imX6_settle : Cond.instanceMethod (gNm mX6_settle) ∈ gTb ∧ Cond.selects (gNm mX6_settle).cls (gNm mX6_settle) (gNm mX6_settle) ∈ gTb := ⟨inT 293 (by decide +kernel) (by decide +kernel), inT 294 (by decide +kernel) (by decide +kernel)⟩
theorem pdX6_settle : (gNm mX6_settle).cls ≠ "java/lang/invoke/MethodHandle" ∧ (gNm mX6_settle).cls ≠ "java/lang/invoke/VarHandle" ∧ (parseMethodDescriptor (gNm mX6_settle).desc).map (fun d => d.parameters.length) = some 1 := by decide +kernel
theorem okX6_stake : gMok mX6_stake := ⟨by decide +kernel, rfl, fun h => (by cases h)⟩
theorem cdX6_stake : Cond.code (gNm mX6_stake) (gCode mX6_stake) (gNL mX6_stake) (gRet mX6_stake) ∈ gTb := inT 386 (by decide +kernel) (by decide +kernel)
theorem imX6_stake : Cond.instanceMethod (gNm mX6_stake) ∈ gTb ∧ Cond.selects (gNm mX6_stake).cls (gNm mX6_stake) (gNm mX6_stake) ∈ gTb := ⟨inT 384 (by decide +kernel) (by decide +kernel), inT 385 (by decide +kernel) (by decide +kernel)⟩
theorem pdX6_stake : (gNm mX6_stake).cls ≠ "java/lang/invoke/MethodHandle" ∧ (gNm mX6_stake).cls ≠ "java/lang/invoke/VarHandle" ∧ (parseMethodDescriptor (gNm mX6_stake).desc).map (fun d => d.parameters.length) = some 3 := by decide +kernel
theorem okX6_lengthOf : gMok mX6_lengthOf := ⟨by decide +kernel, rfl, fun h => (by cases h)⟩
theorem cdX6_lengthOf : Cond.code (gNm mX6_lengthOf) (gCode mX6_lengthOf) (gNL mX6_lengthOf) (gRet mX6_lengthOf) ∈ gTb := inT 329 (by decide +kernel) (by decide +kernel)
theorem imX6_lengthOf : Cond.instanceMethod (gNm mX6_lengthOf) ∈ gTb ∧ Cond.selects (gNm mX6_lengthOf).cls (gNm mX6_lengthOf) (gNm mX6_lengthOf) ∈ gTb := ⟨inT 327 (by decide +kernel) (by decide +kernel), inT 328 (by decide +kernel) (by decide +kernel)⟩
theorem pdX6_lengthOf : (gNm mX6_lengthOf).cls ≠ "java/lang/invoke/MethodHandle" ∧ (gNm mX6_lengthOf).cls ≠ "java/lang/invoke/VarHandle" ∧ (parseMethodDescriptor (gNm mX6_lengthOf).desc).map (fun d => d.parameters.length) = some 2 := by decide +kernel
theorem okX6_pave : gMok mX6_pave := ⟨by decide +kernel, rfl, fun h => (by cases h)⟩
theorem cdX6_pave : Cond.code (gNm mX6_pave) (gCode mX6_pave) (gNL mX6_pave) (gRet mX6_pave) ∈ gTb := inT 376 (by decide +kernel) (by decide +kernel)
theorem imX6_pave : Cond.instanceMethod (gNm mX6_pave) ∈ gTb ∧ Cond.selects (gNm mX6_pave).cls (gNm mX6_pave) (gNm mX6_pave) ∈ gTb := ⟨inT 374 (by decide +kernel) (by decide +kernel), inT 375 (by decide +kernel) (by decide +kernel)⟩
theorem pdX6_pave : (gNm mX6_pave).cls ≠ "java/lang/invoke/MethodHandle" ∧ (gNm mX6_pave).cls ≠ "java/lang/invoke/VarHandle" ∧ (parseMethodDescriptor (gNm mX6_pave).desc).map (fun d => d.parameters.length) = some 3 := by decide +kernel
theorem okX6_roads : gMok mX6_roads := ⟨by decide +kernel, rfl, fun h => (by cases h)⟩
theorem cdX6_roads : Cond.code (gNm mX6_roads) (gCode mX6_roads) (gNL mX6_roads) (gRet mX6_roads) ∈ gTb := inT 750 (by decide +kernel) (by decide +kernel)
theorem imX6_roads : Cond.instanceMethod (gNm mX6_roads) ∈ gTb ∧ Cond.selects (gNm mX6_roads).cls (gNm mX6_roads) (gNm mX6_roads) ∈ gTb := ⟨inT 748 (by decide +kernel) (by decide +kernel), inT 749 (by decide +kernel) (by decide +kernel)⟩
theorem pdX6_roads : (gNm mX6_roads).cls ≠ "java/lang/invoke/MethodHandle" ∧ (gNm mX6_roads).cls ≠ "java/lang/invoke/VarHandle" ∧ (parseMethodDescriptor (gNm mX6_roads).desc).map (fun d => d.parameters.length) = some 0 := by decide +kernel
theorem okX6_allLoaves : gMok mX6_allLoaves := ⟨by decide +kernel, rfl, fun h => (by cases h)⟩
theorem cdX6_allLoaves : Cond.code (gNm mX6_allLoaves) (gCode mX6_allLoaves) (gNL mX6_allLoaves) (gRet mX6_allLoaves) ∈ gTb := inT 755 (by decide +kernel) (by decide +kernel)
theorem imX6_allLoaves : Cond.instanceMethod (gNm mX6_allLoaves) ∈ gTb ∧ Cond.selects (gNm mX6_allLoaves).cls (gNm mX6_allLoaves) (gNm mX6_allLoaves) ∈ gTb := ⟨inT 753 (by decide +kernel) (by decide +kernel), inT 754 (by decide +kernel) (by decide +kernel)⟩
theorem pdX6_allLoaves : (gNm mX6_allLoaves).cls ≠ "java/lang/invoke/MethodHandle" ∧ (gNm mX6_allLoaves).cls ≠ "java/lang/invoke/VarHandle" ∧ (parseMethodDescriptor (gNm mX6_allLoaves).desc).map (fun d => d.parameters.length) = some 0 := by decide +kernel
theorem okX6_placesOfKind : gMok mX6_placesOfKind := ⟨by decide +kernel, rfl, fun h => (by cases h)⟩
theorem cdX6_placesOfKind : Cond.code (gNm mX6_placesOfKind) (gCode mX6_placesOfKind) (gNL mX6_placesOfKind) (gRet mX6_placesOfKind) ∈ gTb := inT 346 (by decide +kernel) (by decide +kernel)
theorem imX6_placesOfKind : Cond.instanceMethod (gNm mX6_placesOfKind) ∈ gTb ∧ Cond.selects (gNm mX6_placesOfKind).cls (gNm mX6_placesOfKind) (gNm mX6_placesOfKind) ∈ gTb := ⟨inT 344 (by decide +kernel) (by decide +kernel), inT 345 (by decide +kernel) (by decide +kernel)⟩
theorem pdX6_placesOfKind : (gNm mX6_placesOfKind).cls ≠ "java/lang/invoke/MethodHandle" ∧ (gNm mX6_placesOfKind).cls ≠ "java/lang/invoke/VarHandle" ∧ (parseMethodDescriptor (gNm mX6_placesOfKind).desc).map (fun d => d.parameters.length) = some 1 := by decide +kernel
theorem okX6_ovenCost : gMok mX6_ovenCost := ⟨by decide +kernel, rfl, fun h => (by cases h)⟩
theorem cdX6_ovenCost : Cond.code (gNm mX6_ovenCost) (gCode mX6_ovenCost) (gNL mX6_ovenCost) (gRet mX6_ovenCost) ∈ gTb := inT 492 (by decide +kernel) (by decide +kernel)
theorem imX6_ovenCost : Cond.instanceMethod (gNm mX6_ovenCost) ∈ gTb ∧ Cond.selects (gNm mX6_ovenCost).cls (gNm mX6_ovenCost) (gNm mX6_ovenCost) ∈ gTb := ⟨inT 490 (by decide +kernel) (by decide +kernel), inT 491 (by decide +kernel) (by decide +kernel)⟩
theorem pdX6_ovenCost : (gNm mX6_ovenCost).cls ≠ "java/lang/invoke/MethodHandle" ∧ (gNm mX6_ovenCost).cls ≠ "java/lang/invoke/VarHandle" ∧ (parseMethodDescriptor (gNm mX6_ovenCost).desc).map (fun d => d.parameters.length) = some 1 := by decide +kernel
theorem okX6_copyFrom : gMok mX6_copyFrom := ⟨by decide +kernel, rfl, fun h => (by cases h)⟩
theorem cdX6_copyFrom : Cond.code (gNm mX6_copyFrom) (gCode mX6_copyFrom) (gNL mX6_copyFrom) (gRet mX6_copyFrom) ∈ gTb := inT 288 (by decide +kernel) (by decide +kernel)
theorem imX6_copyFrom : Cond.instanceMethod (gNm mX6_copyFrom) ∈ gTb ∧ Cond.selects (gNm mX6_copyFrom).cls (gNm mX6_copyFrom) (gNm mX6_copyFrom) ∈ gTb := ⟨inT 286 (by decide +kernel) (by decide +kernel), inT 287 (by decide +kernel) (by decide +kernel)⟩
theorem pdX6_copyFrom : (gNm mX6_copyFrom).cls ≠ "java/lang/invoke/MethodHandle" ∧ (gNm mX6_copyFrom).cls ≠ "java/lang/invoke/VarHandle" ∧ (parseMethodDescriptor (gNm mX6_copyFrom).desc).map (fun d => d.parameters.length) = some 1 := by decide +kernel
theorem okX6_isLike : gMok mX6_isLike := ⟨by decide +kernel, rfl, fun h => (by cases h)⟩
theorem cdX6_isLike : Cond.code (gNm mX6_isLike) (gCode mX6_isLike) (gNL mX6_isLike) (gRet mX6_isLike) ∈ gTb := inT 307 (by decide +kernel) (by decide +kernel)
theorem imX6_isLike : Cond.instanceMethod (gNm mX6_isLike) ∈ gTb ∧ Cond.selects (gNm mX6_isLike).cls (gNm mX6_isLike) (gNm mX6_isLike) ∈ gTb := ⟨inT 305 (by decide +kernel) (by decide +kernel), inT 306 (by decide +kernel) (by decide +kernel)⟩
theorem pdX6_isLike : (gNm mX6_isLike).cls ≠ "java/lang/invoke/MethodHandle" ∧ (gNm mX6_isLike).cls ≠ "java/lang/invoke/VarHandle" ∧ (parseMethodDescriptor (gNm mX6_isLike).desc).map (fun d => d.parameters.length) = some 1 := by decide +kernel
theorem okX6_sameRows : gMok mX6_sameRows := ⟨by decide +kernel, rfl, fun h => (by cases h)⟩
theorem cdX6_sameRows : Cond.code (gNm mX6_sameRows) (gCode mX6_sameRows) (gNL mX6_sameRows) (gRet mX6_sameRows) ∈ gTb := inT 310 (by decide +kernel) (by decide +kernel)
theorem smX6_sameRows : Cond.static (gNm mX6_sameRows) ∈ gTb := inT 309 (by decide +kernel) (by decide +kernel)
theorem pdX6_sameRows : (gNm mX6_sameRows).cls ≠ "java/lang/invoke/MethodHandle" ∧ (gNm mX6_sameRows).cls ≠ "java/lang/invoke/VarHandle" ∧ (parseMethodDescriptor (gNm mX6_sameRows).desc).map (fun d => d.parameters.length) = some 2 := by decide +kernel
theorem okX7_init : gMok mX7_init := ⟨by decide +kernel, rfl, fun _ => rfl⟩
theorem cdX7_init : Cond.code (gNm mX7_init) (gCode mX7_init) (gNL mX7_init) (gRet mX7_init) ∈ gTb := inT 103 (by decide +kernel) (by decide +kernel)
theorem imX7_init : Cond.instanceMethod (gNm mX7_init) ∈ gTb ∧ (gNm mX7_init).name = "<init>" := ⟨inT 102 (by decide +kernel) (by decide +kernel), rfl⟩
theorem pdX7_init : (gNm mX7_init).cls ≠ "java/lang/invoke/MethodHandle" ∧ (gNm mX7_init).cls ≠ "java/lang/invoke/VarHandle" ∧ (parseMethodDescriptor (gNm mX7_init).desc).map (fun d => d.parameters.length) = some 0 := by decide +kernel
theorem okX7_between : gMok mX7_between := ⟨by decide +kernel, rfl, fun h => (by cases h)⟩
theorem cdX7_between : Cond.code (gNm mX7_between) (gCode mX7_between) (gNL mX7_between) (gRet mX7_between) ∈ gTb := inT 338 (by decide +kernel) (by decide +kernel)
theorem imX7_between : Cond.instanceMethod (gNm mX7_between) ∈ gTb ∧ Cond.selects (gNm mX7_between).cls (gNm mX7_between) (gNm mX7_between) ∈ gTb := ⟨inT 336 (by decide +kernel) (by decide +kernel), inT 337 (by decide +kernel) (by decide +kernel)⟩
theorem pdX7_between : (gNm mX7_between).cls ≠ "java/lang/invoke/MethodHandle" ∧ (gNm mX7_between).cls ≠ "java/lang/invoke/VarHandle" ∧ (parseMethodDescriptor (gNm mX7_between).desc).map (fun d => d.parameters.length) = some 2 := by decide +kernel
theorem okX7_measure : gMok mX7_measure := ⟨by decide +kernel, rfl, fun h => (by cases h)⟩
theorem cdX7_measure : Cond.code (gNm mX7_measure) (gCode mX7_measure) (gNL mX7_measure) (gRet mX7_measure) ∈ gTb := inT 321 (by decide +kernel) (by decide +kernel)
theorem imX7_measure : Cond.instanceMethod (gNm mX7_measure) ∈ gTb ∧ Cond.selects (gNm mX7_measure).cls (gNm mX7_measure) (gNm mX7_measure) ∈ gTb := ⟨inT 319 (by decide +kernel) (by decide +kernel), inT 320 (by decide +kernel) (by decide +kernel)⟩
theorem pdX7_measure : (gNm mX7_measure).cls ≠ "java/lang/invoke/MethodHandle" ∧ (gNm mX7_measure).cls ≠ "java/lang/invoke/VarHandle" ∧ (parseMethodDescriptor (gNm mX7_measure).desc).map (fun d => d.parameters.length) = some 1 := by decide +kernel
theorem okX7_takeRoads : gMok mX7_takeRoads := ⟨by decide +kernel, rfl, fun h => (by cases h)⟩
theorem cdX7_takeRoads : Cond.code (gNm mX7_takeRoads) (gCode mX7_takeRoads) (gNL mX7_takeRoads) (gRet mX7_takeRoads) ∈ gTb := inT 325 (by decide +kernel) (by decide +kernel)
theorem imX7_takeRoads : Cond.instanceMethod (gNm mX7_takeRoads) ∈ gTb ∧ Cond.selects (gNm mX7_takeRoads).cls (gNm mX7_takeRoads) (gNm mX7_takeRoads) ∈ gTb := ⟨inT 324 (by decide +kernel) (by decide +kernel), inP 2 (by decide +kernel) (by decide +kernel)⟩
theorem pdX7_takeRoads : (gNm mX7_takeRoads).cls ≠ "java/lang/invoke/MethodHandle" ∧ (gNm mX7_takeRoads).cls ≠ "java/lang/invoke/VarHandle" ∧ (parseMethodDescriptor (gNm mX7_takeRoads).desc).map (fun d => d.parameters.length) = some 1 := by decide +kernel
theorem okX7_shorten : gMok mX7_shorten := ⟨by decide +kernel, rfl, fun h => (by cases h)⟩
theorem cdX7_shorten : Cond.code (gNm mX7_shorten) (gCode mX7_shorten) (gNL mX7_shorten) (gRet mX7_shorten) ∈ gTb := inT 334 (by decide +kernel) (by decide +kernel)
theorem imX7_shorten : Cond.instanceMethod (gNm mX7_shorten) ∈ gTb ∧ Cond.selects (gNm mX7_shorten).cls (gNm mX7_shorten) (gNm mX7_shorten) ∈ gTb := ⟨inT 333 (by decide +kernel) (by decide +kernel), inP 3 (by decide +kernel) (by decide +kernel)⟩
theorem pdX7_shorten : (gNm mX7_shorten).cls ≠ "java/lang/invoke/MethodHandle" ∧ (gNm mX7_shorten).cls ≠ "java/lang/invoke/VarHandle" ∧ (parseMethodDescriptor (gNm mX7_shorten).desc).map (fun d => d.parameters.length) = some 3 := by decide +kernel
theorem okX7_villageAt : gMok mX7_villageAt := ⟨by decide +kernel, rfl, fun h => (by cases h)⟩
theorem cdX7_villageAt : Cond.code (gNm mX7_villageAt) (gCode mX7_villageAt) (gNL mX7_villageAt) (gRet mX7_villageAt) ∈ gTb := inT 454 (by decide +kernel) (by decide +kernel)
theorem imX7_villageAt : Cond.instanceMethod (gNm mX7_villageAt) ∈ gTb ∧ Cond.selects (gNm mX7_villageAt).cls (gNm mX7_villageAt) (gNm mX7_villageAt) ∈ gTb := ⟨inT 452 (by decide +kernel) (by decide +kernel), inT 453 (by decide +kernel) (by decide +kernel)⟩
theorem pdX7_villageAt : (gNm mX7_villageAt).cls ≠ "java/lang/invoke/MethodHandle" ∧ (gNm mX7_villageAt).cls ≠ "java/lang/invoke/VarHandle" ∧ (parseMethodDescriptor (gNm mX7_villageAt).desc).map (fun d => d.parameters.length) = some 4 := by decide +kernel
theorem okX7_nextOf : gMok mX7_nextOf := ⟨by decide +kernel, rfl, fun h => (by cases h)⟩
theorem cdX7_nextOf : Cond.code (gNm mX7_nextOf) (gCode mX7_nextOf) (gNL mX7_nextOf) (gRet mX7_nextOf) ∈ gTb := inT 458 (by decide +kernel) (by decide +kernel)
theorem imX7_nextOf : Cond.instanceMethod (gNm mX7_nextOf) ∈ gTb ∧ Cond.selects (gNm mX7_nextOf).cls (gNm mX7_nextOf) (gNm mX7_nextOf) ∈ gTb := ⟨inT 457 (by decide +kernel) (by decide +kernel), inP 7 (by decide +kernel) (by decide +kernel)⟩
theorem pdX7_nextOf : (gNm mX7_nextOf).cls ≠ "java/lang/invoke/MethodHandle" ∧ (gNm mX7_nextOf).cls ≠ "java/lang/invoke/VarHandle" ∧ (parseMethodDescriptor (gNm mX7_nextOf).desc).map (fun d => d.parameters.length) = some 3 := by decide +kernel
theorem okX8_init : gMok mX8_init := ⟨by decide +kernel, rfl, fun _ => rfl⟩
theorem cdX8_init : Cond.code (gNm mX8_init) (gCode mX8_init) (gNL mX8_init) (gRet mX8_init) ∈ gTb := inT 18 (by decide +kernel) (by decide +kernel)
theorem imX8_init : Cond.instanceMethod (gNm mX8_init) ∈ gTb ∧ (gNm mX8_init).name = "<init>" := ⟨inT 17 (by decide +kernel) (by decide +kernel), rfl⟩
theorem pdX8_init : (gNm mX8_init).cls ≠ "java/lang/invoke/MethodHandle" ∧ (gNm mX8_init).cls ≠ "java/lang/invoke/VarHandle" ∧ (parseMethodDescriptor (gNm mX8_init).desc).map (fun d => d.parameters.length) = some 0 := by decide +kernel
theorem okX8_village : gMok mX8_village := ⟨by decide +kernel, rfl, fun h => (by cases h)⟩
theorem cdX8_village : Cond.code (gNm mX8_village) (gCode mX8_village) (gNL mX8_village) (gRet mX8_village) ∈ gTb := inT 276 (by decide +kernel) (by decide +kernel)
theorem imX8_village : Cond.instanceMethod (gNm mX8_village) ∈ gTb ∧ Cond.selects (gNm mX8_village).cls (gNm mX8_village) (gNm mX8_village) ∈ gTb := ⟨inT 274 (by decide +kernel) (by decide +kernel), inT 275 (by decide +kernel) (by decide +kernel)⟩
theorem pdX8_village : (gNm mX8_village).cls ≠ "java/lang/invoke/MethodHandle" ∧ (gNm mX8_village).cls ≠ "java/lang/invoke/VarHandle" ∧ (parseMethodDescriptor (gNm mX8_village).desc).map (fun d => d.parameters.length) = some 1 := by decide +kernel
theorem okX8_loaves : gMok mX8_loaves := ⟨by decide +kernel, rfl, fun h => (by cases h)⟩
theorem cdX8_loaves : Cond.code (gNm mX8_loaves) (gCode mX8_loaves) (gNL mX8_loaves) (gRet mX8_loaves) ∈ gTb := inT 356 (by decide +kernel) (by decide +kernel)
theorem imX8_loaves : Cond.instanceMethod (gNm mX8_loaves) ∈ gTb ∧ Cond.selects (gNm mX8_loaves).cls (gNm mX8_loaves) (gNm mX8_loaves) ∈ gTb := ⟨inT 354 (by decide +kernel) (by decide +kernel), inT 355 (by decide +kernel) (by decide +kernel)⟩
theorem pdX8_loaves : (gNm mX8_loaves).cls ≠ "java/lang/invoke/MethodHandle" ∧ (gNm mX8_loaves).cls ≠ "java/lang/invoke/VarHandle" ∧ (parseMethodDescriptor (gNm mX8_loaves).desc).map (fun d => d.parameters.length) = some 2 := by decide +kernel
theorem okX8_road : gMok mX8_road := ⟨by decide +kernel, rfl, fun h => (by cases h)⟩
theorem cdX8_road : Cond.code (gNm mX8_road) (gCode mX8_road) (gNL mX8_road) (gRet mX8_road) ∈ gTb := inT 365 (by decide +kernel) (by decide +kernel)
theorem imX8_road : Cond.instanceMethod (gNm mX8_road) ∈ gTb ∧ Cond.selects (gNm mX8_road).cls (gNm mX8_road) (gNm mX8_road) ∈ gTb := ⟨inT 363 (by decide +kernel) (by decide +kernel), inT 364 (by decide +kernel) (by decide +kernel)⟩
theorem pdX8_road : (gNm mX8_road).cls ≠ "java/lang/invoke/MethodHandle" ∧ (gNm mX8_road).cls ≠ "java/lang/invoke/VarHandle" ∧ (parseMethodDescriptor (gNm mX8_road).desc).map (fun d => d.parameters.length) = some 3 := by decide +kernel
theorem okX8_place : gMok mX8_place := ⟨by decide +kernel, rfl, fun h => (by cases h)⟩
theorem cdX8_place : Cond.code (gNm mX8_place) (gCode mX8_place) (gNL mX8_place) (gRet mX8_place) ∈ gTb := inT 380 (by decide +kernel) (by decide +kernel)
theorem imX8_place : Cond.instanceMethod (gNm mX8_place) ∈ gTb ∧ Cond.selects (gNm mX8_place).cls (gNm mX8_place) (gNm mX8_place) ∈ gTb := ⟨inT 378 (by decide +kernel) (by decide +kernel), inT 379 (by decide +kernel) (by decide +kernel)⟩
theorem pdX8_place : (gNm mX8_place).cls ≠ "java/lang/invoke/MethodHandle" ∧ (gNm mX8_place).cls ≠ "java/lang/invoke/VarHandle" ∧ (parseMethodDescriptor (gNm mX8_place).desc).map (fun d => d.parameters.length) = some 3 := by decide +kernel
theorem okX8_reach : gMok mX8_reach := ⟨by decide +kernel, rfl, fun h => (by cases h)⟩
theorem cdX8_reach : Cond.code (gNm mX8_reach) (gCode mX8_reach) (gNL mX8_reach) (gRet mX8_reach) ∈ gTb := inT 390 (by decide +kernel) (by decide +kernel)
theorem imX8_reach : Cond.instanceMethod (gNm mX8_reach) ∈ gTb ∧ Cond.selects (gNm mX8_reach).cls (gNm mX8_reach) (gNm mX8_reach) ∈ gTb := ⟨inT 388 (by decide +kernel) (by decide +kernel), inT 389 (by decide +kernel) (by decide +kernel)⟩
theorem pdX8_reach : (gNm mX8_reach).cls ≠ "java/lang/invoke/MethodHandle" ∧ (gNm mX8_reach).cls ≠ "java/lang/invoke/VarHandle" ∧ (parseMethodDescriptor (gNm mX8_reach).desc).map (fun d => d.parameters.length) = some 2 := by decide +kernel
theorem okX8_number : gMok mX8_number := ⟨by decide +kernel, rfl, fun h => (by cases h)⟩
theorem cdX8_number : Cond.code (gNm mX8_number) (gCode mX8_number) (gNL mX8_number) (gRet mX8_number) ∈ gTb := inT 399 (by decide +kernel) (by decide +kernel)
theorem imX8_number : Cond.instanceMethod (gNm mX8_number) ∈ gTb ∧ Cond.selects (gNm mX8_number).cls (gNm mX8_number) (gNm mX8_number) ∈ gTb := ⟨inT 397 (by decide +kernel) (by decide +kernel), inT 398 (by decide +kernel) (by decide +kernel)⟩
theorem pdX8_number : (gNm mX8_number).cls ≠ "java/lang/invoke/MethodHandle" ∧ (gNm mX8_number).cls ≠ "java/lang/invoke/VarHandle" ∧ (parseMethodDescriptor (gNm mX8_number).desc).map (fun d => d.parameters.length) = some 1 := by decide +kernel
theorem okX8_map : gMok mX8_map := ⟨by decide +kernel, rfl, fun h => (by cases h)⟩
theorem cdX8_map : Cond.code (gNm mX8_map) (gCode mX8_map) (gNL mX8_map) (gRet mX8_map) ∈ gTb := inT 404 (by decide +kernel) (by decide +kernel)
theorem imX8_map : Cond.instanceMethod (gNm mX8_map) ∈ gTb ∧ Cond.selects (gNm mX8_map).cls (gNm mX8_map) (gNm mX8_map) ∈ gTb := ⟨inT 402 (by decide +kernel) (by decide +kernel), inT 403 (by decide +kernel) (by decide +kernel)⟩
theorem pdX8_map : (gNm mX8_map).cls ≠ "java/lang/invoke/MethodHandle" ∧ (gNm mX8_map).cls ≠ "java/lang/invoke/VarHandle" ∧ (parseMethodDescriptor (gNm mX8_map).desc).map (fun d => d.parameters.length) = some 3 := by decide +kernel
theorem okX8_lay : gMok mX8_lay := ⟨by decide +kernel, rfl, fun h => (by cases h)⟩
theorem cdX8_lay : Cond.code (gNm mX8_lay) (gCode mX8_lay) (gNL mX8_lay) (gRet mX8_lay) ∈ gTb := inT 420 (by decide +kernel) (by decide +kernel)
theorem imX8_lay : Cond.instanceMethod (gNm mX8_lay) ∈ gTb ∧ Cond.selects (gNm mX8_lay).cls (gNm mX8_lay) (gNm mX8_lay) ∈ gTb := ⟨inT 418 (by decide +kernel) (by decide +kernel), inT 419 (by decide +kernel) (by decide +kernel)⟩
theorem pdX8_lay : (gNm mX8_lay).cls ≠ "java/lang/invoke/MethodHandle" ∧ (gNm mX8_lay).cls ≠ "java/lang/invoke/VarHandle" ∧ (parseMethodDescriptor (gNm mX8_lay).desc).map (fun d => d.parameters.length) = some 3 := by decide +kernel
theorem okX8_draw : gMok mX8_draw := ⟨by decide +kernel, rfl, fun h => (by cases h)⟩
theorem cdX8_draw : Cond.code (gNm mX8_draw) (gCode mX8_draw) (gNL mX8_draw) (gRet mX8_draw) ∈ gTb := inT 428 (by decide +kernel) (by decide +kernel)
theorem imX8_draw : Cond.instanceMethod (gNm mX8_draw) ∈ gTb ∧ Cond.selects (gNm mX8_draw).cls (gNm mX8_draw) (gNm mX8_draw) ∈ gTb := ⟨inT 426 (by decide +kernel) (by decide +kernel), inT 427 (by decide +kernel) (by decide +kernel)⟩
theorem pdX8_draw : (gNm mX8_draw).cls ≠ "java/lang/invoke/MethodHandle" ∧ (gNm mX8_draw).cls ≠ "java/lang/invoke/VarHandle" ∧ (parseMethodDescriptor (gNm mX8_draw).desc).map (fun d => d.parameters.length) = some 3 := by decide +kernel
theorem okX8_apart : gMok mX8_apart := ⟨by decide +kernel, rfl, fun h => (by cases h)⟩
theorem cdX8_apart : Cond.code (gNm mX8_apart) (gCode mX8_apart) (gNL mX8_apart) (gRet mX8_apart) ∈ gTb := inT 444 (by decide +kernel) (by decide +kernel)
theorem imX8_apart : Cond.instanceMethod (gNm mX8_apart) ∈ gTb ∧ Cond.selects (gNm mX8_apart).cls (gNm mX8_apart) (gNm mX8_apart) ∈ gTb := ⟨inT 442 (by decide +kernel) (by decide +kernel), inT 443 (by decide +kernel) (by decide +kernel)⟩
theorem pdX8_apart : (gNm mX8_apart).cls ≠ "java/lang/invoke/MethodHandle" ∧ (gNm mX8_apart).cls ≠ "java/lang/invoke/VarHandle" ∧ (parseMethodDescriptor (gNm mX8_apart).desc).map (fun d => d.parameters.length) = some 2 := by decide +kernel
theorem okX8_way : gMok mX8_way := ⟨by decide +kernel, rfl, fun h => (by cases h)⟩
theorem cdX8_way : Cond.code (gNm mX8_way) (gCode mX8_way) (gNL mX8_way) (gRet mX8_way) ∈ gTb := inT 450 (by decide +kernel) (by decide +kernel)
theorem imX8_way : Cond.instanceMethod (gNm mX8_way) ∈ gTb ∧ Cond.selects (gNm mX8_way).cls (gNm mX8_way) (gNm mX8_way) ∈ gTb := ⟨inT 448 (by decide +kernel) (by decide +kernel), inT 449 (by decide +kernel) (by decide +kernel)⟩
theorem pdX8_way : (gNm mX8_way).cls ≠ "java/lang/invoke/MethodHandle" ∧ (gNm mX8_way).cls ≠ "java/lang/invoke/VarHandle" ∧ (parseMethodDescriptor (gNm mX8_way).desc).map (fun d => d.parameters.length) = some 3 := by decide +kernel
theorem okX8_allowed : gMok mX8_allowed := ⟨by decide +kernel, rfl, fun h => (by cases h)⟩
theorem cdX8_allowed : Cond.code (gNm mX8_allowed) (gCode mX8_allowed) (gNL mX8_allowed) (gRet mX8_allowed) ∈ gTb := inT 462 (by decide +kernel) (by decide +kernel)
theorem imX8_allowed : Cond.instanceMethod (gNm mX8_allowed) ∈ gTb ∧ Cond.selects (gNm mX8_allowed).cls (gNm mX8_allowed) (gNm mX8_allowed) ∈ gTb := ⟨inT 460 (by decide +kernel) (by decide +kernel), inT 461 (by decide +kernel) (by decide +kernel)⟩
theorem pdX8_allowed : (gNm mX8_allowed).cls ≠ "java/lang/invoke/MethodHandle" ∧ (gNm mX8_allowed).cls ≠ "java/lang/invoke/VarHandle" ∧ (parseMethodDescriptor (gNm mX8_allowed).desc).map (fun d => d.parameters.length) = some 1 := by decide +kernel
theorem okX8_cost : gMok mX8_cost := ⟨by decide +kernel, rfl, fun h => (by cases h)⟩
theorem cdX8_cost : Cond.code (gNm mX8_cost) (gCode mX8_cost) (gNL mX8_cost) (gRet mX8_cost) ∈ gTb := inT 480 (by decide +kernel) (by decide +kernel)
theorem imX8_cost : Cond.instanceMethod (gNm mX8_cost) ∈ gTb ∧ Cond.selects (gNm mX8_cost).cls (gNm mX8_cost) (gNm mX8_cost) ∈ gTb := ⟨inT 478 (by decide +kernel) (by decide +kernel), inT 479 (by decide +kernel) (by decide +kernel)⟩
theorem pdX8_cost : (gNm mX8_cost).cls ≠ "java/lang/invoke/MethodHandle" ∧ (gNm mX8_cost).cls ≠ "java/lang/invoke/VarHandle" ∧ (parseMethodDescriptor (gNm mX8_cost).desc).map (fun d => d.parameters.length) = some 1 := by decide +kernel
theorem okX8_served : gMok mX8_served := ⟨by decide +kernel, rfl, fun h => (by cases h)⟩
theorem cdX8_served : Cond.code (gNm mX8_served) (gCode mX8_served) (gNL mX8_served) (gRet mX8_served) ∈ gTb := inT 507 (by decide +kernel) (by decide +kernel)
theorem imX8_served : Cond.instanceMethod (gNm mX8_served) ∈ gTb ∧ Cond.selects (gNm mX8_served).cls (gNm mX8_served) (gNm mX8_served) ∈ gTb := ⟨inT 505 (by decide +kernel) (by decide +kernel), inT 506 (by decide +kernel) (by decide +kernel)⟩
theorem pdX8_served : (gNm mX8_served).cls ≠ "java/lang/invoke/MethodHandle" ∧ (gNm mX8_served).cls ≠ "java/lang/invoke/VarHandle" ∧ (parseMethodDescriptor (gNm mX8_served).desc).map (fun d => d.parameters.length) = some 2 := by decide +kernel
theorem okX8_share : gMok mX8_share := ⟨by decide +kernel, rfl, fun h => (by cases h)⟩
theorem cdX8_share : Cond.code (gNm mX8_share) (gCode mX8_share) (gNL mX8_share) (gRet mX8_share) ∈ gTb := inT 512 (by decide +kernel) (by decide +kernel)
theorem imX8_share : Cond.instanceMethod (gNm mX8_share) ∈ gTb ∧ Cond.selects (gNm mX8_share).cls (gNm mX8_share) (gNm mX8_share) ∈ gTb := ⟨inT 510 (by decide +kernel) (by decide +kernel), inT 511 (by decide +kernel) (by decide +kernel)⟩
theorem pdX8_share : (gNm mX8_share).cls ≠ "java/lang/invoke/MethodHandle" ∧ (gNm mX8_share).cls ≠ "java/lang/invoke/VarHandle" ∧ (parseMethodDescriptor (gNm mX8_share).desc).map (fun d => d.parameters.length) = some 3 := by decide +kernel
theorem okX8_least : gMok mX8_least := ⟨by decide +kernel, rfl, fun h => (by cases h)⟩
theorem cdX8_least : Cond.code (gNm mX8_least) (gCode mX8_least) (gNL mX8_least) (gRet mX8_least) ∈ gTb := inT 536 (by decide +kernel) (by decide +kernel)
theorem imX8_least : Cond.instanceMethod (gNm mX8_least) ∈ gTb ∧ Cond.selects (gNm mX8_least).cls (gNm mX8_least) (gNm mX8_least) ∈ gTb := ⟨inT 534 (by decide +kernel) (by decide +kernel), inT 535 (by decide +kernel) (by decide +kernel)⟩
theorem pdX8_least : (gNm mX8_least).cls ≠ "java/lang/invoke/MethodHandle" ∧ (gNm mX8_least).cls ≠ "java/lang/invoke/VarHandle" ∧ (parseMethodDescriptor (gNm mX8_least).desc).map (fun d => d.parameters.length) = some 0 := by decide +kernel
theorem okX8_best : gMok mX8_best := ⟨by decide +kernel, rfl, fun h => (by cases h)⟩
theorem cdX8_best : Cond.code (gNm mX8_best) (gCode mX8_best) (gNL mX8_best) (gRet mX8_best) ∈ gTb := inT 577 (by decide +kernel) (by decide +kernel)
theorem imX8_best : Cond.instanceMethod (gNm mX8_best) ∈ gTb ∧ Cond.selects (gNm mX8_best).cls (gNm mX8_best) (gNm mX8_best) ∈ gTb := ⟨inT 575 (by decide +kernel) (by decide +kernel), inT 576 (by decide +kernel) (by decide +kernel)⟩
theorem pdX8_best : (gNm mX8_best).cls ≠ "java/lang/invoke/MethodHandle" ∧ (gNm mX8_best).cls ≠ "java/lang/invoke/VarHandle" ∧ (parseMethodDescriptor (gNm mX8_best).desc).map (fun d => d.parameters.length) = some 0 := by decide +kernel
theorem okX8_many : gMok mX8_many := ⟨by decide +kernel, rfl, fun h => (by cases h)⟩
theorem cdX8_many : Cond.code (gNm mX8_many) (gCode mX8_many) (gNL mX8_many) (gRet mX8_many) ∈ gTb := inT 581 (by decide +kernel) (by decide +kernel)
theorem imX8_many : Cond.instanceMethod (gNm mX8_many) ∈ gTb ∧ Cond.selects (gNm mX8_many).cls (gNm mX8_many) (gNm mX8_many) ∈ gTb := ⟨inT 579 (by decide +kernel) (by decide +kernel), inT 580 (by decide +kernel) (by decide +kernel)⟩
theorem pdX8_many : (gNm mX8_many).cls ≠ "java/lang/invoke/MethodHandle" ∧ (gNm mX8_many).cls ≠ "java/lang/invoke/VarHandle" ∧ (parseMethodDescriptor (gNm mX8_many).desc).map (fun d => d.parameters.length) = some 0 := by decide +kernel
theorem okX8_every : gMok mX8_every := ⟨by decide +kernel, rfl, fun h => (by cases h)⟩
theorem cdX8_every : Cond.code (gNm mX8_every) (gCode mX8_every) (gNL mX8_every) (gRet mX8_every) ∈ gTb := inT 585 (by decide +kernel) (by decide +kernel)
theorem imX8_every : Cond.instanceMethod (gNm mX8_every) ∈ gTb ∧ Cond.selects (gNm mX8_every).cls (gNm mX8_every) (gNm mX8_every) ∈ gTb := ⟨inT 583 (by decide +kernel) (by decide +kernel), inT 584 (by decide +kernel) (by decide +kernel)⟩
theorem pdX8_every : (gNm mX8_every).cls ≠ "java/lang/invoke/MethodHandle" ∧ (gNm mX8_every).cls ≠ "java/lang/invoke/VarHandle" ∧ (parseMethodDescriptor (gNm mX8_every).desc).map (fun d => d.parameters.length) = some 1 := by decide +kernel
theorem okX8_second : gMok mX8_second := ⟨by decide +kernel, rfl, fun h => (by cases h)⟩
theorem cdX8_second : Cond.code (gNm mX8_second) (gCode mX8_second) (gNL mX8_second) (gRet mX8_second) ∈ gTb := inT 589 (by decide +kernel) (by decide +kernel)
theorem imX8_second : Cond.instanceMethod (gNm mX8_second) ∈ gTb ∧ Cond.selects (gNm mX8_second).cls (gNm mX8_second) (gNm mX8_second) ∈ gTb := ⟨inT 587 (by decide +kernel) (by decide +kernel), inT 588 (by decide +kernel) (by decide +kernel)⟩
theorem pdX8_second : (gNm mX8_second).cls ≠ "java/lang/invoke/MethodHandle" ∧ (gNm mX8_second).cls ≠ "java/lang/invoke/VarHandle" ∧ (parseMethodDescriptor (gNm mX8_second).desc).map (fun d => d.parameters.length) = some 1 := by decide +kernel
theorem okX8_lose : gMok mX8_lose := ⟨by decide +kernel, rfl, fun h => (by cases h)⟩
theorem cdX8_lose : Cond.code (gNm mX8_lose) (gCode mX8_lose) (gNL mX8_lose) (gRet mX8_lose) ∈ gTb := inT 593 (by decide +kernel) (by decide +kernel)
theorem imX8_lose : Cond.instanceMethod (gNm mX8_lose) ∈ gTb ∧ Cond.selects (gNm mX8_lose).cls (gNm mX8_lose) (gNm mX8_lose) ∈ gTb := ⟨inT 591 (by decide +kernel) (by decide +kernel), inT 592 (by decide +kernel) (by decide +kernel)⟩
theorem pdX8_lose : (gNm mX8_lose).cls ≠ "java/lang/invoke/MethodHandle" ∧ (gNm mX8_lose).cls ≠ "java/lang/invoke/VarHandle" ∧ (parseMethodDescriptor (gNm mX8_lose).desc).map (fun d => d.parameters.length) = some 1 := by decide +kernel
theorem okX8_worst : gMok mX8_worst := ⟨by decide +kernel, rfl, fun h => (by cases h)⟩
theorem cdX8_worst : Cond.code (gNm mX8_worst) (gCode mX8_worst) (gNL mX8_worst) (gRet mX8_worst) ∈ gTb := inT 599 (by decide +kernel) (by decide +kernel)
theorem imX8_worst : Cond.instanceMethod (gNm mX8_worst) ∈ gTb ∧ Cond.selects (gNm mX8_worst).cls (gNm mX8_worst) (gNm mX8_worst) ∈ gTb := ⟨inT 597 (by decide +kernel) (by decide +kernel), inT 598 (by decide +kernel) (by decide +kernel)⟩
theorem pdX8_worst : (gNm mX8_worst).cls ≠ "java/lang/invoke/MethodHandle" ∧ (gNm mX8_worst).cls ≠ "java/lang/invoke/VarHandle" ∧ (parseMethodDescriptor (gNm mX8_worst).desc).map (fun d => d.parameters.length) = some 0 := by decide +kernel
theorem okX8_farthest : gMok mX8_farthest := ⟨by decide +kernel, rfl, fun h => (by cases h)⟩
theorem cdX8_farthest : Cond.code (gNm mX8_farthest) (gCode mX8_farthest) (gNL mX8_farthest) (gRet mX8_farthest) ∈ gTb := inT 608 (by decide +kernel) (by decide +kernel)
theorem imX8_farthest : Cond.instanceMethod (gNm mX8_farthest) ∈ gTb ∧ Cond.selects (gNm mX8_farthest).cls (gNm mX8_farthest) (gNm mX8_farthest) ∈ gTb := ⟨inT 606 (by decide +kernel) (by decide +kernel), inT 607 (by decide +kernel) (by decide +kernel)⟩
theorem pdX8_farthest : (gNm mX8_farthest).cls ≠ "java/lang/invoke/MethodHandle" ∧ (gNm mX8_farthest).cls ≠ "java/lang/invoke/VarHandle" ∧ (parseMethodDescriptor (gNm mX8_farthest).desc).map (fun d => d.parameters.length) = some 0 := by decide +kernel
theorem okX8_nearest : gMok mX8_nearest := ⟨by decide +kernel, rfl, fun h => (by cases h)⟩
theorem cdX8_nearest : Cond.code (gNm mX8_nearest) (gCode mX8_nearest) (gNL mX8_nearest) (gRet mX8_nearest) ∈ gTb := inT 612 (by decide +kernel) (by decide +kernel)
theorem imX8_nearest : Cond.instanceMethod (gNm mX8_nearest) ∈ gTb ∧ Cond.selects (gNm mX8_nearest).cls (gNm mX8_nearest) (gNm mX8_nearest) ∈ gTb := ⟨inT 610 (by decide +kernel) (by decide +kernel), inT 611 (by decide +kernel) (by decide +kernel)⟩
theorem pdX8_nearest : (gNm mX8_nearest).cls ≠ "java/lang/invoke/MethodHandle" ∧ (gNm mX8_nearest).cls ≠ "java/lang/invoke/VarHandle" ∧ (parseMethodDescriptor (gNm mX8_nearest).desc).map (fun d => d.parameters.length) = some 0 := by decide +kernel
theorem okX8_added : gMok mX8_added := ⟨by decide +kernel, rfl, fun h => (by cases h)⟩
theorem cdX8_added : Cond.code (gNm mX8_added) (gCode mX8_added) (gNL mX8_added) (gRet mX8_added) ∈ gTb := inT 616 (by decide +kernel) (by decide +kernel)
theorem imX8_added : Cond.instanceMethod (gNm mX8_added) ∈ gTb ∧ Cond.selects (gNm mX8_added).cls (gNm mX8_added) (gNm mX8_added) ∈ gTb := ⟨inT 614 (by decide +kernel) (by decide +kernel), inT 615 (by decide +kernel) (by decide +kernel)⟩
theorem pdX8_added : (gNm mX8_added).cls ≠ "java/lang/invoke/MethodHandle" ∧ (gNm mX8_added).cls ≠ "java/lang/invoke/VarHandle" ∧ (parseMethodDescriptor (gNm mX8_added).desc).map (fun d => d.parameters.length) = some 0 := by decide +kernel
theorem okX8_changed : gMok mX8_changed := ⟨by decide +kernel, rfl, fun h => (by cases h)⟩
theorem cdX8_changed : Cond.code (gNm mX8_changed) (gCode mX8_changed) (gNL mX8_changed) (gRet mX8_changed) ∈ gTb := inT 639 (by decide +kernel) (by decide +kernel)
theorem imX8_changed : Cond.instanceMethod (gNm mX8_changed) ∈ gTb ∧ Cond.selects (gNm mX8_changed).cls (gNm mX8_changed) (gNm mX8_changed) ∈ gTb := ⟨inT 637 (by decide +kernel) (by decide +kernel), inT 638 (by decide +kernel) (by decide +kernel)⟩
theorem pdX8_changed : (gNm mX8_changed).cls ≠ "java/lang/invoke/MethodHandle" ∧ (gNm mX8_changed).cls ≠ "java/lang/invoke/VarHandle" ∧ (parseMethodDescriptor (gNm mX8_changed).desc).map (fun d => d.parameters.length) = some 1 := by decide +kernel
theorem okX8_moves : gMok mX8_moves := ⟨by decide +kernel, rfl, fun h => (by cases h)⟩
theorem cdX8_moves : Cond.code (gNm mX8_moves) (gCode mX8_moves) (gNL mX8_moves) (gRet mX8_moves) ∈ gTb := inT 651 (by decide +kernel) (by decide +kernel)
theorem imX8_moves : Cond.instanceMethod (gNm mX8_moves) ∈ gTb ∧ Cond.selects (gNm mX8_moves).cls (gNm mX8_moves) (gNm mX8_moves) ∈ gTb := ⟨inT 649 (by decide +kernel) (by decide +kernel), inT 650 (by decide +kernel) (by decide +kernel)⟩
theorem pdX8_moves : (gNm mX8_moves).cls ≠ "java/lang/invoke/MethodHandle" ∧ (gNm mX8_moves).cls ≠ "java/lang/invoke/VarHandle" ∧ (parseMethodDescriptor (gNm mX8_moves).desc).map (fun d => d.parameters.length) = some 0 := by decide +kernel
theorem okX8_price : gMok mX8_price := ⟨by decide +kernel, rfl, fun h => (by cases h)⟩
theorem cdX8_price : Cond.code (gNm mX8_price) (gCode mX8_price) (gNL mX8_price) (gRet mX8_price) ∈ gTb := inT 655 (by decide +kernel) (by decide +kernel)
theorem imX8_price : Cond.instanceMethod (gNm mX8_price) ∈ gTb ∧ Cond.selects (gNm mX8_price).cls (gNm mX8_price) (gNm mX8_price) ∈ gTb := ⟨inT 653 (by decide +kernel) (by decide +kernel), inT 654 (by decide +kernel) (by decide +kernel)⟩
theorem pdX8_price : (gNm mX8_price).cls ≠ "java/lang/invoke/MethodHandle" ∧ (gNm mX8_price).cls ≠ "java/lang/invoke/VarHandle" ∧ (parseMethodDescriptor (gNm mX8_price).desc).map (fun d => d.parameters.length) = some 2 := by decide +kernel
theorem okX8_priced : gMok mX8_priced := ⟨by decide +kernel, rfl, fun h => (by cases h)⟩
theorem cdX8_priced : Cond.code (gNm mX8_priced) (gCode mX8_priced) (gNL mX8_priced) (gRet mX8_priced) ∈ gTb := inT 660 (by decide +kernel) (by decide +kernel)
theorem imX8_priced : Cond.instanceMethod (gNm mX8_priced) ∈ gTb ∧ Cond.selects (gNm mX8_priced).cls (gNm mX8_priced) (gNm mX8_priced) ∈ gTb := ⟨inT 658 (by decide +kernel) (by decide +kernel), inT 659 (by decide +kernel) (by decide +kernel)⟩
theorem pdX8_priced : (gNm mX8_priced).cls ≠ "java/lang/invoke/MethodHandle" ∧ (gNm mX8_priced).cls ≠ "java/lang/invoke/VarHandle" ∧ (parseMethodDescriptor (gNm mX8_priced).desc).map (fun d => d.parameters.length) = some 1 := by decide +kernel
theorem okX8_gives : gMok mX8_gives := ⟨by decide +kernel, rfl, fun h => (by cases h)⟩
theorem cdX8_gives : Cond.code (gNm mX8_gives) (gCode mX8_gives) (gNL mX8_gives) (gRet mX8_gives) ∈ gTb := inT 664 (by decide +kernel) (by decide +kernel)
theorem imX8_gives : Cond.instanceMethod (gNm mX8_gives) ∈ gTb ∧ Cond.selects (gNm mX8_gives).cls (gNm mX8_gives) (gNm mX8_gives) ∈ gTb := ⟨inT 662 (by decide +kernel) (by decide +kernel), inT 663 (by decide +kernel) (by decide +kernel)⟩
theorem pdX8_gives : (gNm mX8_gives).cls ≠ "java/lang/invoke/MethodHandle" ∧ (gNm mX8_gives).cls ≠ "java/lang/invoke/VarHandle" ∧ (parseMethodDescriptor (gNm mX8_gives).desc).map (fun d => d.parameters.length) = some 2 := by decide +kernel
theorem okX8_worth : gMok mX8_worth := ⟨by decide +kernel, rfl, fun h => (by cases h)⟩
theorem cdX8_worth : Cond.code (gNm mX8_worth) (gCode mX8_worth) (gNL mX8_worth) (gRet mX8_worth) ∈ gTb := inT 677 (by decide +kernel) (by decide +kernel)
theorem imX8_worth : Cond.instanceMethod (gNm mX8_worth) ∈ gTb ∧ Cond.selects (gNm mX8_worth).cls (gNm mX8_worth) (gNm mX8_worth) ∈ gTb := ⟨inT 675 (by decide +kernel) (by decide +kernel), inT 676 (by decide +kernel) (by decide +kernel)⟩
theorem pdX8_worth : (gNm mX8_worth).cls ≠ "java/lang/invoke/MethodHandle" ∧ (gNm mX8_worth).cls ≠ "java/lang/invoke/VarHandle" ∧ (parseMethodDescriptor (gNm mX8_worth).desc).map (fun d => d.parameters.length) = some 1 := by decide +kernel
theorem okX8_bound : gMok mX8_bound := ⟨by decide +kernel, rfl, fun h => (by cases h)⟩
theorem cdX8_bound : Cond.code (gNm mX8_bound) (gCode mX8_bound) (gNL mX8_bound) (gRet mX8_bound) ∈ gTb := inT 687 (by decide +kernel) (by decide +kernel)
theorem imX8_bound : Cond.instanceMethod (gNm mX8_bound) ∈ gTb ∧ Cond.selects (gNm mX8_bound).cls (gNm mX8_bound) (gNm mX8_bound) ∈ gTb := ⟨inT 685 (by decide +kernel) (by decide +kernel), inT 686 (by decide +kernel) (by decide +kernel)⟩
theorem pdX8_bound : (gNm mX8_bound).cls ≠ "java/lang/invoke/MethodHandle" ∧ (gNm mX8_bound).cls ≠ "java/lang/invoke/VarHandle" ∧ (parseMethodDescriptor (gNm mX8_bound).desc).map (fun d => d.parameters.length) = some 0 := by decide +kernel
theorem okX8_climb : gMok mX8_climb := ⟨by decide +kernel, rfl, fun h => (by cases h)⟩
theorem cdX8_climb : Cond.code (gNm mX8_climb) (gCode mX8_climb) (gNL mX8_climb) (gRet mX8_climb) ∈ gTb := inT 705 (by decide +kernel) (by decide +kernel)
theorem imX8_climb : Cond.instanceMethod (gNm mX8_climb) ∈ gTb ∧ Cond.selects (gNm mX8_climb).cls (gNm mX8_climb) (gNm mX8_climb) ∈ gTb := ⟨inT 703 (by decide +kernel) (by decide +kernel), inT 704 (by decide +kernel) (by decide +kernel)⟩
theorem pdX8_climb : (gNm mX8_climb).cls ≠ "java/lang/invoke/MethodHandle" ∧ (gNm mX8_climb).cls ≠ "java/lang/invoke/VarHandle" ∧ (parseMethodDescriptor (gNm mX8_climb).desc).map (fun d => d.parameters.length) = some 2 := by decide +kernel
theorem okX8_highest : gMok mX8_highest := ⟨by decide +kernel, rfl, fun h => (by cases h)⟩
theorem cdX8_highest : Cond.code (gNm mX8_highest) (gCode mX8_highest) (gNL mX8_highest) (gRet mX8_highest) ∈ gTb := inT 730 (by decide +kernel) (by decide +kernel)
theorem imX8_highest : Cond.instanceMethod (gNm mX8_highest) ∈ gTb ∧ Cond.selects (gNm mX8_highest).cls (gNm mX8_highest) (gNm mX8_highest) ∈ gTb := ⟨inT 728 (by decide +kernel) (by decide +kernel), inT 729 (by decide +kernel) (by decide +kernel)⟩
theorem pdX8_highest : (gNm mX8_highest).cls ≠ "java/lang/invoke/MethodHandle" ∧ (gNm mX8_highest).cls ≠ "java/lang/invoke/VarHandle" ∧ (parseMethodDescriptor (gNm mX8_highest).desc).map (fun d => d.parameters.length) = some 0 := by decide +kernel
theorem okX8_undo : gMok mX8_undo := ⟨by decide +kernel, rfl, fun h => (by cases h)⟩
theorem cdX8_undo : Cond.code (gNm mX8_undo) (gCode mX8_undo) (gNL mX8_undo) (gRet mX8_undo) ∈ gTb := inT 734 (by decide +kernel) (by decide +kernel)
theorem imX8_undo : Cond.instanceMethod (gNm mX8_undo) ∈ gTb ∧ Cond.selects (gNm mX8_undo).cls (gNm mX8_undo) (gNm mX8_undo) ∈ gTb := ⟨inT 732 (by decide +kernel) (by decide +kernel), inT 733 (by decide +kernel) (by decide +kernel)⟩
theorem pdX8_undo : (gNm mX8_undo).cls ≠ "java/lang/invoke/MethodHandle" ∧ (gNm mX8_undo).cls ≠ "java/lang/invoke/VarHandle" ∧ (parseMethodDescriptor (gNm mX8_undo).desc).map (fun d => d.parameters.length) = some 0 := by decide +kernel
theorem okX8_count : gMok mX8_count := ⟨by decide +kernel, rfl, fun h => (by cases h)⟩
theorem cdX8_count : Cond.code (gNm mX8_count) (gCode mX8_count) (gNL mX8_count) (gRet mX8_count) ∈ gTb := inT 746 (by decide +kernel) (by decide +kernel)
theorem imX8_count : Cond.instanceMethod (gNm mX8_count) ∈ gTb ∧ Cond.selects (gNm mX8_count).cls (gNm mX8_count) (gNm mX8_count) ∈ gTb := ⟨inT 744 (by decide +kernel) (by decide +kernel), inT 745 (by decide +kernel) (by decide +kernel)⟩
theorem pdX8_count : (gNm mX8_count).cls ≠ "java/lang/invoke/MethodHandle" ∧ (gNm mX8_count).cls ≠ "java/lang/invoke/VarHandle" ∧ (parseMethodDescriptor (gNm mX8_count).desc).map (fun d => d.parameters.length) = some 1 := by decide +kernel
theorem okX8_isWithin : gMok mX8_isWithin := ⟨by decide +kernel, rfl, fun h => (by cases h)⟩
theorem cdX8_isWithin : Cond.code (gNm mX8_isWithin) (gCode mX8_isWithin) (gNL mX8_isWithin) (gRet mX8_isWithin) ∈ gTb := inT 280 (by decide +kernel) (by decide +kernel)
theorem smX8_isWithin : Cond.static (gNm mX8_isWithin) ∈ gTb := inT 279 (by decide +kernel) (by decide +kernel)
theorem pdX8_isWithin : (gNm mX8_isWithin).cls ≠ "java/lang/invoke/MethodHandle" ∧ (gNm mX8_isWithin).cls ≠ "java/lang/invoke/VarHandle" ∧ (parseMethodDescriptor (gNm mX8_isWithin).desc).map (fun d => d.parameters.length) = some 3 := by decide +kernel
theorem okX8_isMap : gMok mX8_isMap := ⟨by decide +kernel, rfl, fun h => (by cases h)⟩
theorem cdX8_isMap : Cond.code (gNm mX8_isMap) (gCode mX8_isMap) (gNL mX8_isMap) (gRet mX8_isMap) ∈ gTb := inT 407 (by decide +kernel) (by decide +kernel)
theorem smX8_isMap : Cond.static (gNm mX8_isMap) ∈ gTb := inT 406 (by decide +kernel) (by decide +kernel)
theorem pdX8_isMap : (gNm mX8_isMap).cls ≠ "java/lang/invoke/MethodHandle" ∧ (gNm mX8_isMap).cls ≠ "java/lang/invoke/VarHandle" ∧ (parseMethodDescriptor (gNm mX8_isMap).desc).map (fun d => d.parameters.length) = some 1 := by decide +kernel
theorem okX8_isLane : gMok mX8_isLane := ⟨by decide +kernel, rfl, fun h => (by cases h)⟩
theorem cdX8_isLane : Cond.code (gNm mX8_isLane) (gCode mX8_isLane) (gNL mX8_isLane) (gRet mX8_isLane) ∈ gTb := inT 411 (by decide +kernel) (by decide +kernel)
theorem smX8_isLane : Cond.static (gNm mX8_isLane) ∈ gTb := inT 410 (by decide +kernel) (by decide +kernel)
theorem pdX8_isLane : (gNm mX8_isLane).cls ≠ "java/lang/invoke/MethodHandle" ∧ (gNm mX8_isLane).cls ≠ "java/lang/invoke/VarHandle" ∧ (parseMethodDescriptor (gNm mX8_isLane).desc).map (fun d => d.parameters.length) = some 1 := by decide +kernel
theorem okX8_isIn : gMok mX8_isIn := ⟨by decide +kernel, rfl, fun h => (by cases h)⟩
theorem cdX8_isIn : Cond.code (gNm mX8_isIn) (gCode mX8_isIn) (gNL mX8_isIn) (gRet mX8_isIn) ∈ gTb := inT 488 (by decide +kernel) (by decide +kernel)
theorem smX8_isIn : Cond.static (gNm mX8_isIn) ∈ gTb := inT 487 (by decide +kernel) (by decide +kernel)
theorem pdX8_isIn : (gNm mX8_isIn).cls ≠ "java/lang/invoke/MethodHandle" ∧ (gNm mX8_isIn).cls ≠ "java/lang/invoke/VarHandle" ∧ (parseMethodDescriptor (gNm mX8_isIn).desc).map (fun d => d.parameters.length) = some 2 := by decide +kernel
theorem okX8_keepChange : gMok mX8_keepChange := ⟨by decide +kernel, rfl, fun h => (by cases h)⟩
theorem cdX8_keepChange : Cond.code (gNm mX8_keepChange) (gCode mX8_keepChange) (gNL mX8_keepChange) (gRet mX8_keepChange) ∈ gTb := inT 299 (by decide +kernel) (by decide +kernel)
theorem imX8_keepChange : Cond.instanceMethod (gNm mX8_keepChange) ∈ gTb ∧ Cond.selects (gNm mX8_keepChange).cls (gNm mX8_keepChange) (gNm mX8_keepChange) ∈ gTb := ⟨inT 298 (by decide +kernel) (by decide +kernel), inP 0 (by decide +kernel) (by decide +kernel)⟩
theorem pdX8_keepChange : (gNm mX8_keepChange).cls ≠ "java/lang/invoke/MethodHandle" ∧ (gNm mX8_keepChange).cls ≠ "java/lang/invoke/VarHandle" ∧ (parseMethodDescriptor (gNm mX8_keepChange).desc).map (fun d => d.parameters.length) = some 0 := by decide +kernel
theorem okX8_workOut : gMok mX8_workOut := ⟨by decide +kernel, rfl, fun h => (by cases h)⟩
theorem cdX8_workOut : Cond.code (gNm mX8_workOut) (gCode mX8_workOut) (gNL mX8_workOut) (gRet mX8_workOut) ∈ gTb := inT 317 (by decide +kernel) (by decide +kernel)
theorem imX8_workOut : Cond.instanceMethod (gNm mX8_workOut) ∈ gTb ∧ Cond.selects (gNm mX8_workOut).cls (gNm mX8_workOut) (gNm mX8_workOut) ∈ gTb := ⟨inT 316 (by decide +kernel) (by decide +kernel), inP 1 (by decide +kernel) (by decide +kernel)⟩
theorem pdX8_workOut : (gNm mX8_workOut).cls ≠ "java/lang/invoke/MethodHandle" ∧ (gNm mX8_workOut).cls ≠ "java/lang/invoke/VarHandle" ∧ (parseMethodDescriptor (gNm mX8_workOut).desc).map (fun d => d.parameters.length) = some 0 := by decide +kernel
theorem okX8_surveyChoices : gMok mX8_surveyChoices := ⟨by decide +kernel, rfl, fun h => (by cases h)⟩
theorem cdX8_surveyChoices : Cond.code (gNm mX8_surveyChoices) (gCode mX8_surveyChoices) (gNL mX8_surveyChoices) (gRet mX8_surveyChoices) ∈ gTb := inT 540 (by decide +kernel) (by decide +kernel)
theorem imX8_surveyChoices : Cond.instanceMethod (gNm mX8_surveyChoices) ∈ gTb ∧ Cond.selects (gNm mX8_surveyChoices).cls (gNm mX8_surveyChoices) (gNm mX8_surveyChoices) ∈ gTb := ⟨inT 539 (by decide +kernel) (by decide +kernel), inP 9 (by decide +kernel) (by decide +kernel)⟩
theorem pdX8_surveyChoices : (gNm mX8_surveyChoices).cls ≠ "java/lang/invoke/MethodHandle" ∧ (gNm mX8_surveyChoices).cls ≠ "java/lang/invoke/VarHandle" ∧ (parseMethodDescriptor (gNm mX8_surveyChoices).desc).map (fun d => d.parameters.length) = some 0 := by decide +kernel
theorem okX8_refusalToDraw : gMok mX8_refusalToDraw := ⟨by decide +kernel, rfl, fun h => (by cases h)⟩
theorem cdX8_refusalToDraw : Cond.code (gNm mX8_refusalToDraw) (gCode mX8_refusalToDraw) (gNL mX8_refusalToDraw) (gRet mX8_refusalToDraw) ∈ gTb := inT 432 (by decide +kernel) (by decide +kernel)
theorem imX8_refusalToDraw : Cond.instanceMethod (gNm mX8_refusalToDraw) ∈ gTb ∧ Cond.selects (gNm mX8_refusalToDraw).cls (gNm mX8_refusalToDraw) (gNm mX8_refusalToDraw) ∈ gTb := ⟨inT 431 (by decide +kernel) (by decide +kernel), inP 5 (by decide +kernel) (by decide +kernel)⟩
theorem pdX8_refusalToDraw : (gNm mX8_refusalToDraw).cls ≠ "java/lang/invoke/MethodHandle" ∧ (gNm mX8_refusalToDraw).cls ≠ "java/lang/invoke/VarHandle" ∧ (parseMethodDescriptor (gNm mX8_refusalToDraw).desc).map (fun d => d.parameters.length) = some 3 := by decide +kernel
theorem okX8_paveFrom : gMok mX8_paveFrom := ⟨by decide +kernel, rfl, fun h => (by cases h)⟩
theorem cdX8_paveFrom : Cond.code (gNm mX8_paveFrom) (gCode mX8_paveFrom) (gNL mX8_paveFrom) (gRet mX8_paveFrom) ∈ gTb := inT 440 (by decide +kernel) (by decide +kernel)
theorem imX8_paveFrom : Cond.instanceMethod (gNm mX8_paveFrom) ∈ gTb ∧ Cond.selects (gNm mX8_paveFrom).cls (gNm mX8_paveFrom) (gNm mX8_paveFrom) ∈ gTb := ⟨inT 439 (by decide +kernel) (by decide +kernel), inP 6 (by decide +kernel) (by decide +kernel)⟩
theorem pdX8_paveFrom : (gNm mX8_paveFrom).cls ≠ "java/lang/invoke/MethodHandle" ∧ (gNm mX8_paveFrom).cls ≠ "java/lang/invoke/VarHandle" ∧ (parseMethodDescriptor (gNm mX8_paveFrom).desc).map (fun d => d.parameters.length) = some 2 := by decide +kernel
theorem okX9_init : gMok mX9_init := ⟨by decide +kernel, rfl, fun _ => rfl⟩
theorem cdX9_init : Cond.code (gNm mX9_init) (gCode mX9_init) (gNL mX9_init) (gRet mX9_init) ∈ gTb := inT 761 (by decide +kernel) (by decide +kernel)
theorem imX9_init : Cond.instanceMethod (gNm mX9_init) ∈ gTb ∧ (gNm mX9_init).name = "<init>" := ⟨inT 760 (by decide +kernel) (by decide +kernel), rfl⟩
theorem pdX9_init : (gNm mX9_init).cls ≠ "java/lang/invoke/MethodHandle" ∧ (gNm mX9_init).cls ≠ "java/lang/invoke/VarHandle" ∧ (parseMethodDescriptor (gNm mX9_init).desc).map (fun d => d.parameters.length) = some 0 := by decide +kernel
theorem okX9_in : gMok mX9_in := ⟨by decide +kernel, rfl, fun h => (by cases h)⟩
theorem cdX9_in : Cond.code (gNm mX9_in) (gCode mX9_in) (gNL mX9_in) (gRet mX9_in) ∈ gTb := inT 892 (by decide +kernel) (by decide +kernel)
theorem smX9_in : Cond.static (gNm mX9_in) ∈ gTb := inT 891 (by decide +kernel) (by decide +kernel)
theorem pdX9_in : (gNm mX9_in).cls ≠ "java/lang/invoke/MethodHandle" ∧ (gNm mX9_in).cls ≠ "java/lang/invoke/VarHandle" ∧ (parseMethodDescriptor (gNm mX9_in).desc).map (fun d => d.parameters.length) = some 3 := by decide +kernel
theorem okX9_keep : gMok mX9_keep := ⟨by decide +kernel, rfl, fun h => (by cases h)⟩
theorem cdX9_keep : Cond.code (gNm mX9_keep) (gCode mX9_keep) (gNL mX9_keep) (gRet mX9_keep) ∈ gTb := inT 896 (by decide +kernel) (by decide +kernel)
theorem imX9_keep : Cond.instanceMethod (gNm mX9_keep) ∈ gTb ∧ Cond.selects (gNm mX9_keep).cls (gNm mX9_keep) (gNm mX9_keep) ∈ gTb := ⟨inT 895 (by decide +kernel) (by decide +kernel), inP 21 (by decide +kernel) (by decide +kernel)⟩
theorem pdX9_keep : (gNm mX9_keep).cls ≠ "java/lang/invoke/MethodHandle" ∧ (gNm mX9_keep).cls ≠ "java/lang/invoke/VarHandle" ∧ (parseMethodDescriptor (gNm mX9_keep).desc).map (fun d => d.parameters.length) = some 0 := by decide +kernel
theorem okX9_undo : gMok mX9_undo := ⟨by decide +kernel, rfl, fun h => (by cases h)⟩
theorem cdX9_undo : Cond.code (gNm mX9_undo) (gCode mX9_undo) (gNL mX9_undo) (gRet mX9_undo) ∈ gTb := inT 884 (by decide +kernel) (by decide +kernel)
theorem imX9_undo : Cond.instanceMethod (gNm mX9_undo) ∈ gTb ∧ Cond.selects (gNm mX9_undo).cls (gNm mX9_undo) (gNm mX9_undo) ∈ gTb := ⟨inT 882 (by decide +kernel) (by decide +kernel), inT 883 (by decide +kernel) (by decide +kernel)⟩
theorem pdX9_undo : (gNm mX9_undo).cls ≠ "java/lang/invoke/MethodHandle" ∧ (gNm mX9_undo).cls ≠ "java/lang/invoke/VarHandle" ∧ (parseMethodDescriptor (gNm mX9_undo).desc).map (fun d => d.parameters.length) = some 0 := by decide +kernel
theorem okX9_isVillage : gMok mX9_isVillage := ⟨by decide +kernel, rfl, fun h => (by cases h)⟩
theorem cdX9_isVillage : Cond.code (gNm mX9_isVillage) (gCode mX9_isVillage) (gNL mX9_isVillage) (gRet mX9_isVillage) ∈ gTb := inT 904 (by decide +kernel) (by decide +kernel)
theorem imX9_isVillage : Cond.instanceMethod (gNm mX9_isVillage) ∈ gTb ∧ Cond.selects (gNm mX9_isVillage).cls (gNm mX9_isVillage) (gNm mX9_isVillage) ∈ gTb := ⟨inT 903 (by decide +kernel) (by decide +kernel), inP 22 (by decide +kernel) (by decide +kernel)⟩
theorem pdX9_isVillage : (gNm mX9_isVillage).cls ≠ "java/lang/invoke/MethodHandle" ∧ (gNm mX9_isVillage).cls ≠ "java/lang/invoke/VarHandle" ∧ (parseMethodDescriptor (gNm mX9_isVillage).desc).map (fun d => d.parameters.length) = some 1 := by decide +kernel
theorem okX9_isPlace : gMok mX9_isPlace := ⟨by decide +kernel, rfl, fun h => (by cases h)⟩
theorem cdX9_isPlace : Cond.code (gNm mX9_isPlace) (gCode mX9_isPlace) (gNL mX9_isPlace) (gRet mX9_isPlace) ∈ gTb := inT 926 (by decide +kernel) (by decide +kernel)
theorem imX9_isPlace : Cond.instanceMethod (gNm mX9_isPlace) ∈ gTb ∧ Cond.selects (gNm mX9_isPlace).cls (gNm mX9_isPlace) (gNm mX9_isPlace) ∈ gTb := ⟨inT 925 (by decide +kernel) (by decide +kernel), inP 24 (by decide +kernel) (by decide +kernel)⟩
theorem pdX9_isPlace : (gNm mX9_isPlace).cls ≠ "java/lang/invoke/MethodHandle" ∧ (gNm mX9_isPlace).cls ≠ "java/lang/invoke/VarHandle" ∧ (parseMethodDescriptor (gNm mX9_isPlace).desc).map (fun d => d.parameters.length) = some 1 := by decide +kernel
theorem okX9_village : gMok mX9_village := ⟨by decide +kernel, rfl, fun h => (by cases h)⟩
theorem cdX9_village : Cond.code (gNm mX9_village) (gCode mX9_village) (gNL mX9_village) (gRet mX9_village) ∈ gTb := inT 888 (by decide +kernel) (by decide +kernel)
theorem imX9_village : Cond.instanceMethod (gNm mX9_village) ∈ gTb ∧ Cond.selects (gNm mX9_village).cls (gNm mX9_village) (gNm mX9_village) ∈ gTb := ⟨inT 886 (by decide +kernel) (by decide +kernel), inT 887 (by decide +kernel) (by decide +kernel)⟩
theorem pdX9_village : (gNm mX9_village).cls ≠ "java/lang/invoke/MethodHandle" ∧ (gNm mX9_village).cls ≠ "java/lang/invoke/VarHandle" ∧ (parseMethodDescriptor (gNm mX9_village).desc).map (fun d => d.parameters.length) = some 1 := by decide +kernel
theorem okX9_loaves : gMok mX9_loaves := ⟨by decide +kernel, rfl, fun h => (by cases h)⟩
theorem cdX9_loaves : Cond.code (gNm mX9_loaves) (gCode mX9_loaves) (gNL mX9_loaves) (gRet mX9_loaves) ∈ gTb := inT 900 (by decide +kernel) (by decide +kernel)
theorem imX9_loaves : Cond.instanceMethod (gNm mX9_loaves) ∈ gTb ∧ Cond.selects (gNm mX9_loaves).cls (gNm mX9_loaves) (gNm mX9_loaves) ∈ gTb := ⟨inT 898 (by decide +kernel) (by decide +kernel), inT 899 (by decide +kernel) (by decide +kernel)⟩
theorem pdX9_loaves : (gNm mX9_loaves).cls ≠ "java/lang/invoke/MethodHandle" ∧ (gNm mX9_loaves).cls ≠ "java/lang/invoke/VarHandle" ∧ (parseMethodDescriptor (gNm mX9_loaves).desc).map (fun d => d.parameters.length) = some 2 := by decide +kernel
theorem okX9_isRoad : gMok mX9_isRoad := ⟨by decide +kernel, rfl, fun h => (by cases h)⟩
theorem cdX9_isRoad : Cond.code (gNm mX9_isRoad) (gCode mX9_isRoad) (gNL mX9_isRoad) (gRet mX9_isRoad) ∈ gTb := inT 912 (by decide +kernel) (by decide +kernel)
theorem imX9_isRoad : Cond.instanceMethod (gNm mX9_isRoad) ∈ gTb ∧ Cond.selects (gNm mX9_isRoad).cls (gNm mX9_isRoad) (gNm mX9_isRoad) ∈ gTb := ⟨inT 911 (by decide +kernel) (by decide +kernel), inP 23 (by decide +kernel) (by decide +kernel)⟩
theorem pdX9_isRoad : (gNm mX9_isRoad).cls ≠ "java/lang/invoke/MethodHandle" ∧ (gNm mX9_isRoad).cls ≠ "java/lang/invoke/VarHandle" ∧ (parseMethodDescriptor (gNm mX9_isRoad).desc).map (fun d => d.parameters.length) = some 3 := by decide +kernel
theorem okX9_road : gMok mX9_road := ⟨by decide +kernel, rfl, fun h => (by cases h)⟩
theorem cdX9_road : Cond.code (gNm mX9_road) (gCode mX9_road) (gNL mX9_road) (gRet mX9_road) ∈ gTb := inT 908 (by decide +kernel) (by decide +kernel)
theorem imX9_road : Cond.instanceMethod (gNm mX9_road) ∈ gTb ∧ Cond.selects (gNm mX9_road).cls (gNm mX9_road) (gNm mX9_road) ∈ gTb := ⟨inT 906 (by decide +kernel) (by decide +kernel), inT 907 (by decide +kernel) (by decide +kernel)⟩
theorem pdX9_road : (gNm mX9_road).cls ≠ "java/lang/invoke/MethodHandle" ∧ (gNm mX9_road).cls ≠ "java/lang/invoke/VarHandle" ∧ (parseMethodDescriptor (gNm mX9_road).desc).map (fun d => d.parameters.length) = some 3 := by decide +kernel
theorem okX9_place : gMok mX9_place := ⟨by decide +kernel, rfl, fun h => (by cases h)⟩
theorem cdX9_place : Cond.code (gNm mX9_place) (gCode mX9_place) (gNL mX9_place) (gRet mX9_place) ∈ gTb := inT 916 (by decide +kernel) (by decide +kernel)
theorem imX9_place : Cond.instanceMethod (gNm mX9_place) ∈ gTb ∧ Cond.selects (gNm mX9_place).cls (gNm mX9_place) (gNm mX9_place) ∈ gTb := ⟨inT 914 (by decide +kernel) (by decide +kernel), inT 915 (by decide +kernel) (by decide +kernel)⟩
theorem pdX9_place : (gNm mX9_place).cls ≠ "java/lang/invoke/MethodHandle" ∧ (gNm mX9_place).cls ≠ "java/lang/invoke/VarHandle" ∧ (parseMethodDescriptor (gNm mX9_place).desc).map (fun d => d.parameters.length) = some 3 := by decide +kernel
theorem okX9_reach : gMok mX9_reach := ⟨by decide +kernel, rfl, fun h => (by cases h)⟩
theorem cdX9_reach : Cond.code (gNm mX9_reach) (gCode mX9_reach) (gNL mX9_reach) (gRet mX9_reach) ∈ gTb := inT 922 (by decide +kernel) (by decide +kernel)
theorem imX9_reach : Cond.instanceMethod (gNm mX9_reach) ∈ gTb ∧ Cond.selects (gNm mX9_reach).cls (gNm mX9_reach) (gNm mX9_reach) ∈ gTb := ⟨inT 920 (by decide +kernel) (by decide +kernel), inT 921 (by decide +kernel) (by decide +kernel)⟩
theorem pdX9_reach : (gNm mX9_reach).cls ≠ "java/lang/invoke/MethodHandle" ∧ (gNm mX9_reach).cls ≠ "java/lang/invoke/VarHandle" ∧ (parseMethodDescriptor (gNm mX9_reach).desc).map (fun d => d.parameters.length) = some 2 := by decide +kernel
theorem okX9_number : gMok mX9_number := ⟨by decide +kernel, rfl, fun h => (by cases h)⟩
theorem cdX9_number : Cond.code (gNm mX9_number) (gCode mX9_number) (gNL mX9_number) (gRet mX9_number) ∈ gTb := inT 931 (by decide +kernel) (by decide +kernel)
theorem imX9_number : Cond.instanceMethod (gNm mX9_number) ∈ gTb ∧ Cond.selects (gNm mX9_number).cls (gNm mX9_number) (gNm mX9_number) ∈ gTb := ⟨inT 929 (by decide +kernel) (by decide +kernel), inT 930 (by decide +kernel) (by decide +kernel)⟩
theorem pdX9_number : (gNm mX9_number).cls ≠ "java/lang/invoke/MethodHandle" ∧ (gNm mX9_number).cls ≠ "java/lang/invoke/VarHandle" ∧ (parseMethodDescriptor (gNm mX9_number).desc).map (fun d => d.parameters.length) = some 1 := by decide +kernel
theorem okX9_map : gMok mX9_map := ⟨by decide +kernel, rfl, fun h => (by cases h)⟩
theorem cdX9_map : Cond.code (gNm mX9_map) (gCode mX9_map) (gNL mX9_map) (gRet mX9_map) ∈ gTb := inT 936 (by decide +kernel) (by decide +kernel)
theorem imX9_map : Cond.instanceMethod (gNm mX9_map) ∈ gTb ∧ Cond.selects (gNm mX9_map).cls (gNm mX9_map) (gNm mX9_map) ∈ gTb := ⟨inT 934 (by decide +kernel) (by decide +kernel), inT 935 (by decide +kernel) (by decide +kernel)⟩
theorem pdX9_map : (gNm mX9_map).cls ≠ "java/lang/invoke/MethodHandle" ∧ (gNm mX9_map).cls ≠ "java/lang/invoke/VarHandle" ∧ (parseMethodDescriptor (gNm mX9_map).desc).map (fun d => d.parameters.length) = some 3 := by decide +kernel
theorem okX9_lay : gMok mX9_lay := ⟨by decide +kernel, rfl, fun h => (by cases h)⟩
theorem cdX9_lay : Cond.code (gNm mX9_lay) (gCode mX9_lay) (gNL mX9_lay) (gRet mX9_lay) ∈ gTb := inT 942 (by decide +kernel) (by decide +kernel)
theorem imX9_lay : Cond.instanceMethod (gNm mX9_lay) ∈ gTb ∧ Cond.selects (gNm mX9_lay).cls (gNm mX9_lay) (gNm mX9_lay) ∈ gTb := ⟨inT 940 (by decide +kernel) (by decide +kernel), inT 941 (by decide +kernel) (by decide +kernel)⟩
theorem pdX9_lay : (gNm mX9_lay).cls ≠ "java/lang/invoke/MethodHandle" ∧ (gNm mX9_lay).cls ≠ "java/lang/invoke/VarHandle" ∧ (parseMethodDescriptor (gNm mX9_lay).desc).map (fun d => d.parameters.length) = some 3 := by decide +kernel
theorem okX9_draw : gMok mX9_draw := ⟨by decide +kernel, rfl, fun h => (by cases h)⟩
theorem cdX9_draw : Cond.code (gNm mX9_draw) (gCode mX9_draw) (gNL mX9_draw) (gRet mX9_draw) ∈ gTb := inT 946 (by decide +kernel) (by decide +kernel)
theorem imX9_draw : Cond.instanceMethod (gNm mX9_draw) ∈ gTb ∧ Cond.selects (gNm mX9_draw).cls (gNm mX9_draw) (gNm mX9_draw) ∈ gTb := ⟨inT 944 (by decide +kernel) (by decide +kernel), inT 945 (by decide +kernel) (by decide +kernel)⟩
theorem pdX9_draw : (gNm mX9_draw).cls ≠ "java/lang/invoke/MethodHandle" ∧ (gNm mX9_draw).cls ≠ "java/lang/invoke/VarHandle" ∧ (parseMethodDescriptor (gNm mX9_draw).desc).map (fun d => d.parameters.length) = some 3 := by decide +kernel
theorem okX9_findWays : gMok mX9_findWays := ⟨by decide +kernel, rfl, fun h => (by cases h)⟩
theorem cdX9_findWays : Cond.code (gNm mX9_findWays) (gCode mX9_findWays) (gNL mX9_findWays) (gRet mX9_findWays) ∈ gTb := inT 954 (by decide +kernel) (by decide +kernel)
theorem imX9_findWays : Cond.instanceMethod (gNm mX9_findWays) ∈ gTb ∧ Cond.selects (gNm mX9_findWays).cls (gNm mX9_findWays) (gNm mX9_findWays) ∈ gTb := ⟨inT 953 (by decide +kernel) (by decide +kernel), inP 25 (by decide +kernel) (by decide +kernel)⟩
theorem pdX9_findWays : (gNm mX9_findWays).cls ≠ "java/lang/invoke/MethodHandle" ∧ (gNm mX9_findWays).cls ≠ "java/lang/invoke/VarHandle" ∧ (parseMethodDescriptor (gNm mX9_findWays).desc).map (fun d => d.parameters.length) = some 0 := by decide +kernel
theorem okX9_apart : gMok mX9_apart := ⟨by decide +kernel, rfl, fun h => (by cases h)⟩
theorem cdX9_apart : Cond.code (gNm mX9_apart) (gCode mX9_apart) (gNL mX9_apart) (gRet mX9_apart) ∈ gTb := inT 950 (by decide +kernel) (by decide +kernel)
theorem imX9_apart : Cond.instanceMethod (gNm mX9_apart) ∈ gTb ∧ Cond.selects (gNm mX9_apart).cls (gNm mX9_apart) (gNm mX9_apart) ∈ gTb := ⟨inT 948 (by decide +kernel) (by decide +kernel), inT 949 (by decide +kernel) (by decide +kernel)⟩
theorem pdX9_apart : (gNm mX9_apart).cls ≠ "java/lang/invoke/MethodHandle" ∧ (gNm mX9_apart).cls ≠ "java/lang/invoke/VarHandle" ∧ (parseMethodDescriptor (gNm mX9_apart).desc).map (fun d => d.parameters.length) = some 2 := by decide +kernel
theorem okX9_way : gMok mX9_way := ⟨by decide +kernel, rfl, fun h => (by cases h)⟩
theorem cdX9_way : Cond.code (gNm mX9_way) (gCode mX9_way) (gNL mX9_way) (gRet mX9_way) ∈ gTb := inT 958 (by decide +kernel) (by decide +kernel)
theorem imX9_way : Cond.instanceMethod (gNm mX9_way) ∈ gTb ∧ Cond.selects (gNm mX9_way).cls (gNm mX9_way) (gNm mX9_way) ∈ gTb := ⟨inT 956 (by decide +kernel) (by decide +kernel), inT 957 (by decide +kernel) (by decide +kernel)⟩
theorem pdX9_way : (gNm mX9_way).cls ≠ "java/lang/invoke/MethodHandle" ∧ (gNm mX9_way).cls ≠ "java/lang/invoke/VarHandle" ∧ (parseMethodDescriptor (gNm mX9_way).desc).map (fun d => d.parameters.length) = some 3 := by decide +kernel
theorem okX9_carried : gMok mX9_carried := ⟨by decide +kernel, rfl, fun h => (by cases h)⟩
theorem cdX9_carried : Cond.code (gNm mX9_carried) (gCode mX9_carried) (gNL mX9_carried) (gRet mX9_carried) ∈ gTb := inT 991 (by decide +kernel) (by decide +kernel)
theorem imX9_carried : Cond.instanceMethod (gNm mX9_carried) ∈ gTb ∧ Cond.selects (gNm mX9_carried).cls (gNm mX9_carried) (gNm mX9_carried) ∈ gTb := ⟨inT 990 (by decide +kernel) (by decide +kernel), inP 31 (by decide +kernel) (by decide +kernel)⟩
theorem pdX9_carried : (gNm mX9_carried).cls ≠ "java/lang/invoke/MethodHandle" ∧ (gNm mX9_carried).cls ≠ "java/lang/invoke/VarHandle" ∧ (parseMethodDescriptor (gNm mX9_carried).desc).map (fun d => d.parameters.length) = some 2 := by decide +kernel
theorem okX9_ovenCost : gMok mX9_ovenCost := ⟨by decide +kernel, rfl, fun h => (by cases h)⟩
theorem cdX9_ovenCost : Cond.code (gNm mX9_ovenCost) (gCode mX9_ovenCost) (gNL mX9_ovenCost) (gRet mX9_ovenCost) ∈ gTb := inT 983 (by decide +kernel) (by decide +kernel)
theorem imX9_ovenCost : Cond.instanceMethod (gNm mX9_ovenCost) ∈ gTb ∧ Cond.selects (gNm mX9_ovenCost).cls (gNm mX9_ovenCost) (gNm mX9_ovenCost) ∈ gTb := ⟨inT 982 (by decide +kernel) (by decide +kernel), inP 29 (by decide +kernel) (by decide +kernel)⟩
theorem pdX9_ovenCost : (gNm mX9_ovenCost).cls ≠ "java/lang/invoke/MethodHandle" ∧ (gNm mX9_ovenCost).cls ≠ "java/lang/invoke/VarHandle" ∧ (parseMethodDescriptor (gNm mX9_ovenCost).desc).map (fun d => d.parameters.length) = some 1 := by decide +kernel
theorem okX9_isChoice : gMok mX9_isChoice := ⟨by decide +kernel, rfl, fun h => (by cases h)⟩
theorem cdX9_isChoice : Cond.code (gNm mX9_isChoice) (gCode mX9_isChoice) (gNL mX9_isChoice) (gRet mX9_isChoice) ∈ gTb := inT 966 (by decide +kernel) (by decide +kernel)
theorem imX9_isChoice : Cond.instanceMethod (gNm mX9_isChoice) ∈ gTb ∧ Cond.selects (gNm mX9_isChoice).cls (gNm mX9_isChoice) (gNm mX9_isChoice) ∈ gTb := ⟨inT 965 (by decide +kernel) (by decide +kernel), inP 26 (by decide +kernel) (by decide +kernel)⟩
theorem pdX9_isChoice : (gNm mX9_isChoice).cls ≠ "java/lang/invoke/MethodHandle" ∧ (gNm mX9_isChoice).cls ≠ "java/lang/invoke/VarHandle" ∧ (parseMethodDescriptor (gNm mX9_isChoice).desc).map (fun d => d.parameters.length) = some 1 := by decide +kernel
theorem okX9_isAllowed : gMok mX9_isAllowed := ⟨by decide +kernel, rfl, fun h => (by cases h)⟩
theorem cdX9_isAllowed : Cond.code (gNm mX9_isAllowed) (gCode mX9_isAllowed) (gNL mX9_isAllowed) (gRet mX9_isAllowed) ∈ gTb := inT 970 (by decide +kernel) (by decide +kernel)
theorem imX9_isAllowed : Cond.instanceMethod (gNm mX9_isAllowed) ∈ gTb ∧ Cond.selects (gNm mX9_isAllowed).cls (gNm mX9_isAllowed) (gNm mX9_isAllowed) ∈ gTb := ⟨inT 969 (by decide +kernel) (by decide +kernel), inP 27 (by decide +kernel) (by decide +kernel)⟩
theorem pdX9_isAllowed : (gNm mX9_isAllowed).cls ≠ "java/lang/invoke/MethodHandle" ∧ (gNm mX9_isAllowed).cls ≠ "java/lang/invoke/VarHandle" ∧ (parseMethodDescriptor (gNm mX9_isAllowed).desc).map (fun d => d.parameters.length) = some 1 := by decide +kernel
theorem okX9_servedBy : gMok mX9_servedBy := ⟨by decide +kernel, rfl, fun h => (by cases h)⟩
theorem cdX9_servedBy : Cond.code (gNm mX9_servedBy) (gCode mX9_servedBy) (gNL mX9_servedBy) (gRet mX9_servedBy) ∈ gTb := inT 987 (by decide +kernel) (by decide +kernel)
theorem imX9_servedBy : Cond.instanceMethod (gNm mX9_servedBy) ∈ gTb ∧ Cond.selects (gNm mX9_servedBy).cls (gNm mX9_servedBy) (gNm mX9_servedBy) ∈ gTb := ⟨inT 986 (by decide +kernel) (by decide +kernel), inP 30 (by decide +kernel) (by decide +kernel)⟩
theorem pdX9_servedBy : (gNm mX9_servedBy).cls ≠ "java/lang/invoke/MethodHandle" ∧ (gNm mX9_servedBy).cls ≠ "java/lang/invoke/VarHandle" ∧ (parseMethodDescriptor (gNm mX9_servedBy).desc).map (fun d => d.parameters.length) = some 2 := by decide +kernel
theorem okX9_weigh : gMok mX9_weigh := ⟨by decide +kernel, rfl, fun h => (by cases h)⟩
theorem cdX9_weigh : Cond.code (gNm mX9_weigh) (gCode mX9_weigh) (gNL mX9_weigh) (gRet mX9_weigh) ∈ gTb := inT 979 (by decide +kernel) (by decide +kernel)
theorem imX9_weigh : Cond.instanceMethod (gNm mX9_weigh) ∈ gTb ∧ Cond.selects (gNm mX9_weigh).cls (gNm mX9_weigh) (gNm mX9_weigh) ∈ gTb := ⟨inT 978 (by decide +kernel) (by decide +kernel), inP 28 (by decide +kernel) (by decide +kernel)⟩
theorem pdX9_weigh : (gNm mX9_weigh).cls ≠ "java/lang/invoke/MethodHandle" ∧ (gNm mX9_weigh).cls ≠ "java/lang/invoke/VarHandle" ∧ (parseMethodDescriptor (gNm mX9_weigh).desc).map (fun d => d.parameters.length) = some 1 := by decide +kernel
theorem okX9_allowed : gMok mX9_allowed := ⟨by decide +kernel, rfl, fun h => (by cases h)⟩
theorem cdX9_allowed : Cond.code (gNm mX9_allowed) (gCode mX9_allowed) (gNL mX9_allowed) (gRet mX9_allowed) ∈ gTb := inT 962 (by decide +kernel) (by decide +kernel)
theorem imX9_allowed : Cond.instanceMethod (gNm mX9_allowed) ∈ gTb ∧ Cond.selects (gNm mX9_allowed).cls (gNm mX9_allowed) (gNm mX9_allowed) ∈ gTb := ⟨inT 960 (by decide +kernel) (by decide +kernel), inT 961 (by decide +kernel) (by decide +kernel)⟩
theorem pdX9_allowed : (gNm mX9_allowed).cls ≠ "java/lang/invoke/MethodHandle" ∧ (gNm mX9_allowed).cls ≠ "java/lang/invoke/VarHandle" ∧ (parseMethodDescriptor (gNm mX9_allowed).desc).map (fun d => d.parameters.length) = some 1 := by decide +kernel
theorem okX9_cost : gMok mX9_cost := ⟨by decide +kernel, rfl, fun h => (by cases h)⟩
theorem cdX9_cost : Cond.code (gNm mX9_cost) (gCode mX9_cost) (gNL mX9_cost) (gRet mX9_cost) ∈ gTb := inT 974 (by decide +kernel) (by decide +kernel)
theorem imX9_cost : Cond.instanceMethod (gNm mX9_cost) ∈ gTb ∧ Cond.selects (gNm mX9_cost).cls (gNm mX9_cost) (gNm mX9_cost) ∈ gTb := ⟨inT 972 (by decide +kernel) (by decide +kernel), inT 973 (by decide +kernel) (by decide +kernel)⟩
theorem pdX9_cost : (gNm mX9_cost).cls ≠ "java/lang/invoke/MethodHandle" ∧ (gNm mX9_cost).cls ≠ "java/lang/invoke/VarHandle" ∧ (parseMethodDescriptor (gNm mX9_cost).desc).map (fun d => d.parameters.length) = some 1 := by decide +kernel
theorem okX9_served : gMok mX9_served := ⟨by decide +kernel, rfl, fun h => (by cases h)⟩
theorem cdX9_served : Cond.code (gNm mX9_served) (gCode mX9_served) (gNL mX9_served) (gRet mX9_served) ∈ gTb := inT 996 (by decide +kernel) (by decide +kernel)
theorem imX9_served : Cond.instanceMethod (gNm mX9_served) ∈ gTb ∧ Cond.selects (gNm mX9_served).cls (gNm mX9_served) (gNm mX9_served) ∈ gTb := ⟨inT 994 (by decide +kernel) (by decide +kernel), inT 995 (by decide +kernel) (by decide +kernel)⟩
theorem pdX9_served : (gNm mX9_served).cls ≠ "java/lang/invoke/MethodHandle" ∧ (gNm mX9_served).cls ≠ "java/lang/invoke/VarHandle" ∧ (parseMethodDescriptor (gNm mX9_served).desc).map (fun d => d.parameters.length) = some 2 := by decide +kernel
theorem okX9_share : gMok mX9_share := ⟨by decide +kernel, rfl, fun h => (by cases h)⟩
theorem cdX9_share : Cond.code (gNm mX9_share) (gCode mX9_share) (gNL mX9_share) (gRet mX9_share) ∈ gTb := inT 1000 (by decide +kernel) (by decide +kernel)
theorem imX9_share : Cond.instanceMethod (gNm mX9_share) ∈ gTb ∧ Cond.selects (gNm mX9_share).cls (gNm mX9_share) (gNm mX9_share) ∈ gTb := ⟨inT 998 (by decide +kernel) (by decide +kernel), inT 999 (by decide +kernel) (by decide +kernel)⟩
theorem pdX9_share : (gNm mX9_share).cls ≠ "java/lang/invoke/MethodHandle" ∧ (gNm mX9_share).cls ≠ "java/lang/invoke/VarHandle" ∧ (parseMethodDescriptor (gNm mX9_share).desc).map (fun d => d.parameters.length) = some 3 := by decide +kernel
theorem okX9_find : gMok mX9_find := ⟨by decide +kernel, rfl, fun h => (by cases h)⟩
theorem cdX9_find : Cond.code (gNm mX9_find) (gCode mX9_find) (gNL mX9_find) (gRet mX9_find) ∈ gTb := inT 1008 (by decide +kernel) (by decide +kernel)
theorem imX9_find : Cond.instanceMethod (gNm mX9_find) ∈ gTb ∧ Cond.selects (gNm mX9_find).cls (gNm mX9_find) (gNm mX9_find) ∈ gTb := ⟨inT 1007 (by decide +kernel) (by decide +kernel), inP 32 (by decide +kernel) (by decide +kernel)⟩
theorem pdX9_find : (gNm mX9_find).cls ≠ "java/lang/invoke/MethodHandle" ∧ (gNm mX9_find).cls ≠ "java/lang/invoke/VarHandle" ∧ (parseMethodDescriptor (gNm mX9_find).desc).map (fun d => d.parameters.length) = some 2 := by decide +kernel
theorem okX9_least : gMok mX9_least := ⟨by decide +kernel, rfl, fun h => (by cases h)⟩
theorem cdX9_least : Cond.code (gNm mX9_least) (gCode mX9_least) (gNL mX9_least) (gRet mX9_least) ∈ gTb := inT 1004 (by decide +kernel) (by decide +kernel)
theorem imX9_least : Cond.instanceMethod (gNm mX9_least) ∈ gTb ∧ Cond.selects (gNm mX9_least).cls (gNm mX9_least) (gNm mX9_least) ∈ gTb := ⟨inT 1002 (by decide +kernel) (by decide +kernel), inT 1003 (by decide +kernel) (by decide +kernel)⟩
theorem pdX9_least : (gNm mX9_least).cls ≠ "java/lang/invoke/MethodHandle" ∧ (gNm mX9_least).cls ≠ "java/lang/invoke/VarHandle" ∧ (parseMethodDescriptor (gNm mX9_least).desc).map (fun d => d.parameters.length) = some 0 := by decide +kernel
theorem okX9_best : gMok mX9_best := ⟨by decide +kernel, rfl, fun h => (by cases h)⟩
theorem cdX9_best : Cond.code (gNm mX9_best) (gCode mX9_best) (gNL mX9_best) (gRet mX9_best) ∈ gTb := inT 1012 (by decide +kernel) (by decide +kernel)
theorem imX9_best : Cond.instanceMethod (gNm mX9_best) ∈ gTb ∧ Cond.selects (gNm mX9_best).cls (gNm mX9_best) (gNm mX9_best) ∈ gTb := ⟨inT 1010 (by decide +kernel) (by decide +kernel), inT 1011 (by decide +kernel) (by decide +kernel)⟩
theorem pdX9_best : (gNm mX9_best).cls ≠ "java/lang/invoke/MethodHandle" ∧ (gNm mX9_best).cls ≠ "java/lang/invoke/VarHandle" ∧ (parseMethodDescriptor (gNm mX9_best).desc).map (fun d => d.parameters.length) = some 0 := by decide +kernel
theorem okX9_many : gMok mX9_many := ⟨by decide +kernel, rfl, fun h => (by cases h)⟩
theorem cdX9_many : Cond.code (gNm mX9_many) (gCode mX9_many) (gNL mX9_many) (gRet mX9_many) ∈ gTb := inT 1016 (by decide +kernel) (by decide +kernel)
theorem imX9_many : Cond.instanceMethod (gNm mX9_many) ∈ gTb ∧ Cond.selects (gNm mX9_many).cls (gNm mX9_many) (gNm mX9_many) ∈ gTb := ⟨inT 1014 (by decide +kernel) (by decide +kernel), inT 1015 (by decide +kernel) (by decide +kernel)⟩
theorem pdX9_many : (gNm mX9_many).cls ≠ "java/lang/invoke/MethodHandle" ∧ (gNm mX9_many).cls ≠ "java/lang/invoke/VarHandle" ∧ (parseMethodDescriptor (gNm mX9_many).desc).map (fun d => d.parameters.length) = some 0 := by decide +kernel
theorem okX9_every : gMok mX9_every := ⟨by decide +kernel, rfl, fun h => (by cases h)⟩
theorem cdX9_every : Cond.code (gNm mX9_every) (gCode mX9_every) (gNL mX9_every) (gRet mX9_every) ∈ gTb := inT 1020 (by decide +kernel) (by decide +kernel)
theorem imX9_every : Cond.instanceMethod (gNm mX9_every) ∈ gTb ∧ Cond.selects (gNm mX9_every).cls (gNm mX9_every) (gNm mX9_every) ∈ gTb := ⟨inT 1018 (by decide +kernel) (by decide +kernel), inT 1019 (by decide +kernel) (by decide +kernel)⟩
theorem pdX9_every : (gNm mX9_every).cls ≠ "java/lang/invoke/MethodHandle" ∧ (gNm mX9_every).cls ≠ "java/lang/invoke/VarHandle" ∧ (parseMethodDescriptor (gNm mX9_every).desc).map (fun d => d.parameters.length) = some 1 := by decide +kernel
theorem okX9_second : gMok mX9_second := ⟨by decide +kernel, rfl, fun h => (by cases h)⟩
theorem cdX9_second : Cond.code (gNm mX9_second) (gCode mX9_second) (gNL mX9_second) (gRet mX9_second) ∈ gTb := inT 1024 (by decide +kernel) (by decide +kernel)
theorem imX9_second : Cond.instanceMethod (gNm mX9_second) ∈ gTb ∧ Cond.selects (gNm mX9_second).cls (gNm mX9_second) (gNm mX9_second) ∈ gTb := ⟨inT 1022 (by decide +kernel) (by decide +kernel), inT 1023 (by decide +kernel) (by decide +kernel)⟩
theorem pdX9_second : (gNm mX9_second).cls ≠ "java/lang/invoke/MethodHandle" ∧ (gNm mX9_second).cls ≠ "java/lang/invoke/VarHandle" ∧ (parseMethodDescriptor (gNm mX9_second).desc).map (fun d => d.parameters.length) = some 1 := by decide +kernel
theorem okX9_lose : gMok mX9_lose := ⟨by decide +kernel, rfl, fun h => (by cases h)⟩
theorem cdX9_lose : Cond.code (gNm mX9_lose) (gCode mX9_lose) (gNL mX9_lose) (gRet mX9_lose) ∈ gTb := inT 1028 (by decide +kernel) (by decide +kernel)
theorem imX9_lose : Cond.instanceMethod (gNm mX9_lose) ∈ gTb ∧ Cond.selects (gNm mX9_lose).cls (gNm mX9_lose) (gNm mX9_lose) ∈ gTb := ⟨inT 1026 (by decide +kernel) (by decide +kernel), inT 1027 (by decide +kernel) (by decide +kernel)⟩
theorem pdX9_lose : (gNm mX9_lose).cls ≠ "java/lang/invoke/MethodHandle" ∧ (gNm mX9_lose).cls ≠ "java/lang/invoke/VarHandle" ∧ (parseMethodDescriptor (gNm mX9_lose).desc).map (fun d => d.parameters.length) = some 1 := by decide +kernel
theorem okX9_worst : gMok mX9_worst := ⟨by decide +kernel, rfl, fun h => (by cases h)⟩
theorem cdX9_worst : Cond.code (gNm mX9_worst) (gCode mX9_worst) (gNL mX9_worst) (gRet mX9_worst) ∈ gTb := inT 1033 (by decide +kernel) (by decide +kernel)
theorem imX9_worst : Cond.instanceMethod (gNm mX9_worst) ∈ gTb ∧ Cond.selects (gNm mX9_worst).cls (gNm mX9_worst) (gNm mX9_worst) ∈ gTb := ⟨inT 1031 (by decide +kernel) (by decide +kernel), inT 1032 (by decide +kernel) (by decide +kernel)⟩
theorem pdX9_worst : (gNm mX9_worst).cls ≠ "java/lang/invoke/MethodHandle" ∧ (gNm mX9_worst).cls ≠ "java/lang/invoke/VarHandle" ∧ (parseMethodDescriptor (gNm mX9_worst).desc).map (fun d => d.parameters.length) = some 0 := by decide +kernel
theorem okX9_findNearest : gMok mX9_findNearest := ⟨by decide +kernel, rfl, fun h => (by cases h)⟩
theorem cdX9_findNearest : Cond.code (gNm mX9_findNearest) (gCode mX9_findNearest) (gNL mX9_findNearest) (gRet mX9_findNearest) ∈ gTb := inT 1042 (by decide +kernel) (by decide +kernel)
theorem imX9_findNearest : Cond.instanceMethod (gNm mX9_findNearest) ∈ gTb ∧ Cond.selects (gNm mX9_findNearest).cls (gNm mX9_findNearest) (gNm mX9_findNearest) ∈ gTb := ⟨inT 1041 (by decide +kernel) (by decide +kernel), inP 33 (by decide +kernel) (by decide +kernel)⟩
theorem pdX9_findNearest : (gNm mX9_findNearest).cls ≠ "java/lang/invoke/MethodHandle" ∧ (gNm mX9_findNearest).cls ≠ "java/lang/invoke/VarHandle" ∧ (parseMethodDescriptor (gNm mX9_findNearest).desc).map (fun d => d.parameters.length) = some 0 := by decide +kernel
theorem okX9_farthest : gMok mX9_farthest := ⟨by decide +kernel, rfl, fun h => (by cases h)⟩
theorem cdX9_farthest : Cond.code (gNm mX9_farthest) (gCode mX9_farthest) (gNL mX9_farthest) (gRet mX9_farthest) ∈ gTb := inT 1038 (by decide +kernel) (by decide +kernel)
theorem imX9_farthest : Cond.instanceMethod (gNm mX9_farthest) ∈ gTb ∧ Cond.selects (gNm mX9_farthest).cls (gNm mX9_farthest) (gNm mX9_farthest) ∈ gTb := ⟨inT 1036 (by decide +kernel) (by decide +kernel), inT 1037 (by decide +kernel) (by decide +kernel)⟩
theorem pdX9_farthest : (gNm mX9_farthest).cls ≠ "java/lang/invoke/MethodHandle" ∧ (gNm mX9_farthest).cls ≠ "java/lang/invoke/VarHandle" ∧ (parseMethodDescriptor (gNm mX9_farthest).desc).map (fun d => d.parameters.length) = some 0 := by decide +kernel
theorem okX9_nearest : gMok mX9_nearest := ⟨by decide +kernel, rfl, fun h => (by cases h)⟩
theorem cdX9_nearest : Cond.code (gNm mX9_nearest) (gCode mX9_nearest) (gNL mX9_nearest) (gRet mX9_nearest) ∈ gTb := inT 1046 (by decide +kernel) (by decide +kernel)
theorem imX9_nearest : Cond.instanceMethod (gNm mX9_nearest) ∈ gTb ∧ Cond.selects (gNm mX9_nearest).cls (gNm mX9_nearest) (gNm mX9_nearest) ∈ gTb := ⟨inT 1044 (by decide +kernel) (by decide +kernel), inT 1045 (by decide +kernel) (by decide +kernel)⟩
theorem pdX9_nearest : (gNm mX9_nearest).cls ≠ "java/lang/invoke/MethodHandle" ∧ (gNm mX9_nearest).cls ≠ "java/lang/invoke/VarHandle" ∧ (parseMethodDescriptor (gNm mX9_nearest).desc).map (fun d => d.parameters.length) = some 0 := by decide +kernel
theorem okX9_shrines : gMok mX9_shrines := ⟨by decide +kernel, rfl, fun h => (by cases h)⟩
theorem cdX9_shrines : Cond.code (gNm mX9_shrines) (gCode mX9_shrines) (gNL mX9_shrines) (gRet mX9_shrines) ∈ gTb := inT 1054 (by decide +kernel) (by decide +kernel)
theorem imX9_shrines : Cond.instanceMethod (gNm mX9_shrines) ∈ gTb ∧ Cond.selects (gNm mX9_shrines).cls (gNm mX9_shrines) (gNm mX9_shrines) ∈ gTb := ⟨inT 1053 (by decide +kernel) (by decide +kernel), inP 34 (by decide +kernel) (by decide +kernel)⟩
theorem pdX9_shrines : (gNm mX9_shrines).cls ≠ "java/lang/invoke/MethodHandle" ∧ (gNm mX9_shrines).cls ≠ "java/lang/invoke/VarHandle" ∧ (parseMethodDescriptor (gNm mX9_shrines).desc).map (fun d => d.parameters.length) = some 0 := by decide +kernel
theorem okX9_isLess : gMok mX9_isLess := ⟨by decide +kernel, rfl, fun h => (by cases h)⟩
theorem cdX9_isLess : Cond.code (gNm mX9_isLess) (gCode mX9_isLess) (gNL mX9_isLess) (gRet mX9_isLess) ∈ gTb := inT 1062 (by decide +kernel) (by decide +kernel)
theorem imX9_isLess : Cond.instanceMethod (gNm mX9_isLess) ∈ gTb ∧ Cond.selects (gNm mX9_isLess).cls (gNm mX9_isLess) (gNm mX9_isLess) ∈ gTb := ⟨inT 1061 (by decide +kernel) (by decide +kernel), inP 36 (by decide +kernel) (by decide +kernel)⟩
theorem pdX9_isLess : (gNm mX9_isLess).cls ≠ "java/lang/invoke/MethodHandle" ∧ (gNm mX9_isLess).cls ≠ "java/lang/invoke/VarHandle" ∧ (parseMethodDescriptor (gNm mX9_isLess).desc).map (fun d => d.parameters.length) = some 1 := by decide +kernel
theorem okX9_begins : gMok mX9_begins := ⟨by decide +kernel, rfl, fun h => (by cases h)⟩
theorem cdX9_begins : Cond.code (gNm mX9_begins) (gCode mX9_begins) (gNL mX9_begins) (gRet mX9_begins) ∈ gTb := inT 1058 (by decide +kernel) (by decide +kernel)
theorem imX9_begins : Cond.instanceMethod (gNm mX9_begins) ∈ gTb ∧ Cond.selects (gNm mX9_begins).cls (gNm mX9_begins) (gNm mX9_begins) ∈ gTb := ⟨inT 1057 (by decide +kernel) (by decide +kernel), inP 35 (by decide +kernel) (by decide +kernel)⟩
theorem pdX9_begins : (gNm mX9_begins).cls ≠ "java/lang/invoke/MethodHandle" ∧ (gNm mX9_begins).cls ≠ "java/lang/invoke/VarHandle" ∧ (parseMethodDescriptor (gNm mX9_begins).desc).map (fun d => d.parameters.length) = some 1 := by decide +kernel
theorem okX9_added : gMok mX9_added := ⟨by decide +kernel, rfl, fun h => (by cases h)⟩
theorem cdX9_added : Cond.code (gNm mX9_added) (gCode mX9_added) (gNL mX9_added) (gRet mX9_added) ∈ gTb := inT 1050 (by decide +kernel) (by decide +kernel)
theorem imX9_added : Cond.instanceMethod (gNm mX9_added) ∈ gTb ∧ Cond.selects (gNm mX9_added).cls (gNm mX9_added) (gNm mX9_added) ∈ gTb := ⟨inT 1048 (by decide +kernel) (by decide +kernel), inT 1049 (by decide +kernel) (by decide +kernel)⟩
theorem pdX9_added : (gNm mX9_added).cls ≠ "java/lang/invoke/MethodHandle" ∧ (gNm mX9_added).cls ≠ "java/lang/invoke/VarHandle" ∧ (parseMethodDescriptor (gNm mX9_added).desc).map (fun d => d.parameters.length) = some 0 := by decide +kernel
theorem okX9_changed : gMok mX9_changed := ⟨by decide +kernel, rfl, fun h => (by cases h)⟩
theorem cdX9_changed : Cond.code (gNm mX9_changed) (gCode mX9_changed) (gNL mX9_changed) (gRet mX9_changed) ∈ gTb := inT 1066 (by decide +kernel) (by decide +kernel)
theorem imX9_changed : Cond.instanceMethod (gNm mX9_changed) ∈ gTb ∧ Cond.selects (gNm mX9_changed).cls (gNm mX9_changed) (gNm mX9_changed) ∈ gTb := ⟨inT 1064 (by decide +kernel) (by decide +kernel), inT 1065 (by decide +kernel) (by decide +kernel)⟩
theorem pdX9_changed : (gNm mX9_changed).cls ≠ "java/lang/invoke/MethodHandle" ∧ (gNm mX9_changed).cls ≠ "java/lang/invoke/VarHandle" ∧ (parseMethodDescriptor (gNm mX9_changed).desc).map (fun d => d.parameters.length) = some 1 := by decide +kernel
theorem okX9_moves : gMok mX9_moves := ⟨by decide +kernel, rfl, fun h => (by cases h)⟩
theorem cdX9_moves : Cond.code (gNm mX9_moves) (gCode mX9_moves) (gNL mX9_moves) (gRet mX9_moves) ∈ gTb := inT 1070 (by decide +kernel) (by decide +kernel)
theorem imX9_moves : Cond.instanceMethod (gNm mX9_moves) ∈ gTb ∧ Cond.selects (gNm mX9_moves).cls (gNm mX9_moves) (gNm mX9_moves) ∈ gTb := ⟨inT 1068 (by decide +kernel) (by decide +kernel), inT 1069 (by decide +kernel) (by decide +kernel)⟩
theorem pdX9_moves : (gNm mX9_moves).cls ≠ "java/lang/invoke/MethodHandle" ∧ (gNm mX9_moves).cls ≠ "java/lang/invoke/VarHandle" ∧ (parseMethodDescriptor (gNm mX9_moves).desc).map (fun d => d.parameters.length) = some 0 := by decide +kernel
theorem okX9_price : gMok mX9_price := ⟨by decide +kernel, rfl, fun h => (by cases h)⟩
theorem cdX9_price : Cond.code (gNm mX9_price) (gCode mX9_price) (gNL mX9_price) (gRet mX9_price) ∈ gTb := inT 1074 (by decide +kernel) (by decide +kernel)
theorem imX9_price : Cond.instanceMethod (gNm mX9_price) ∈ gTb ∧ Cond.selects (gNm mX9_price).cls (gNm mX9_price) (gNm mX9_price) ∈ gTb := ⟨inT 1072 (by decide +kernel) (by decide +kernel), inT 1073 (by decide +kernel) (by decide +kernel)⟩
theorem pdX9_price : (gNm mX9_price).cls ≠ "java/lang/invoke/MethodHandle" ∧ (gNm mX9_price).cls ≠ "java/lang/invoke/VarHandle" ∧ (parseMethodDescriptor (gNm mX9_price).desc).map (fun d => d.parameters.length) = some 2 := by decide +kernel
theorem okX9_priced : gMok mX9_priced := ⟨by decide +kernel, rfl, fun h => (by cases h)⟩
theorem cdX9_priced : Cond.code (gNm mX9_priced) (gCode mX9_priced) (gNL mX9_priced) (gRet mX9_priced) ∈ gTb := inT 1079 (by decide +kernel) (by decide +kernel)
theorem imX9_priced : Cond.instanceMethod (gNm mX9_priced) ∈ gTb ∧ Cond.selects (gNm mX9_priced).cls (gNm mX9_priced) (gNm mX9_priced) ∈ gTb := ⟨inT 1077 (by decide +kernel) (by decide +kernel), inT 1078 (by decide +kernel) (by decide +kernel)⟩
theorem pdX9_priced : (gNm mX9_priced).cls ≠ "java/lang/invoke/MethodHandle" ∧ (gNm mX9_priced).cls ≠ "java/lang/invoke/VarHandle" ∧ (parseMethodDescriptor (gNm mX9_priced).desc).map (fun d => d.parameters.length) = some 1 := by decide +kernel
theorem okX9_given : gMok mX9_given := ⟨by decide +kernel, rfl, fun h => (by cases h)⟩
theorem cdX9_given : Cond.code (gNm mX9_given) (gCode mX9_given) (gNL mX9_given) (gRet mX9_given) ∈ gTb := inT 1087 (by decide +kernel) (by decide +kernel)
theorem imX9_given : Cond.instanceMethod (gNm mX9_given) ∈ gTb ∧ Cond.selects (gNm mX9_given).cls (gNm mX9_given) (gNm mX9_given) ∈ gTb := ⟨inT 1086 (by decide +kernel) (by decide +kernel), inP 37 (by decide +kernel) (by decide +kernel)⟩
theorem pdX9_given : (gNm mX9_given).cls ≠ "java/lang/invoke/MethodHandle" ∧ (gNm mX9_given).cls ≠ "java/lang/invoke/VarHandle" ∧ (parseMethodDescriptor (gNm mX9_given).desc).map (fun d => d.parameters.length) = some 2 := by decide +kernel
theorem okX9_gives : gMok mX9_gives := ⟨by decide +kernel, rfl, fun h => (by cases h)⟩
theorem cdX9_gives : Cond.code (gNm mX9_gives) (gCode mX9_gives) (gNL mX9_gives) (gRet mX9_gives) ∈ gTb := inT 1083 (by decide +kernel) (by decide +kernel)
theorem imX9_gives : Cond.instanceMethod (gNm mX9_gives) ∈ gTb ∧ Cond.selects (gNm mX9_gives).cls (gNm mX9_gives) (gNm mX9_gives) ∈ gTb := ⟨inT 1081 (by decide +kernel) (by decide +kernel), inT 1082 (by decide +kernel) (by decide +kernel)⟩
theorem pdX9_gives : (gNm mX9_gives).cls ≠ "java/lang/invoke/MethodHandle" ∧ (gNm mX9_gives).cls ≠ "java/lang/invoke/VarHandle" ∧ (parseMethodDescriptor (gNm mX9_gives).desc).map (fun d => d.parameters.length) = some 2 := by decide +kernel
theorem okX9_worthOf : gMok mX9_worthOf := ⟨by decide +kernel, rfl, fun h => (by cases h)⟩
theorem cdX9_worthOf : Cond.code (gNm mX9_worthOf) (gCode mX9_worthOf) (gNL mX9_worthOf) (gRet mX9_worthOf) ∈ gTb := inT 1095 (by decide +kernel) (by decide +kernel)
theorem imX9_worthOf : Cond.instanceMethod (gNm mX9_worthOf) ∈ gTb ∧ Cond.selects (gNm mX9_worthOf).cls (gNm mX9_worthOf) (gNm mX9_worthOf) ∈ gTb := ⟨inT 1094 (by decide +kernel) (by decide +kernel), inP 38 (by decide +kernel) (by decide +kernel)⟩
theorem pdX9_worthOf : (gNm mX9_worthOf).cls ≠ "java/lang/invoke/MethodHandle" ∧ (gNm mX9_worthOf).cls ≠ "java/lang/invoke/VarHandle" ∧ (parseMethodDescriptor (gNm mX9_worthOf).desc).map (fun d => d.parameters.length) = some 1 := by decide +kernel
theorem okX9_worth : gMok mX9_worth := ⟨by decide +kernel, rfl, fun h => (by cases h)⟩
theorem cdX9_worth : Cond.code (gNm mX9_worth) (gCode mX9_worth) (gNL mX9_worth) (gRet mX9_worth) ∈ gTb := inT 1091 (by decide +kernel) (by decide +kernel)
theorem imX9_worth : Cond.instanceMethod (gNm mX9_worth) ∈ gTb ∧ Cond.selects (gNm mX9_worth).cls (gNm mX9_worth) (gNm mX9_worth) ∈ gTb := ⟨inT 1089 (by decide +kernel) (by decide +kernel), inT 1090 (by decide +kernel) (by decide +kernel)⟩
theorem pdX9_worth : (gNm mX9_worth).cls ≠ "java/lang/invoke/MethodHandle" ∧ (gNm mX9_worth).cls ≠ "java/lang/invoke/VarHandle" ∧ (parseMethodDescriptor (gNm mX9_worth).desc).map (fun d => d.parameters.length) = some 1 := by decide +kernel
theorem okX9_findRichest : gMok mX9_findRichest := ⟨by decide +kernel, rfl, fun h => (by cases h)⟩
theorem cdX9_findRichest : Cond.code (gNm mX9_findRichest) (gCode mX9_findRichest) (gNL mX9_findRichest) (gRet mX9_findRichest) ∈ gTb := inT 1107 (by decide +kernel) (by decide +kernel)
theorem imX9_findRichest : Cond.instanceMethod (gNm mX9_findRichest) ∈ gTb ∧ Cond.selects (gNm mX9_findRichest).cls (gNm mX9_findRichest) (gNm mX9_findRichest) ∈ gTb := ⟨inT 1106 (by decide +kernel) (by decide +kernel), inP 40 (by decide +kernel) (by decide +kernel)⟩
theorem pdX9_findRichest : (gNm mX9_findRichest).cls ≠ "java/lang/invoke/MethodHandle" ∧ (gNm mX9_findRichest).cls ≠ "java/lang/invoke/VarHandle" ∧ (parseMethodDescriptor (gNm mX9_findRichest).desc).map (fun d => d.parameters.length) = some 0 := by decide +kernel
theorem okX9_boundNow : gMok mX9_boundNow := ⟨by decide +kernel, rfl, fun h => (by cases h)⟩
theorem cdX9_boundNow : Cond.code (gNm mX9_boundNow) (gCode mX9_boundNow) (gNL mX9_boundNow) (gRet mX9_boundNow) ∈ gTb := inT 1103 (by decide +kernel) (by decide +kernel)
theorem imX9_boundNow : Cond.instanceMethod (gNm mX9_boundNow) ∈ gTb ∧ Cond.selects (gNm mX9_boundNow).cls (gNm mX9_boundNow) (gNm mX9_boundNow) ∈ gTb := ⟨inT 1102 (by decide +kernel) (by decide +kernel), inP 39 (by decide +kernel) (by decide +kernel)⟩
theorem pdX9_boundNow : (gNm mX9_boundNow).cls ≠ "java/lang/invoke/MethodHandle" ∧ (gNm mX9_boundNow).cls ≠ "java/lang/invoke/VarHandle" ∧ (parseMethodDescriptor (gNm mX9_boundNow).desc).map (fun d => d.parameters.length) = some 0 := by decide +kernel
theorem okX9_bound : gMok mX9_bound := ⟨by decide +kernel, rfl, fun h => (by cases h)⟩
theorem cdX9_bound : Cond.code (gNm mX9_bound) (gCode mX9_bound) (gNL mX9_bound) (gRet mX9_bound) ∈ gTb := inT 1099 (by decide +kernel) (by decide +kernel)
theorem imX9_bound : Cond.instanceMethod (gNm mX9_bound) ∈ gTb ∧ Cond.selects (gNm mX9_bound).cls (gNm mX9_bound) (gNm mX9_bound) ∈ gTb := ⟨inT 1097 (by decide +kernel) (by decide +kernel), inT 1098 (by decide +kernel) (by decide +kernel)⟩
theorem pdX9_bound : (gNm mX9_bound).cls ≠ "java/lang/invoke/MethodHandle" ∧ (gNm mX9_bound).cls ≠ "java/lang/invoke/VarHandle" ∧ (parseMethodDescriptor (gNm mX9_bound).desc).map (fun d => d.parameters.length) = some 0 := by decide +kernel
theorem okX9_climb : gMok mX9_climb := ⟨by decide +kernel, rfl, fun h => (by cases h)⟩
theorem cdX9_climb : Cond.code (gNm mX9_climb) (gCode mX9_climb) (gNL mX9_climb) (gRet mX9_climb) ∈ gTb := inT 1111 (by decide +kernel) (by decide +kernel)
theorem imX9_climb : Cond.instanceMethod (gNm mX9_climb) ∈ gTb ∧ Cond.selects (gNm mX9_climb).cls (gNm mX9_climb) (gNm mX9_climb) ∈ gTb := ⟨inT 1109 (by decide +kernel) (by decide +kernel), inT 1110 (by decide +kernel) (by decide +kernel)⟩
theorem pdX9_climb : (gNm mX9_climb).cls ≠ "java/lang/invoke/MethodHandle" ∧ (gNm mX9_climb).cls ≠ "java/lang/invoke/VarHandle" ∧ (parseMethodDescriptor (gNm mX9_climb).desc).map (fun d => d.parameters.length) = some 2 := by decide +kernel
theorem okX9_highest : gMok mX9_highest := ⟨by decide +kernel, rfl, fun h => (by cases h)⟩
theorem cdX9_highest : Cond.code (gNm mX9_highest) (gCode mX9_highest) (gNL mX9_highest) (gRet mX9_highest) ∈ gTb := inT 1116 (by decide +kernel) (by decide +kernel)
theorem imX9_highest : Cond.instanceMethod (gNm mX9_highest) ∈ gTb ∧ Cond.selects (gNm mX9_highest).cls (gNm mX9_highest) (gNm mX9_highest) ∈ gTb := ⟨inT 1114 (by decide +kernel) (by decide +kernel), inT 1115 (by decide +kernel) (by decide +kernel)⟩
theorem pdX9_highest : (gNm mX9_highest).cls ≠ "java/lang/invoke/MethodHandle" ∧ (gNm mX9_highest).cls ≠ "java/lang/invoke/VarHandle" ∧ (parseMethodDescriptor (gNm mX9_highest).desc).map (fun d => d.parameters.length) = some 0 := by decide +kernel
theorem okX9_count : gMok mX9_count := ⟨by decide +kernel, rfl, fun h => (by cases h)⟩
theorem cdX9_count : Cond.code (gNm mX9_count) (gCode mX9_count) (gNL mX9_count) (gRet mX9_count) ∈ gTb := inT 1120 (by decide +kernel) (by decide +kernel)
theorem imX9_count : Cond.instanceMethod (gNm mX9_count) ∈ gTb ∧ Cond.selects (gNm mX9_count).cls (gNm mX9_count) (gNm mX9_count) ∈ gTb := ⟨inT 1118 (by decide +kernel) (by decide +kernel), inT 1119 (by decide +kernel) (by decide +kernel)⟩
theorem pdX9_count : (gNm mX9_count).cls ≠ "java/lang/invoke/MethodHandle" ∧ (gNm mX9_count).cls ≠ "java/lang/invoke/VarHandle" ∧ (parseMethodDescriptor (gNm mX9_count).desc).map (fun d => d.parameters.length) = some 1 := by decide +kernel
theorem okJ6_bitCount_0f7a4 : gMok mJ6_bitCount_0f7a4 := ⟨by decide +kernel, rfl, fun h => (by cases h)⟩
theorem cdJ6_bitCount_0f7a4 : Cond.code (gNm mJ6_bitCount_0f7a4) (gCode mJ6_bitCount_0f7a4) (gNL mJ6_bitCount_0f7a4) (gRet mJ6_bitCount_0f7a4) ∈ gTb := inT 473 (by decide +kernel) (by decide +kernel)
theorem smJ6_bitCount_0f7a4 : Cond.static (gNm mJ6_bitCount_0f7a4) ∈ gTb := inT 472 (by decide +kernel) (by decide +kernel)
theorem pdJ6_bitCount_0f7a4 : (gNm mJ6_bitCount_0f7a4).cls ≠ "java/lang/invoke/MethodHandle" ∧ (gNm mJ6_bitCount_0f7a4).cls ≠ "java/lang/invoke/VarHandle" ∧ (parseMethodDescriptor (gNm mJ6_bitCount_0f7a4).desc).map (fun d => d.parameters.length) = some 1 := by decide +kernel
theorem cdJ9_max_7cf53 : Cond.code (gNm mJ9_max_7cf53) (gCode mJ9_max_7cf53) (gNL mJ9_max_7cf53) (gRet mJ9_max_7cf53) ∈ gTb := inT 532 (by decide +kernel) (by decide +kernel)
theorem smJ9_max_7cf53 : Cond.static (gNm mJ9_max_7cf53) ∈ gTb := inT 531 (by decide +kernel) (by decide +kernel)
theorem pdJ9_max_7cf53 : (gNm mJ9_max_7cf53).cls ≠ "java/lang/invoke/MethodHandle" ∧ (gNm mJ9_max_7cf53).cls ≠ "java/lang/invoke/VarHandle" ∧ (parseMethodDescriptor (gNm mJ9_max_7cf53).desc).map (fun d => d.parameters.length) = some 2 := by decide +kernel
theorem cdJ9_max_f86c9 : Cond.code (gNm mJ9_max_f86c9) (gCode mJ9_max_f86c9) (gNL mJ9_max_f86c9) (gRet mJ9_max_f86c9) ∈ gTb := inT 673 (by decide +kernel) (by decide +kernel)
theorem smJ9_max_f86c9 : Cond.static (gNm mJ9_max_f86c9) ∈ gTb := inT 672 (by decide +kernel) (by decide +kernel)
theorem pdJ9_max_f86c9 : (gNm mJ9_max_f86c9).cls ≠ "java/lang/invoke/MethodHandle" ∧ (gNm mJ9_max_f86c9).cls ≠ "java/lang/invoke/VarHandle" ∧ (parseMethodDescriptor (gNm mJ9_max_f86c9).desc).map (fun d => d.parameters.length) = some 2 := by decide +kernel
theorem cdJ9_min_7cf53 : Cond.code (gNm mJ9_min_7cf53) (gCode mJ9_min_7cf53) (gNL mJ9_min_7cf53) (gRet mJ9_min_7cf53) ∈ gTb := inT 313 (by decide +kernel) (by decide +kernel)
theorem smJ9_min_7cf53 : Cond.static (gNm mJ9_min_7cf53) ∈ gTb := inT 312 (by decide +kernel) (by decide +kernel)
theorem pdJ9_min_7cf53 : (gNm mJ9_min_7cf53).cls ≠ "java/lang/invoke/MethodHandle" ∧ (gNm mJ9_min_7cf53).cls ≠ "java/lang/invoke/VarHandle" ∧ (parseMethodDescriptor (gNm mJ9_min_7cf53).desc).map (fun d => d.parameters.length) = some 2 := by decide +kernel
theorem cdJ9_min_f86c9 : Cond.code (gNm mJ9_min_f86c9) (gCode mJ9_min_f86c9) (gNL mJ9_min_f86c9) (gRet mJ9_min_f86c9) ∈ gTb := inT 565 (by decide +kernel) (by decide +kernel)
theorem smJ9_min_f86c9 : Cond.static (gNm mJ9_min_f86c9) ∈ gTb := inT 564 (by decide +kernel) (by decide +kernel)
theorem pdJ9_min_f86c9 : (gNm mJ9_min_f86c9).cls ≠ "java/lang/invoke/MethodHandle" ∧ (gNm mJ9_min_f86c9).cls ≠ "java/lang/invoke/VarHandle" ∧ (parseMethodDescriptor (gNm mJ9_min_f86c9).desc).map (fun d => d.parameters.length) = some 2 := by decide +kernel
theorem iniX8 : Cond.initialized RX8 ∈ gTb := inT 1 (by decide +kernel) (by decide +kernel)
theorem iniX0 : Cond.initialized RX0 ∈ gTb := inT 7 (by decide +kernel) (by decide +kernel)
theorem iniX1 : Cond.initialized RX1 ∈ gTb := inT 9 (by decide +kernel) (by decide +kernel)
theorem iniX2 : Cond.initialized RX2 ∈ gTb := inT 3 (by decide +kernel) (by decide +kernel)
theorem iniX3 : Cond.initialized RX3 ∈ gTb := inT 5 (by decide +kernel) (by decide +kernel)
theorem iniX4 : Cond.initialized RX4 ∈ gTb := inT 8 (by decide +kernel) (by decide +kernel)
theorem iniX5 : Cond.initialized RX5 ∈ gTb := inT 6 (by decide +kernel) (by decide +kernel)
theorem iniX6 : Cond.initialized RX6 ∈ gTb := inT 2 (by decide +kernel) (by decide +kernel)
theorem iniX7 : Cond.initialized RX7 ∈ gTb := inT 4 (by decide +kernel) (by decide +kernel)
theorem iniX9 : Cond.initialized RX9 ∈ gTb := inT 10 (by decide +kernel) (by decide +kernel)
theorem iniJ6 : Cond.initialized RJ6 ∈ gTb := inT 13 (by decide +kernel) (by decide +kernel)
theorem iniJ9 : Cond.initialized RJ9 ∈ gTb := inT 12 (by decide +kernel) (by decide +kernel)
theorem iniSys : Cond.initialized "java/lang/System" ∈ gTb := inT 11 (by decide +kernel) (by decide +kernel)
theorem ac_int : Cond.arrayClass .int ∈ gTb := inT 76 (by decide +kernel) (by decide +kernel)
theorem ac_long : Cond.arrayClass .long ∈ gTb := inT 178 (by decide +kernel) (by decide +kernel)
theorem faX6_9 : gFa RX6 9 6 0 0 := ⟨(RX6, TX6, 9), rfl, by decide, uwX6, inT 28 (by decide +kernel) (by decide +kernel), rfl⟩
theorem fpX6_9 : gFp RX6 9 6 0 0 false := ⟨(RX6, TX6, 9), tyX6, rfl, by decide, uwX6, inT 28 (by decide +kernel) (by decide +kernel), rfl, tyX6_ok, nmX6, rfl, rfl, fun h => (by cases h), by decide⟩
theorem faX8_83 : gFa RX8 83 6 0 0 := ⟨(RX6, TX6, 9), rfl, by decide, uwX6, inT 29 (by decide +kernel) (by decide +kernel), rfl⟩
theorem faX3_35 : gFa RX3 35 6 0 0 := ⟨(RX6, TX6, 9), rfl, by decide, uwX6, inT 30 (by decide +kernel) (by decide +kernel), rfl⟩
theorem faX7_19 : gFa RX7 19 6 0 0 := ⟨(RX6, TX6, 9), rfl, by decide, uwX6, inT 31 (by decide +kernel) (by decide +kernel), rfl⟩
theorem faX4_57 : gFa RX4 57 6 0 0 := ⟨(RX6, TX6, 9), rfl, by decide, uwX6, inT 32 (by decide +kernel) (by decide +kernel), rfl⟩
theorem faX6_15 : gFa RX6 15 6 1 0 := ⟨(RX6, TX6, 9), rfl, by decide, uwX6, inT 33 (by decide +kernel) (by decide +kernel), rfl⟩
theorem fpX6_15 : gFp RX6 15 6 1 0 false := ⟨(RX6, TX6, 9), tyX6, rfl, by decide, uwX6, inT 33 (by decide +kernel) (by decide +kernel), rfl, tyX6_ok, nmX6, rfl, rfl, fun h => (by cases h), by decide⟩
theorem faX5_24 : gFa RX5 24 6 1 0 := ⟨(RX6, TX6, 9), rfl, by decide, uwX6, inT 34 (by decide +kernel) (by decide +kernel), rfl⟩
theorem faX3_32 : gFa RX3 32 6 1 0 := ⟨(RX6, TX6, 9), rfl, by decide, uwX6, inT 35 (by decide +kernel) (by decide +kernel), rfl⟩
theorem faX0_46 : gFa RX0 46 6 1 0 := ⟨(RX6, TX6, 9), rfl, by decide, uwX6, inT 36 (by decide +kernel) (by decide +kernel), rfl⟩
theorem faX4_67 : gFa RX4 67 6 1 0 := ⟨(RX6, TX6, 9), rfl, by decide, uwX6, inT 37 (by decide +kernel) (by decide +kernel), rfl⟩
theorem faX8_120 : gFa RX8 120 6 1 0 := ⟨(RX6, TX6, 9), rfl, by decide, uwX6, inT 38 (by decide +kernel) (by decide +kernel), rfl⟩
theorem faX6_18 : gFa RX6 18 6 2 0 := ⟨(RX6, TX6, 9), rfl, by decide, uwX6, inT 39 (by decide +kernel) (by decide +kernel), rfl⟩
theorem fpX6_18 : gFp RX6 18 6 2 0 false := ⟨(RX6, TX6, 9), tyX6, rfl, by decide, uwX6, inT 39 (by decide +kernel) (by decide +kernel), rfl, tyX6_ok, nmX6, rfl, rfl, fun h => (by cases h), by decide⟩
theorem faX3_62 : gFa RX3 62 6 2 0 := ⟨(RX6, TX6, 9), rfl, by decide, uwX6, inT 40 (by decide +kernel) (by decide +kernel), rfl⟩
theorem faX8_141 : gFa RX8 141 6 2 0 := ⟨(RX6, TX6, 9), rfl, by decide, uwX6, inT 41 (by decide +kernel) (by decide +kernel), rfl⟩
theorem fpX8_141 : gFp RX8 141 6 2 0 false := ⟨(RX6, TX6, 9), tyX6, rfl, by decide, uwX6, inT 41 (by decide +kernel) (by decide +kernel), rfl, tyX6_ok, nmX6, rfl, rfl, fun h => (by cases h), by decide⟩
theorem faX6_21 : gFa RX6 21 6 3 2 := ⟨(RX6, TX6, 9), rfl, by decide, uwX6, inT 42 (by decide +kernel) (by decide +kernel), rfl⟩
theorem fpX6_21 : gFp RX6 21 6 3 2 true := ⟨(RX6, TX6, 9), tyX6, rfl, by decide, uwX6, inT 42 (by decide +kernel) (by decide +kernel), rfl, tyX6_ok, nmX6, Or.inr ⟨_, rfl⟩, rfl, fun _ => rfl, by decide⟩
theorem faX4_40 : gFa RX4 40 6 3 2 := ⟨(RX6, TX6, 9), rfl, by decide, uwX6, inT 43 (by decide +kernel) (by decide +kernel), rfl⟩
theorem faX8_101 : gFa RX8 101 6 3 2 := ⟨(RX6, TX6, 9), rfl, by decide, uwX6, inT 44 (by decide +kernel) (by decide +kernel), rfl⟩
theorem faX3_75 : gFa RX3 75 6 3 2 := ⟨(RX6, TX6, 9), rfl, by decide, uwX6, inT 45 (by decide +kernel) (by decide +kernel), rfl⟩
theorem faX6_25 : gFa RX6 25 6 4 2 := ⟨(RX6, TX6, 9), rfl, by decide, uwX6, inT 46 (by decide +kernel) (by decide +kernel), rfl⟩
theorem fpX6_25 : gFp RX6 25 6 4 2 true := ⟨(RX6, TX6, 9), tyX6, rfl, by decide, uwX6, inT 46 (by decide +kernel) (by decide +kernel), rfl, tyX6_ok, nmX6, Or.inr ⟨_, rfl⟩, rfl, fun _ => rfl, by decide⟩
theorem faX6_28 : gFa RX6 28 6 5 2 := ⟨(RX6, TX6, 9), rfl, by decide, uwX6, inT 47 (by decide +kernel) (by decide +kernel), rfl⟩
theorem fpX6_28 : gFp RX6 28 6 5 2 true := ⟨(RX6, TX6, 9), tyX6, rfl, by decide, uwX6, inT 47 (by decide +kernel) (by decide +kernel), rfl, tyX6_ok, nmX6, Or.inr ⟨_, rfl⟩, rfl, fun _ => rfl, by decide⟩
theorem faX3_38 : gFa RX3 38 6 5 2 := ⟨(RX6, TX6, 9), rfl, by decide, uwX6, inT 48 (by decide +kernel) (by decide +kernel), rfl⟩
theorem faX6_31 : gFa RX6 31 6 6 2 := ⟨(RX6, TX6, 9), rfl, by decide, uwX6, inT 49 (by decide +kernel) (by decide +kernel), rfl⟩
theorem fpX6_31 : gFp RX6 31 6 6 2 true := ⟨(RX6, TX6, 9), tyX6, rfl, by decide, uwX6, inT 49 (by decide +kernel) (by decide +kernel), rfl, tyX6_ok, nmX6, Or.inr ⟨_, rfl⟩, rfl, fun _ => rfl, by decide⟩
theorem faX3_51 : gFa RX3 51 6 6 2 := ⟨(RX6, TX6, 9), rfl, by decide, uwX6, inT 50 (by decide +kernel) (by decide +kernel), rfl⟩
theorem faX8_133 : gFa RX8 133 6 6 2 := ⟨(RX6, TX6, 9), rfl, by decide, uwX6, inT 51 (by decide +kernel) (by decide +kernel), rfl⟩
theorem faX5_98 : gFa RX5 98 6 6 2 := ⟨(RX6, TX6, 9), rfl, by decide, uwX6, inT 52 (by decide +kernel) (by decide +kernel), rfl⟩
theorem faX6_34 : gFa RX6 34 6 7 2 := ⟨(RX6, TX6, 9), rfl, by decide, uwX6, inT 53 (by decide +kernel) (by decide +kernel), rfl⟩
theorem fpX6_34 : gFp RX6 34 6 7 2 true := ⟨(RX6, TX6, 9), tyX6, rfl, by decide, uwX6, inT 53 (by decide +kernel) (by decide +kernel), rfl, tyX6_ok, nmX6, Or.inr ⟨_, rfl⟩, rfl, fun _ => rfl, by decide⟩
theorem faX6_37 : gFa RX6 37 6 8 2 := ⟨(RX6, TX6, 9), rfl, by decide, uwX6, inT 54 (by decide +kernel) (by decide +kernel), rfl⟩
theorem fpX6_37 : gFp RX6 37 6 8 2 true := ⟨(RX6, TX6, 9), tyX6, rfl, by decide, uwX6, inT 54 (by decide +kernel) (by decide +kernel), rfl, tyX6_ok, nmX6, Or.inr ⟨_, rfl⟩, rfl, fun _ => rfl, by decide⟩
theorem faX3_54 : gFa RX3 54 6 8 2 := ⟨(RX6, TX6, 9), rfl, by decide, uwX6, inT 55 (by decide +kernel) (by decide +kernel), rfl⟩
theorem faX8_136 : gFa RX8 136 6 8 2 := ⟨(RX6, TX6, 9), rfl, by decide, uwX6, inT 56 (by decide +kernel) (by decide +kernel), rfl⟩
theorem faX2_13 : gFa RX2 13 2 0 2 := ⟨(RX2, TX2, 3), rfl, by decide, uwX2, inT 86 (by decide +kernel) (by decide +kernel), rfl⟩
theorem fpX2_13 : gFp RX2 13 2 0 2 true := ⟨(RX2, TX2, 3), tyX2, rfl, by decide, uwX2, inT 86 (by decide +kernel) (by decide +kernel), rfl, tyX2_ok, nmX2, Or.inr ⟨_, rfl⟩, rfl, fun _ => rfl, by decide⟩
theorem faX2_17 : gFa RX2 17 2 1 0 := ⟨(RX2, TX2, 3), rfl, by decide, uwX2, inT 87 (by decide +kernel) (by decide +kernel), rfl⟩
theorem fpX2_17 : gFp RX2 17 2 1 0 false := ⟨(RX2, TX2, 3), tyX2, rfl, by decide, uwX2, inT 87 (by decide +kernel) (by decide +kernel), rfl, tyX2_ok, nmX2, rfl, rfl, fun h => (by cases h), by decide⟩
theorem faX2_21 : gFa RX2 21 2 2 0 := ⟨(RX2, TX2, 3), rfl, by decide, uwX2, inT 88 (by decide +kernel) (by decide +kernel), rfl⟩
theorem fpX2_21 : gFp RX2 21 2 2 0 false := ⟨(RX2, TX2, 3), tyX2, rfl, by decide, uwX2, inT 88 (by decide +kernel) (by decide +kernel), rfl, tyX2_ok, nmX2, rfl, rfl, fun h => (by cases h), by decide⟩
theorem faX8_297 : gFa RX8 297 2 2 0 := ⟨(RX2, TX2, 3), rfl, by decide, uwX2, inT 89 (by decide +kernel) (by decide +kernel), rfl⟩
theorem faX7_9 : gFa RX7 9 7 0 2 := ⟨(RX7, TX7, 1), rfl, by decide, uwX7, inT 105 (by decide +kernel) (by decide +kernel), rfl⟩
theorem fpX7_9 : gFp RX7 9 7 0 2 true := ⟨(RX7, TX7, 1), tyX7, rfl, by decide, uwX7, inT 105 (by decide +kernel) (by decide +kernel), rfl, tyX7_ok, nmX7, Or.inr ⟨_, rfl⟩, rfl, fun _ => rfl, by decide⟩
theorem faX3_22 : gFa RX3 22 3 0 2 := ⟨(RX3, TX3, 4), rfl, by decide, uwX3, inT 115 (by decide +kernel) (by decide +kernel), rfl⟩
theorem fpX3_22 : gFp RX3 22 3 0 2 true := ⟨(RX3, TX3, 4), tyX3, rfl, by decide, uwX3, inT 115 (by decide +kernel) (by decide +kernel), rfl, tyX3_ok, nmX3, Or.inl ⟨_, rfl⟩, rfl, fun _ => rfl, by decide⟩
theorem faX5_18 : gFa RX5 18 3 0 2 := ⟨(RX3, TX3, 4), rfl, by decide, uwX3, inT 116 (by decide +kernel) (by decide +kernel), rfl⟩
theorem faX0_42 : gFa RX0 42 3 0 2 := ⟨(RX3, TX3, 4), rfl, by decide, uwX3, inT 117 (by decide +kernel) (by decide +kernel), rfl⟩
theorem faX3_9 : gFa RX3 9 3 1 2 := ⟨(RX3, TX3, 4), rfl, by decide, uwX3, inT 118 (by decide +kernel) (by decide +kernel), rfl⟩
theorem fpX3_9 : gFp RX3 9 3 1 2 true := ⟨(RX3, TX3, 4), tyX3, rfl, by decide, uwX3, inT 118 (by decide +kernel) (by decide +kernel), rfl, tyX3_ok, nmX3, Or.inr ⟨_, rfl⟩, rfl, fun _ => rfl, by decide⟩
theorem faX3_15 : gFa RX3 15 3 2 0 := ⟨(RX3, TX3, 4), rfl, by decide, uwX3, inT 119 (by decide +kernel) (by decide +kernel), rfl⟩
theorem fpX3_15 : gFp RX3 15 3 2 0 false := ⟨(RX3, TX3, 4), tyX3, rfl, by decide, uwX3, inT 119 (by decide +kernel) (by decide +kernel), rfl, tyX3_ok, nmX3, rfl, rfl, fun h => (by cases h), by decide⟩
theorem faX0_26 : gFa RX0 26 3 2 0 := ⟨(RX3, TX3, 4), rfl, by decide, uwX3, inT 120 (by decide +kernel) (by decide +kernel), rfl⟩
theorem faX8_254 : gFa RX8 254 3 2 0 := ⟨(RX3, TX3, 4), rfl, by decide, uwX3, inT 121 (by decide +kernel) (by decide +kernel), rfl⟩
theorem faX3_19 : gFa RX3 19 3 3 0 := ⟨(RX3, TX3, 4), rfl, by decide, uwX3, inT 122 (by decide +kernel) (by decide +kernel), rfl⟩
theorem fpX3_19 : gFp RX3 19 3 3 0 false := ⟨(RX3, TX3, 4), tyX3, rfl, by decide, uwX3, inT 122 (by decide +kernel) (by decide +kernel), rfl, tyX3_ok, nmX3, rfl, rfl, fun h => (by cases h), by decide⟩
theorem faX5_57 : gFa RX5 57 5 0 1 := ⟨(RX5, TX5, 10), rfl, by decide, uwX5, inT 138 (by decide +kernel) (by decide +kernel), rfl⟩
theorem fpX5_57 : gFp RX5 57 5 0 1 false := ⟨(RX5, TX5, 10), tyX5, rfl, by decide, uwX5, inT 138 (by decide +kernel) (by decide +kernel), rfl, tyX5_ok, nmX5, rfl, rfl, fun h => (by cases h), by decide⟩
theorem faX8_220 : gFa RX8 220 5 0 1 := ⟨(RX5, TX5, 10), rfl, by decide, uwX5, inT 139 (by decide +kernel) (by decide +kernel), rfl⟩
theorem faX5_61 : gFa RX5 61 5 1 0 := ⟨(RX5, TX5, 10), rfl, by decide, uwX5, inT 140 (by decide +kernel) (by decide +kernel), rfl⟩
theorem fpX5_61 : gFp RX5 61 5 1 0 false := ⟨(RX5, TX5, 10), tyX5, rfl, by decide, uwX5, inT 140 (by decide +kernel) (by decide +kernel), rfl, tyX5_ok, nmX5, rfl, rfl, fun h => (by cases h), by decide⟩
theorem faX8_224 : gFa RX8 224 5 1 0 := ⟨(RX5, TX5, 10), rfl, by decide, uwX5, inT 141 (by decide +kernel) (by decide +kernel), rfl⟩
theorem faX5_64 : gFa RX5 64 5 2 0 := ⟨(RX5, TX5, 10), rfl, by decide, uwX5, inT 142 (by decide +kernel) (by decide +kernel), rfl⟩
theorem fpX5_64 : gFp RX5 64 5 2 0 false := ⟨(RX5, TX5, 10), tyX5, rfl, by decide, uwX5, inT 142 (by decide +kernel) (by decide +kernel), rfl, tyX5_ok, nmX5, rfl, rfl, fun h => (by cases h), by decide⟩
theorem faX8_217 : gFa RX8 217 5 2 0 := ⟨(RX5, TX5, 10), rfl, by decide, uwX5, inT 143 (by decide +kernel) (by decide +kernel), rfl⟩
theorem faX5_67 : gFa RX5 67 5 3 0 := ⟨(RX5, TX5, 10), rfl, by decide, uwX5, inT 144 (by decide +kernel) (by decide +kernel), rfl⟩
theorem fpX5_67 : gFp RX5 67 5 3 0 false := ⟨(RX5, TX5, 10), tyX5, rfl, by decide, uwX5, inT 144 (by decide +kernel) (by decide +kernel), rfl, tyX5_ok, nmX5, rfl, rfl, fun h => (by cases h), by decide⟩
theorem faX8_227 : gFa RX8 227 5 3 0 := ⟨(RX5, TX5, 10), rfl, by decide, uwX5, inT 145 (by decide +kernel) (by decide +kernel), rfl⟩
theorem faX5_70 : gFa RX5 70 5 4 0 := ⟨(RX5, TX5, 10), rfl, by decide, uwX5, inT 146 (by decide +kernel) (by decide +kernel), rfl⟩
theorem fpX5_70 : gFp RX5 70 5 4 0 false := ⟨(RX5, TX5, 10), tyX5, rfl, by decide, uwX5, inT 146 (by decide +kernel) (by decide +kernel), rfl, tyX5_ok, nmX5, rfl, rfl, fun h => (by cases h), by decide⟩
theorem faX8_230 : gFa RX8 230 5 4 0 := ⟨(RX5, TX5, 10), rfl, by decide, uwX5, inT 147 (by decide +kernel) (by decide +kernel), rfl⟩
theorem faX5_73 : gFa RX5 73 5 5 1 := ⟨(RX5, TX5, 10), rfl, by decide, uwX5, inT 148 (by decide +kernel) (by decide +kernel), rfl⟩
theorem fpX5_73 : gFp RX5 73 5 5 1 false := ⟨(RX5, TX5, 10), tyX5, rfl, by decide, uwX5, inT 148 (by decide +kernel) (by decide +kernel), rfl, tyX5_ok, nmX5, rfl, rfl, fun h => (by cases h), by decide⟩
theorem faX5_76 : gFa RX5 76 5 6 0 := ⟨(RX5, TX5, 10), rfl, by decide, uwX5, inT 149 (by decide +kernel) (by decide +kernel), rfl⟩
theorem fpX5_76 : gFp RX5 76 5 6 0 false := ⟨(RX5, TX5, 10), tyX5, rfl, by decide, uwX5, inT 149 (by decide +kernel) (by decide +kernel), rfl, tyX5_ok, nmX5, rfl, rfl, fun h => (by cases h), by decide⟩
theorem faX8_233 : gFa RX8 233 5 6 0 := ⟨(RX5, TX5, 10), rfl, by decide, uwX5, inT 150 (by decide +kernel) (by decide +kernel), rfl⟩
theorem faX5_80 : gFa RX5 80 5 7 0 := ⟨(RX5, TX5, 10), rfl, by decide, uwX5, inT 151 (by decide +kernel) (by decide +kernel), rfl⟩
theorem fpX5_80 : gFp RX5 80 5 7 0 false := ⟨(RX5, TX5, 10), tyX5, rfl, by decide, uwX5, inT 151 (by decide +kernel) (by decide +kernel), rfl, tyX5_ok, nmX5, rfl, rfl, fun h => (by cases h), by decide⟩
theorem faX8_251 : gFa RX8 251 5 7 0 := ⟨(RX5, TX5, 10), rfl, by decide, uwX5, inT 152 (by decide +kernel) (by decide +kernel), rfl⟩
theorem faX5_83 : gFa RX5 83 5 8 0 := ⟨(RX5, TX5, 10), rfl, by decide, uwX5, inT 153 (by decide +kernel) (by decide +kernel), rfl⟩
theorem fpX5_83 : gFp RX5 83 5 8 0 false := ⟨(RX5, TX5, 10), tyX5, rfl, by decide, uwX5, inT 153 (by decide +kernel) (by decide +kernel), rfl, tyX5_ok, nmX5, rfl, rfl, fun h => (by cases h), by decide⟩
theorem faX8_248 : gFa RX8 248 5 8 0 := ⟨(RX5, TX5, 10), rfl, by decide, uwX5, inT 154 (by decide +kernel) (by decide +kernel), rfl⟩
theorem faX5_9 : gFa RX5 9 5 9 2 := ⟨(RX5, TX5, 10), rfl, by decide, uwX5, inT 155 (by decide +kernel) (by decide +kernel), rfl⟩
theorem fpX5_9 : gFp RX5 9 5 9 2 true := ⟨(RX5, TX5, 10), tyX5, rfl, by decide, uwX5, inT 155 (by decide +kernel) (by decide +kernel), rfl, tyX5_ok, nmX5, Or.inr ⟨_, rfl⟩, rfl, fun _ => rfl, by decide⟩
theorem faX8_238 : gFa RX8 238 5 9 2 := ⟨(RX5, TX5, 10), rfl, by decide, uwX5, inT 156 (by decide +kernel) (by decide +kernel), rfl⟩
theorem faX0_22 : gFa RX0 22 0 0 2 := ⟨(RX0, TX0, 4), rfl, by decide, uwX0, inT 185 (by decide +kernel) (by decide +kernel), rfl⟩
theorem fpX0_22 : gFp RX0 22 0 0 2 true := ⟨(RX0, TX0, 4), tyX0, rfl, by decide, uwX0, inT 185 (by decide +kernel) (by decide +kernel), rfl, tyX0_ok, nmX0, Or.inl ⟨_, rfl⟩, rfl, fun _ => rfl, by decide⟩
theorem faX0_9 : gFa RX0 9 0 1 0 := ⟨(RX0, TX0, 4), rfl, by decide, uwX0, inT 186 (by decide +kernel) (by decide +kernel), rfl⟩
theorem fpX0_9 : gFp RX0 9 0 1 0 false := ⟨(RX0, TX0, 4), tyX0, rfl, by decide, uwX0, inT 186 (by decide +kernel) (by decide +kernel), rfl, tyX0_ok, nmX0, rfl, rfl, fun h => (by cases h), by decide⟩
theorem faX8_264 : gFa RX8 264 0 1 0 := ⟨(RX0, TX0, 4), rfl, by decide, uwX0, inT 187 (by decide +kernel) (by decide +kernel), rfl⟩
theorem faX0_15 : gFa RX0 15 0 2 0 := ⟨(RX0, TX0, 4), rfl, by decide, uwX0, inT 188 (by decide +kernel) (by decide +kernel), rfl⟩
theorem fpX0_15 : gFp RX0 15 0 2 0 false := ⟨(RX0, TX0, 4), tyX0, rfl, by decide, uwX0, inT 188 (by decide +kernel) (by decide +kernel), rfl, tyX0_ok, nmX0, rfl, rfl, fun h => (by cases h), by decide⟩
theorem faX0_18 : gFa RX0 18 0 3 1 := ⟨(RX0, TX0, 4), rfl, by decide, uwX0, inT 189 (by decide +kernel) (by decide +kernel), rfl⟩
theorem fpX0_18 : gFp RX0 18 0 3 1 false := ⟨(RX0, TX0, 4), tyX0, rfl, by decide, uwX0, inT 189 (by decide +kernel) (by decide +kernel), rfl, tyX0_ok, nmX0, rfl, rfl, fun h => (by cases h), by decide⟩
theorem faX4_26 : gFa RX4 26 4 0 2 := ⟨(RX4, TX4, 6), rfl, by decide, uwX4, inT 205 (by decide +kernel) (by decide +kernel), rfl⟩
theorem fpX4_26 : gFp RX4 26 4 0 2 true := ⟨(RX4, TX4, 6), tyX4, rfl, by decide, uwX4, inT 205 (by decide +kernel) (by decide +kernel), rfl, tyX4_ok, nmX4, Or.inl ⟨_, rfl⟩, rfl, fun _ => rfl, by decide⟩
theorem faX4_30 : gFa RX4 30 4 1 2 := ⟨(RX4, TX4, 6), rfl, by decide, uwX4, inT 206 (by decide +kernel) (by decide +kernel), rfl⟩
theorem fpX4_30 : gFp RX4 30 4 1 2 true := ⟨(RX4, TX4, 6), tyX4, rfl, by decide, uwX4, inT 206 (by decide +kernel) (by decide +kernel), rfl, tyX4_ok, nmX4, Or.inl ⟨_, rfl⟩, rfl, fun _ => rfl, by decide⟩
theorem faX4_9 : gFa RX4 9 4 2 2 := ⟨(RX4, TX4, 6), rfl, by decide, uwX4, inT 207 (by decide +kernel) (by decide +kernel), rfl⟩
theorem fpX4_9 : gFp RX4 9 4 2 2 true := ⟨(RX4, TX4, 6), tyX4, rfl, by decide, uwX4, inT 207 (by decide +kernel) (by decide +kernel), rfl, tyX4_ok, nmX4, Or.inr ⟨_, rfl⟩, rfl, fun _ => rfl, by decide⟩
theorem faX8_269 : gFa RX8 269 4 2 2 := ⟨(RX4, TX4, 6), rfl, by decide, uwX4, inT 208 (by decide +kernel) (by decide +kernel), rfl⟩
theorem faX4_15 : gFa RX4 15 4 3 2 := ⟨(RX4, TX4, 6), rfl, by decide, uwX4, inT 209 (by decide +kernel) (by decide +kernel), rfl⟩
theorem fpX4_15 : gFp RX4 15 4 3 2 true := ⟨(RX4, TX4, 6), tyX4, rfl, by decide, uwX4, inT 209 (by decide +kernel) (by decide +kernel), rfl, tyX4_ok, nmX4, Or.inr ⟨_, rfl⟩, rfl, fun _ => rfl, by decide⟩
theorem faX4_18 : gFa RX4 18 4 4 0 := ⟨(RX4, TX4, 6), rfl, by decide, uwX4, inT 210 (by decide +kernel) (by decide +kernel), rfl⟩
theorem fpX4_18 : gFp RX4 18 4 4 0 false := ⟨(RX4, TX4, 6), tyX4, rfl, by decide, uwX4, inT 210 (by decide +kernel) (by decide +kernel), rfl, tyX4_ok, nmX4, rfl, rfl, fun h => (by cases h), by decide⟩
theorem faX8_282 : gFa RX8 282 4 4 0 := ⟨(RX4, TX4, 6), rfl, by decide, uwX4, inT 211 (by decide +kernel) (by decide +kernel), rfl⟩
theorem faX4_22 : gFa RX4 22 4 5 1 := ⟨(RX4, TX4, 6), rfl, by decide, uwX4, inT 212 (by decide +kernel) (by decide +kernel), rfl⟩
theorem fpX4_22 : gFp RX4 22 4 5 1 false := ⟨(RX4, TX4, 6), tyX4, rfl, by decide, uwX4, inT 212 (by decide +kernel) (by decide +kernel), rfl, tyX4_ok, nmX4, rfl, rfl, fun h => (by cases h), by decide⟩
theorem faX8_294 : gFa RX8 294 4 5 1 := ⟨(RX4, TX4, 6), rfl, by decide, uwX4, inT 213 (by decide +kernel) (by decide +kernel), rfl⟩
theorem faX1_9 : gFa RX1 9 1 0 0 := ⟨(RX1, TX1, 3), rfl, by decide, uwX1, inT 232 (by decide +kernel) (by decide +kernel), rfl⟩
theorem fpX1_9 : gFp RX1 9 1 0 0 false := ⟨(RX1, TX1, 3), tyX1, rfl, by decide, uwX1, inT 232 (by decide +kernel) (by decide +kernel), rfl, tyX1_ok, nmX1, rfl, rfl, fun h => (by cases h), by decide⟩
theorem faX8_154 : gFa RX8 154 1 0 0 := ⟨(RX1, TX1, 3), rfl, by decide, uwX1, inT 233 (by decide +kernel) (by decide +kernel), rfl⟩
theorem faX1_15 : gFa RX1 15 1 1 0 := ⟨(RX1, TX1, 3), rfl, by decide, uwX1, inT 234 (by decide +kernel) (by decide +kernel), rfl⟩
theorem fpX1_15 : gFp RX1 15 1 1 0 false := ⟨(RX1, TX1, 3), tyX1, rfl, by decide, uwX1, inT 234 (by decide +kernel) (by decide +kernel), rfl, tyX1_ok, nmX1, rfl, rfl, fun h => (by cases h), by decide⟩
theorem faX8_157 : gFa RX8 157 1 1 0 := ⟨(RX1, TX1, 3), rfl, by decide, uwX1, inT 235 (by decide +kernel) (by decide +kernel), rfl⟩
theorem faX1_18 : gFa RX1 18 1 2 2 := ⟨(RX1, TX1, 3), rfl, by decide, uwX1, inT 236 (by decide +kernel) (by decide +kernel), rfl⟩
theorem fpX1_18 : gFp RX1 18 1 2 2 true := ⟨(RX1, TX1, 3), tyX1, rfl, by decide, uwX1, inT 236 (by decide +kernel) (by decide +kernel), rfl, tyX1_ok, nmX1, Or.inr ⟨_, rfl⟩, rfl, fun _ => rfl, by decide⟩
theorem faX8_340 : gFa RX8 340 1 2 2 := ⟨(RX1, TX1, 3), rfl, by decide, uwX1, inT 237 (by decide +kernel) (by decide +kernel), rfl⟩
theorem faX8_14 : gFa RX8 14 8 0 2 := ⟨(RX8, TX8, 9), rfl, by decide, uwX8, inT 245 (by decide +kernel) (by decide +kernel), rfl⟩
theorem fpX8_14 : gFp RX8 14 8 0 2 true := ⟨(RX8, TX8, 9), tyX8, rfl, by decide, uwX8, inT 245 (by decide +kernel) (by decide +kernel), rfl, tyX8_ok, nmX8, Or.inl ⟨_, rfl⟩, rfl, fun _ => rfl, by decide⟩
theorem faX8_21 : gFa RX8 21 8 1 2 := ⟨(RX8, TX8, 9), rfl, by decide, uwX8, inT 246 (by decide +kernel) (by decide +kernel), rfl⟩
theorem fpX8_21 : gFp RX8 21 8 1 2 true := ⟨(RX8, TX8, 9), tyX8, rfl, by decide, uwX8, inT 246 (by decide +kernel) (by decide +kernel), rfl, tyX8_ok, nmX8, Or.inl ⟨_, rfl⟩, rfl, fun _ => rfl, by decide⟩
theorem faX8_27 : gFa RX8 27 8 2 2 := ⟨(RX8, TX8, 9), rfl, by decide, uwX8, inT 247 (by decide +kernel) (by decide +kernel), rfl⟩
theorem fpX8_27 : gFp RX8 27 8 2 2 true := ⟨(RX8, TX8, 9), tyX8, rfl, by decide, uwX8, inT 247 (by decide +kernel) (by decide +kernel), rfl, tyX8_ok, nmX8, Or.inr ⟨_, rfl⟩, rfl, fun _ => rfl, by decide⟩
theorem faX8_34 : gFa RX8 34 8 3 2 := ⟨(RX8, TX8, 9), rfl, by decide, uwX8, inT 248 (by decide +kernel) (by decide +kernel), rfl⟩
theorem fpX8_34 : gFp RX8 34 8 3 2 true := ⟨(RX8, TX8, 9), tyX8, rfl, by decide, uwX8, inT 248 (by decide +kernel) (by decide +kernel), rfl, tyX8_ok, nmX8, Or.inl ⟨_, rfl⟩, rfl, fun _ => rfl, by decide⟩
theorem faX8_43 : gFa RX8 43 8 4 2 := ⟨(RX8, TX8, 9), rfl, by decide, uwX8, inT 249 (by decide +kernel) (by decide +kernel), rfl⟩
theorem fpX8_43 : gFp RX8 43 8 4 2 true := ⟨(RX8, TX8, 9), tyX8, rfl, by decide, uwX8, inT 249 (by decide +kernel) (by decide +kernel), rfl, tyX8_ok, nmX8, Or.inl ⟨_, rfl⟩, rfl, fun _ => rfl, by decide⟩
theorem faX8_50 : gFa RX8 50 8 5 2 := ⟨(RX8, TX8, 9), rfl, by decide, uwX8, inT 250 (by decide +kernel) (by decide +kernel), rfl⟩
theorem fpX8_50 : gFp RX8 50 8 5 2 true := ⟨(RX8, TX8, 9), tyX8, rfl, by decide, uwX8, inT 250 (by decide +kernel) (by decide +kernel), rfl, tyX8_ok, nmX8, Or.inl ⟨_, rfl⟩, rfl, fun _ => rfl, by decide⟩
theorem faX8_59 : gFa RX8 59 8 6 2 := ⟨(RX8, TX8, 9), rfl, by decide, uwX8, inT 251 (by decide +kernel) (by decide +kernel), rfl⟩
theorem fpX8_59 : gFp RX8 59 8 6 2 true := ⟨(RX8, TX8, 9), tyX8, rfl, by decide, uwX8, inT 251 (by decide +kernel) (by decide +kernel), rfl, tyX8_ok, nmX8, Or.inl ⟨_, rfl⟩, rfl, fun _ => rfl, by decide⟩
theorem faX8_68 : gFa RX8 68 8 7 2 := ⟨(RX8, TX8, 9), rfl, by decide, uwX8, inT 252 (by decide +kernel) (by decide +kernel), rfl⟩
theorem fpX8_68 : gFp RX8 68 8 7 2 true := ⟨(RX8, TX8, 9), tyX8, rfl, by decide, uwX8, inT 252 (by decide +kernel) (by decide +kernel), rfl, tyX8_ok, nmX8, Or.inl ⟨_, rfl⟩, rfl, fun _ => rfl, by decide⟩
theorem faX8_72 : gFa RX8 72 8 8 3 := ⟨(RX8, TX8, 9), rfl, by decide, uwX8, inT 253 (by decide +kernel) (by decide +kernel), rfl⟩
theorem fpX8_72 : gFp RX8 72 8 8 3 false := ⟨(RX8, TX8, 9), tyX8, rfl, by decide, uwX8, inT 253 (by decide +kernel) (by decide +kernel), rfl, tyX8_ok, nmX8, rfl, rfl, fun h => (by cases h), by decide⟩
theorem faX9_75 : gFa RX9 75 9 0 0 := ⟨(RX9, TX9, 39), rfl, by decide, uwX9, inT 763 (by decide +kernel) (by decide +kernel), rfl⟩
theorem fpX9_75 : gFp RX9 75 9 0 0 false := ⟨(RX9, TX9, 39), tyX9, rfl, by decide, uwX9, inT 763 (by decide +kernel) (by decide +kernel), rfl, tyX9_ok, nmX9, rfl, rfl, fun h => (by cases h), by decide⟩
theorem faX9_7 : gFa RX9 7 9 1 2 := ⟨(RX9, TX9, 39), rfl, by decide, uwX9, inT 764 (by decide +kernel) (by decide +kernel), rfl⟩
theorem fpX9_7 : gFp RX9 7 9 1 2 true := ⟨(RX9, TX9, 39), tyX9, rfl, by decide, uwX9, inT 764 (by decide +kernel) (by decide +kernel), rfl, tyX9_ok, nmX9, Or.inr ⟨_, rfl⟩, rfl, fun _ => rfl, by decide⟩
theorem faX9_13 : gFa RX9 13 9 2 2 := ⟨(RX9, TX9, 39), rfl, by decide, uwX9, inT 765 (by decide +kernel) (by decide +kernel), rfl⟩
theorem fpX9_13 : gFp RX9 13 9 2 2 true := ⟨(RX9, TX9, 39), tyX9, rfl, by decide, uwX9, inT 765 (by decide +kernel) (by decide +kernel), rfl, tyX9_ok, nmX9, Or.inr ⟨_, rfl⟩, rfl, fun _ => rfl, by decide⟩
theorem faX9_17 : gFa RX9 17 9 3 2 := ⟨(RX9, TX9, 39), rfl, by decide, uwX9, inT 766 (by decide +kernel) (by decide +kernel), rfl⟩
theorem fpX9_17 : gFp RX9 17 9 3 2 true := ⟨(RX9, TX9, 39), tyX9, rfl, by decide, uwX9, inT 766 (by decide +kernel) (by decide +kernel), rfl, tyX9_ok, nmX9, Or.inr ⟨_, rfl⟩, rfl, fun _ => rfl, by decide⟩
theorem faX9_78 : gFa RX9 78 9 4 0 := ⟨(RX9, TX9, 39), rfl, by decide, uwX9, inT 767 (by decide +kernel) (by decide +kernel), rfl⟩
theorem fpX9_78 : gFp RX9 78 9 4 0 false := ⟨(RX9, TX9, 39), tyX9, rfl, by decide, uwX9, inT 767 (by decide +kernel) (by decide +kernel), rfl, tyX9_ok, nmX9, rfl, rfl, fun h => (by cases h), by decide⟩
theorem faX9_20 : gFa RX9 20 9 5 2 := ⟨(RX9, TX9, 39), rfl, by decide, uwX9, inT 768 (by decide +kernel) (by decide +kernel), rfl⟩
theorem fpX9_20 : gFp RX9 20 9 5 2 true := ⟨(RX9, TX9, 39), tyX9, rfl, by decide, uwX9, inT 768 (by decide +kernel) (by decide +kernel), rfl, tyX9_ok, nmX9, Or.inr ⟨_, rfl⟩, rfl, fun _ => rfl, by decide⟩
theorem faX9_23 : gFa RX9 23 9 6 2 := ⟨(RX9, TX9, 39), rfl, by decide, uwX9, inT 769 (by decide +kernel) (by decide +kernel), rfl⟩
theorem fpX9_23 : gFp RX9 23 9 6 2 true := ⟨(RX9, TX9, 39), tyX9, rfl, by decide, uwX9, inT 769 (by decide +kernel) (by decide +kernel), rfl, tyX9_ok, nmX9, Or.inr ⟨_, rfl⟩, rfl, fun _ => rfl, by decide⟩
theorem faX9_26 : gFa RX9 26 9 7 2 := ⟨(RX9, TX9, 39), rfl, by decide, uwX9, inT 770 (by decide +kernel) (by decide +kernel), rfl⟩
theorem fpX9_26 : gFp RX9 26 9 7 2 true := ⟨(RX9, TX9, 39), tyX9, rfl, by decide, uwX9, inT 770 (by decide +kernel) (by decide +kernel), rfl, tyX9_ok, nmX9, Or.inr ⟨_, rfl⟩, rfl, fun _ => rfl, by decide⟩
theorem faX9_29 : gFa RX9 29 9 8 2 := ⟨(RX9, TX9, 39), rfl, by decide, uwX9, inT 771 (by decide +kernel) (by decide +kernel), rfl⟩
theorem fpX9_29 : gFp RX9 29 9 8 2 true := ⟨(RX9, TX9, 39), tyX9, rfl, by decide, uwX9, inT 771 (by decide +kernel) (by decide +kernel), rfl, tyX9_ok, nmX9, Or.inr ⟨_, rfl⟩, rfl, fun _ => rfl, by decide⟩
theorem faX9_32 : gFa RX9 32 9 9 0 := ⟨(RX9, TX9, 39), rfl, by decide, uwX9, inT 772 (by decide +kernel) (by decide +kernel), rfl⟩
theorem fpX9_32 : gFp RX9 32 9 9 0 false := ⟨(RX9, TX9, 39), tyX9, rfl, by decide, uwX9, inT 772 (by decide +kernel) (by decide +kernel), rfl, tyX9_ok, nmX9, rfl, rfl, fun h => (by cases h), by decide⟩
theorem faX9_36 : gFa RX9 36 9 10 2 := ⟨(RX9, TX9, 39), rfl, by decide, uwX9, inT 773 (by decide +kernel) (by decide +kernel), rfl⟩
theorem fpX9_36 : gFp RX9 36 9 10 2 true := ⟨(RX9, TX9, 39), tyX9, rfl, by decide, uwX9, inT 773 (by decide +kernel) (by decide +kernel), rfl, tyX9_ok, nmX9, Or.inr ⟨_, rfl⟩, rfl, fun _ => rfl, by decide⟩
theorem faX9_39 : gFa RX9 39 9 11 2 := ⟨(RX9, TX9, 39), rfl, by decide, uwX9, inT 774 (by decide +kernel) (by decide +kernel), rfl⟩
theorem fpX9_39 : gFp RX9 39 9 11 2 true := ⟨(RX9, TX9, 39), tyX9, rfl, by decide, uwX9, inT 774 (by decide +kernel) (by decide +kernel), rfl, tyX9_ok, nmX9, Or.inr ⟨_, rfl⟩, rfl, fun _ => rfl, by decide⟩
theorem faX9_42 : gFa RX9 42 9 12 2 := ⟨(RX9, TX9, 39), rfl, by decide, uwX9, inT 775 (by decide +kernel) (by decide +kernel), rfl⟩
theorem fpX9_42 : gFp RX9 42 9 12 2 true := ⟨(RX9, TX9, 39), tyX9, rfl, by decide, uwX9, inT 775 (by decide +kernel) (by decide +kernel), rfl, tyX9_ok, nmX9, Or.inr ⟨_, rfl⟩, rfl, fun _ => rfl, by decide⟩
theorem faX9_72 : gFa RX9 72 9 13 0 := ⟨(RX9, TX9, 39), rfl, by decide, uwX9, inT 776 (by decide +kernel) (by decide +kernel), rfl⟩
theorem fpX9_72 : gFp RX9 72 9 13 0 false := ⟨(RX9, TX9, 39), tyX9, rfl, by decide, uwX9, inT 776 (by decide +kernel) (by decide +kernel), rfl, tyX9_ok, nmX9, rfl, rfl, fun h => (by cases h), by decide⟩
theorem faX9_45 : gFa RX9 45 9 14 2 := ⟨(RX9, TX9, 39), rfl, by decide, uwX9, inT 777 (by decide +kernel) (by decide +kernel), rfl⟩
theorem fpX9_45 : gFp RX9 45 9 14 2 true := ⟨(RX9, TX9, 39), tyX9, rfl, by decide, uwX9, inT 777 (by decide +kernel) (by decide +kernel), rfl, tyX9_ok, nmX9, Or.inr ⟨_, rfl⟩, rfl, fun _ => rfl, by decide⟩
theorem faX9_48 : gFa RX9 48 9 15 2 := ⟨(RX9, TX9, 39), rfl, by decide, uwX9, inT 778 (by decide +kernel) (by decide +kernel), rfl⟩
theorem fpX9_48 : gFp RX9 48 9 15 2 true := ⟨(RX9, TX9, 39), tyX9, rfl, by decide, uwX9, inT 778 (by decide +kernel) (by decide +kernel), rfl, tyX9_ok, nmX9, Or.inr ⟨_, rfl⟩, rfl, fun _ => rfl, by decide⟩
theorem faX9_51 : gFa RX9 51 9 16 2 := ⟨(RX9, TX9, 39), rfl, by decide, uwX9, inT 779 (by decide +kernel) (by decide +kernel), rfl⟩
theorem fpX9_51 : gFp RX9 51 9 16 2 true := ⟨(RX9, TX9, 39), tyX9, rfl, by decide, uwX9, inT 779 (by decide +kernel) (by decide +kernel), rfl, tyX9_ok, nmX9, Or.inr ⟨_, rfl⟩, rfl, fun _ => rfl, by decide⟩
theorem faX9_54 : gFa RX9 54 9 17 2 := ⟨(RX9, TX9, 39), rfl, by decide, uwX9, inT 780 (by decide +kernel) (by decide +kernel), rfl⟩
theorem fpX9_54 : gFp RX9 54 9 17 2 true := ⟨(RX9, TX9, 39), tyX9, rfl, by decide, uwX9, inT 780 (by decide +kernel) (by decide +kernel), rfl, tyX9_ok, nmX9, Or.inr ⟨_, rfl⟩, rfl, fun _ => rfl, by decide⟩
theorem faX9_57 : gFa RX9 57 9 18 2 := ⟨(RX9, TX9, 39), rfl, by decide, uwX9, inT 781 (by decide +kernel) (by decide +kernel), rfl⟩
theorem fpX9_57 : gFp RX9 57 9 18 2 true := ⟨(RX9, TX9, 39), tyX9, rfl, by decide, uwX9, inT 781 (by decide +kernel) (by decide +kernel), rfl, tyX9_ok, nmX9, Or.inr ⟨_, rfl⟩, rfl, fun _ => rfl, by decide⟩
theorem faX9_60 : gFa RX9 60 9 19 2 := ⟨(RX9, TX9, 39), rfl, by decide, uwX9, inT 782 (by decide +kernel) (by decide +kernel), rfl⟩
theorem fpX9_60 : gFp RX9 60 9 19 2 true := ⟨(RX9, TX9, 39), tyX9, rfl, by decide, uwX9, inT 782 (by decide +kernel) (by decide +kernel), rfl, tyX9_ok, nmX9, Or.inr ⟨_, rfl⟩, rfl, fun _ => rfl, by decide⟩
theorem faX9_63 : gFa RX9 63 9 20 2 := ⟨(RX9, TX9, 39), rfl, by decide, uwX9, inT 783 (by decide +kernel) (by decide +kernel), rfl⟩
theorem fpX9_63 : gFp RX9 63 9 20 2 true := ⟨(RX9, TX9, 39), tyX9, rfl, by decide, uwX9, inT 783 (by decide +kernel) (by decide +kernel), rfl, tyX9_ok, nmX9, Or.inr ⟨_, rfl⟩, rfl, fun _ => rfl, by decide⟩
theorem faX9_66 : gFa RX9 66 9 21 2 := ⟨(RX9, TX9, 39), rfl, by decide, uwX9, inT 784 (by decide +kernel) (by decide +kernel), rfl⟩
theorem fpX9_66 : gFp RX9 66 9 21 2 true := ⟨(RX9, TX9, 39), tyX9, rfl, by decide, uwX9, inT 784 (by decide +kernel) (by decide +kernel), rfl, tyX9_ok, nmX9, Or.inr ⟨_, rfl⟩, rfl, fun _ => rfl, by decide⟩
theorem faX9_119 : gFa RX9 119 9 22 0 := ⟨(RX9, TX9, 39), rfl, by decide, uwX9, inT 785 (by decide +kernel) (by decide +kernel), rfl⟩
theorem fpX9_119 : gFp RX9 119 9 22 0 false := ⟨(RX9, TX9, 39), tyX9, rfl, by decide, uwX9, inT 785 (by decide +kernel) (by decide +kernel), rfl, tyX9_ok, nmX9, rfl, rfl, fun h => (by cases h), by decide⟩
theorem faX9_122 : gFa RX9 122 9 23 1 := ⟨(RX9, TX9, 39), rfl, by decide, uwX9, inT 786 (by decide +kernel) (by decide +kernel), rfl⟩
theorem fpX9_122 : gFp RX9 122 9 23 1 false := ⟨(RX9, TX9, 39), tyX9, rfl, by decide, uwX9, inT 786 (by decide +kernel) (by decide +kernel), rfl, tyX9_ok, nmX9, rfl, rfl, fun h => (by cases h), by decide⟩
theorem faX9_126 : gFa RX9 126 9 24 0 := ⟨(RX9, TX9, 39), rfl, by decide, uwX9, inT 787 (by decide +kernel) (by decide +kernel), rfl⟩
theorem fpX9_126 : gFp RX9 126 9 24 0 false := ⟨(RX9, TX9, 39), tyX9, rfl, by decide, uwX9, inT 787 (by decide +kernel) (by decide +kernel), rfl, tyX9_ok, nmX9, rfl, rfl, fun h => (by cases h), by decide⟩
theorem faX9_150 : gFa RX9 150 9 25 0 := ⟨(RX9, TX9, 39), rfl, by decide, uwX9, inT 788 (by decide +kernel) (by decide +kernel), rfl⟩
theorem fpX9_150 : gFp RX9 150 9 25 0 false := ⟨(RX9, TX9, 39), tyX9, rfl, by decide, uwX9, inT 788 (by decide +kernel) (by decide +kernel), rfl, tyX9_ok, nmX9, rfl, rfl, fun h => (by cases h), by decide⟩
theorem faX9_153 : gFa RX9 153 9 26 1 := ⟨(RX9, TX9, 39), rfl, by decide, uwX9, inT 789 (by decide +kernel) (by decide +kernel), rfl⟩
theorem fpX9_153 : gFp RX9 153 9 26 1 false := ⟨(RX9, TX9, 39), tyX9, rfl, by decide, uwX9, inT 789 (by decide +kernel) (by decide +kernel), rfl, tyX9_ok, nmX9, rfl, rfl, fun h => (by cases h), by decide⟩
theorem faX9_156 : gFa RX9 156 9 27 0 := ⟨(RX9, TX9, 39), rfl, by decide, uwX9, inT 790 (by decide +kernel) (by decide +kernel), rfl⟩
theorem fpX9_156 : gFp RX9 156 9 27 0 false := ⟨(RX9, TX9, 39), tyX9, rfl, by decide, uwX9, inT 790 (by decide +kernel) (by decide +kernel), rfl, tyX9_ok, nmX9, rfl, rfl, fun h => (by cases h), by decide⟩
theorem faX9_159 : gFa RX9 159 9 28 0 := ⟨(RX9, TX9, 39), rfl, by decide, uwX9, inT 791 (by decide +kernel) (by decide +kernel), rfl⟩
theorem fpX9_159 : gFp RX9 159 9 28 0 false := ⟨(RX9, TX9, 39), tyX9, rfl, by decide, uwX9, inT 791 (by decide +kernel) (by decide +kernel), rfl, tyX9_ok, nmX9, rfl, rfl, fun h => (by cases h), by decide⟩
theorem faX9_162 : gFa RX9 162 9 29 0 := ⟨(RX9, TX9, 39), rfl, by decide, uwX9, inT 792 (by decide +kernel) (by decide +kernel), rfl⟩
theorem fpX9_162 : gFp RX9 162 9 29 0 false := ⟨(RX9, TX9, 39), tyX9, rfl, by decide, uwX9, inT 792 (by decide +kernel) (by decide +kernel), rfl, tyX9_ok, nmX9, rfl, rfl, fun h => (by cases h), by decide⟩
theorem faX9_173 : gFa RX9 173 9 30 0 := ⟨(RX9, TX9, 39), rfl, by decide, uwX9, inT 793 (by decide +kernel) (by decide +kernel), rfl⟩
theorem fpX9_173 : gFp RX9 173 9 30 0 false := ⟨(RX9, TX9, 39), tyX9, rfl, by decide, uwX9, inT 793 (by decide +kernel) (by decide +kernel), rfl, tyX9_ok, nmX9, rfl, rfl, fun h => (by cases h), by decide⟩
theorem faX9_176 : gFa RX9 176 9 31 0 := ⟨(RX9, TX9, 39), rfl, by decide, uwX9, inT 794 (by decide +kernel) (by decide +kernel), rfl⟩
theorem fpX9_176 : gFp RX9 176 9 31 0 false := ⟨(RX9, TX9, 39), tyX9, rfl, by decide, uwX9, inT 794 (by decide +kernel) (by decide +kernel), rfl, tyX9_ok, nmX9, rfl, rfl, fun h => (by cases h), by decide⟩
theorem faX9_192 : gFa RX9 192 9 32 0 := ⟨(RX9, TX9, 39), rfl, by decide, uwX9, inT 795 (by decide +kernel) (by decide +kernel), rfl⟩
theorem fpX9_192 : gFp RX9 192 9 32 0 false := ⟨(RX9, TX9, 39), tyX9, rfl, by decide, uwX9, inT 795 (by decide +kernel) (by decide +kernel), rfl, tyX9_ok, nmX9, rfl, rfl, fun h => (by cases h), by decide⟩
theorem faX9_182 : gFa RX9 182 9 33 0 := ⟨(RX9, TX9, 39), rfl, by decide, uwX9, inT 796 (by decide +kernel) (by decide +kernel), rfl⟩
theorem fpX9_182 : gFp RX9 182 9 33 0 false := ⟨(RX9, TX9, 39), tyX9, rfl, by decide, uwX9, inT 796 (by decide +kernel) (by decide +kernel), rfl, tyX9_ok, nmX9, rfl, rfl, fun h => (by cases h), by decide⟩
theorem faX9_185 : gFa RX9 185 9 34 1 := ⟨(RX9, TX9, 39), rfl, by decide, uwX9, inT 797 (by decide +kernel) (by decide +kernel), rfl⟩
theorem fpX9_185 : gFp RX9 185 9 34 1 false := ⟨(RX9, TX9, 39), tyX9, rfl, by decide, uwX9, inT 797 (by decide +kernel) (by decide +kernel), rfl, tyX9_ok, nmX9, rfl, rfl, fun h => (by cases h), by decide⟩
theorem faX9_69 : gFa RX9 69 9 35 2 := ⟨(RX9, TX9, 39), rfl, by decide, uwX9, inT 798 (by decide +kernel) (by decide +kernel), rfl⟩
theorem fpX9_69 : gFp RX9 69 9 35 2 true := ⟨(RX9, TX9, 39), tyX9, rfl, by decide, uwX9, inT 798 (by decide +kernel) (by decide +kernel), rfl, tyX9_ok, nmX9, Or.inr ⟨_, rfl⟩, rfl, fun _ => rfl, by decide⟩
theorem faX9_211 : gFa RX9 211 9 36 0 := ⟨(RX9, TX9, 39), rfl, by decide, uwX9, inT 799 (by decide +kernel) (by decide +kernel), rfl⟩
theorem fpX9_211 : gFp RX9 211 9 36 0 false := ⟨(RX9, TX9, 39), tyX9, rfl, by decide, uwX9, inT 799 (by decide +kernel) (by decide +kernel), rfl, tyX9_ok, nmX9, rfl, rfl, fun h => (by cases h), by decide⟩
theorem faX9_214 : gFa RX9 214 9 37 1 := ⟨(RX9, TX9, 39), rfl, by decide, uwX9, inT 800 (by decide +kernel) (by decide +kernel), rfl⟩
theorem fpX9_214 : gFp RX9 214 9 37 1 false := ⟨(RX9, TX9, 39), tyX9, rfl, by decide, uwX9, inT 800 (by decide +kernel) (by decide +kernel), rfl, tyX9_ok, nmX9, rfl, rfl, fun h => (by cases h), by decide⟩
theorem faX9_226 : gFa RX9 226 9 38 1 := ⟨(RX9, TX9, 39), rfl, by decide, uwX9, inT 801 (by decide +kernel) (by decide +kernel), rfl⟩
theorem fpX9_226 : gFp RX9 226 9 38 1 false := ⟨(RX9, TX9, 39), tyX9, rfl, by decide, uwX9, inT 801 (by decide +kernel) (by decide +kernel), rfl, tyX9_ok, nmX9, rfl, rfl, fun h => (by cases h), by decide⟩
theorem cwL_9 : gCw RL 9 mX8_init 0 := ⟨inT 16 (by decide +kernel) (by decide +kernel), cdX8_init, iniX8, pdX8_init⟩
theorem oiX8_5 : Cond.methodLink RX8 5 Lib.objectInit ∈ gTb ∧ Cond.instanceMethod Lib.objectInit ∈ gTb ∧ Cond.code Lib.objectInit ⟨#[0xb1]⟩ 1 none ∈ gTb := ⟨inT 19 (by decide +kernel) (by decide +kernel), inT 20 (by decide +kernel) (by decide +kernel), inT 21 (by decide +kernel) (by decide +kernel)⟩
theorem oiX6_3 : Cond.methodLink RX6 3 Lib.objectInit ∈ gTb ∧ Cond.instanceMethod Lib.objectInit ∈ gTb ∧ Cond.code Lib.objectInit ⟨#[0xb1]⟩ 1 none ∈ gTb := ⟨inT 27 (by decide +kernel) (by decide +kernel), inT 20 (by decide +kernel) (by decide +kernel), inT 21 (by decide +kernel) (by decide +kernel)⟩
theorem cwX8_20 : gCw RX8 20 mX2_init 0 := ⟨inT 79 (by decide +kernel) (by decide +kernel), cdX2_init, iniX2, pdX2_init⟩
theorem oiX2_3 : Cond.methodLink RX2 3 Lib.objectInit ∈ gTb ∧ Cond.instanceMethod Lib.objectInit ∈ gTb ∧ Cond.code Lib.objectInit ⟨#[0xb1]⟩ 1 none ∈ gTb := ⟨inT 82 (by decide +kernel) (by decide +kernel), inT 20 (by decide +kernel) (by decide +kernel), inT 21 (by decide +kernel) (by decide +kernel)⟩
theorem oiX7_3 : Cond.methodLink RX7 3 Lib.objectInit ∈ gTb ∧ Cond.instanceMethod Lib.objectInit ∈ gTb ∧ Cond.code Lib.objectInit ⟨#[0xb1]⟩ 1 none ∈ gTb := ⟨inT 104 (by decide +kernel) (by decide +kernel), inT 20 (by decide +kernel) (by decide +kernel), inT 21 (by decide +kernel) (by decide +kernel)⟩
theorem cwX8_40 : gCw RX8 40 mX3_init 1 := ⟨inT 111 (by decide +kernel) (by decide +kernel), cdX3_init, iniX3, pdX3_init⟩
theorem oiX3_3 : Cond.methodLink RX3 3 Lib.objectInit ∈ gTb ∧ Cond.instanceMethod Lib.objectInit ∈ gTb ∧ Cond.code Lib.objectInit ⟨#[0xb1]⟩ 1 none ∈ gTb := ⟨inT 114 (by decide +kernel) (by decide +kernel), inT 20 (by decide +kernel) (by decide +kernel), inT 21 (by decide +kernel) (by decide +kernel)⟩
theorem oiX5_3 : Cond.methodLink RX5 3 Lib.objectInit ∈ gTb ∧ Cond.instanceMethod Lib.objectInit ∈ gTb ∧ Cond.code Lib.objectInit ⟨#[0xb1]⟩ 1 none ∈ gTb := ⟨inT 137 (by decide +kernel) (by decide +kernel), inT 20 (by decide +kernel) (by decide +kernel), inT 21 (by decide +kernel) (by decide +kernel)⟩
theorem cwX8_56 : gCw RX8 56 mX0_init 1 := ⟨inT 181 (by decide +kernel) (by decide +kernel), cdX0_init, iniX0, pdX0_init⟩
theorem oiX0_3 : Cond.methodLink RX0 3 Lib.objectInit ∈ gTb ∧ Cond.instanceMethod Lib.objectInit ∈ gTb ∧ Cond.code Lib.objectInit ⟨#[0xb1]⟩ 1 none ∈ gTb := ⟨inT 184 (by decide +kernel) (by decide +kernel), inT 20 (by decide +kernel) (by decide +kernel), inT 21 (by decide +kernel) (by decide +kernel)⟩
theorem cwX8_65 : gCw RX8 65 mX4_init 2 := ⟨inT 201 (by decide +kernel) (by decide +kernel), cdX4_init, iniX4, pdX4_init⟩
theorem oiX4_3 : Cond.methodLink RX4 3 Lib.objectInit ∈ gTb ∧ Cond.instanceMethod Lib.objectInit ∈ gTb ∧ Cond.code Lib.objectInit ⟨#[0xb1]⟩ 1 none ∈ gTb := ⟨inT 204 (by decide +kernel) (by decide +kernel), inT 20 (by decide +kernel) (by decide +kernel), inT 21 (by decide +kernel) (by decide +kernel)⟩
theorem oiX1_3 : Cond.methodLink RX1 3 Lib.objectInit ∈ gTb ∧ Cond.instanceMethod Lib.objectInit ∈ gTb ∧ Cond.code Lib.objectInit ⟨#[0xb1]⟩ 1 none ∈ gTb := ⟨inT 231 (by decide +kernel) (by decide +kernel), inT 20 (by decide +kernel) (by decide +kernel), inT 21 (by decide +kernel) (by decide +kernel)⟩
theorem cwL_13 : gCw RL 13 mX8_village 1 := ⟨inT 273 (by decide +kernel) (by decide +kernel), cdX8_village, iniX8, pdX8_village⟩
theorem cwX8_79 : gCw RX8 79 mX8_isWithin 3 := ⟨inT 278 (by decide +kernel) (by decide +kernel), cdX8_isWithin, iniX8, pdX8_isWithin⟩
theorem cwX8_87 : gCw RX8 87 mX2_open 1 := ⟨inT 281 (by decide +kernel) (by decide +kernel), cdX2_open, iniX2, pdX2_open⟩
theorem cwX2_25 : gCw RX2 25 mX6_copyFrom 1 := ⟨inT 285 (by decide +kernel) (by decide +kernel), cdX6_copyFrom, iniX6, pdX6_copyFrom⟩
theorem cpX6_54 : Cond.methodLink RX6 54 arraycopyName ∈ gTb ∧ Cond.native arraycopyName ∈ gTb ∧ Cond.static arraycopyName ∈ gTb ∧ Cond.initialized "java/lang/System" ∈ gTb := ⟨inT 289 (by decide +kernel) (by decide +kernel), inT 291 (by decide +kernel) (by decide +kernel), inT 290 (by decide +kernel) (by decide +kernel), iniSys⟩
theorem cwX8_90 : gCw RX8 90 mX6_settle 1 := ⟨inT 292 (by decide +kernel) (by decide +kernel), cdX6_settle, iniX6, pdX6_settle⟩
theorem cwX8_94 : gCw RX8 94 mX8_keepChange 0 := ⟨inT 296 (by decide +kernel) (by decide +kernel), cdX8_keepChange, iniX8, pdX8_keepChange⟩
theorem cwX8_323 : gCw RX8 323 mX2_close 1 := ⟨inT 300 (by decide +kernel) (by decide +kernel), cdX2_close, iniX2, pdX2_close⟩
theorem cwX2_29 : gCw RX2 29 mX6_isLike 1 := ⟨inT 304 (by decide +kernel) (by decide +kernel), cdX6_isLike, iniX6, pdX6_isLike⟩
theorem cwX6_60 : gCw RX6 60 mX6_sameRows 2 := ⟨inT 308 (by decide +kernel) (by decide +kernel), cdX6_sameRows, iniX6, pdX6_sameRows⟩
theorem cwX2_33 : gCw RX2 33 mJ9_min_7cf53 2 := ⟨inT 311 (by decide +kernel) (by decide +kernel), cdJ9_min_7cf53, iniJ9, pdJ9_min_7cf53⟩
theorem cwX8_307 : gCw RX8 307 mX8_workOut 0 := ⟨inT 314 (by decide +kernel) (by decide +kernel), cdX8_workOut, iniX8, pdX8_workOut⟩
theorem cwX8_327 : gCw RX8 327 mX7_measure 1 := ⟨inT 318 (by decide +kernel) (by decide +kernel), cdX7_measure, iniX7, pdX7_measure⟩
theorem cwX7_15 : gCw RX7 15 mX7_takeRoads 1 := ⟨inT 322 (by decide +kernel) (by decide +kernel), cdX7_takeRoads, iniX7, pdX7_takeRoads⟩
theorem cwX7_29 : gCw RX7 29 mX6_lengthOf 2 := ⟨inT 326 (by decide +kernel) (by decide +kernel), cdX6_lengthOf, iniX6, pdX6_lengthOf⟩
theorem cwX7_25 : gCw RX7 25 mX7_shorten 3 := ⟨inT 331 (by decide +kernel) (by decide +kernel), cdX7_shorten, iniX7, pdX7_shorten⟩
theorem cwX7_34 : gCw RX7 34 mX7_between 2 := ⟨inT 335 (by decide +kernel) (by decide +kernel), cdX7_between, iniX7, pdX7_between⟩
theorem cwX8_330 : gCw RX8 330 mX3_carry 1 := ⟨inT 339 (by decide +kernel) (by decide +kernel), cdX3_carry, iniX3, pdX3_carry⟩
theorem cwX3_26 : gCw RX3 26 mX6_placesOfKind 1 := ⟨inT 343 (by decide +kernel) (by decide +kernel), cdX6_placesOfKind, iniX6, pdX6_placesOfKind⟩
theorem cwX3_41 : gCw RX3 41 mX7_between 2 := ⟨inT 347 (by decide +kernel) (by decide +kernel), cdX7_between, iniX7, pdX7_between⟩
theorem cwX3_47 : gCw RX3 47 mX3_carriedOver 2 := ⟨inT 348 (by decide +kernel) (by decide +kernel), cdX3_carriedOver, iniX3, pdX3_carriedOver⟩
theorem cwL_18 : gCw RL 18 mX8_loaves 2 := ⟨inT 353 (by decide +kernel) (by decide +kernel), cdX8_loaves, iniX8, pdX8_loaves⟩
theorem cwX8_97 : gCw RX8 97 mX6_hasVillage 1 := ⟨inT 357 (by decide +kernel) (by decide +kernel), cdX6_hasVillage, iniX6, pdX6_hasVillage⟩
theorem cwL_23 : gCw RL 23 mX8_road 3 := ⟨inT 362 (by decide +kernel) (by decide +kernel), cdX8_road, iniX8, pdX8_road⟩
theorem cwX8_105 : gCw RX8 105 mX6_takesRoad 3 := ⟨inT 366 (by decide +kernel) (by decide +kernel), cdX6_takesRoad, iniX6, pdX6_takesRoad⟩
theorem cwX6_44 : gCw RX6 44 mX6_hasVillage 1 := ⟨inT 370 (by decide +kernel) (by decide +kernel), cdX6_hasVillage, iniX6, pdX6_hasVillage⟩
theorem cwX8_108 : gCw RX8 108 mX6_lengthOf 2 := ⟨inT 372 (by decide +kernel) (by decide +kernel), cdX6_lengthOf, iniX6, pdX6_lengthOf⟩
theorem cwX8_112 : gCw RX8 112 mX6_pave 3 := ⟨inT 373 (by decide +kernel) (by decide +kernel), cdX6_pave, iniX6, pdX6_pave⟩
theorem cwL_28 : gCw RL 28 mX8_place 3 := ⟨inT 377 (by decide +kernel) (by decide +kernel), cdX8_place, iniX8, pdX8_place⟩
theorem cwX8_123 : gCw RX8 123 mX6_stake 3 := ⟨inT 383 (by decide +kernel) (by decide +kernel), cdX6_stake, iniX6, pdX6_stake⟩
theorem cwL_32 : gCw RL 32 mX8_reach 2 := ⟨inT 387 (by decide +kernel) (by decide +kernel), cdX8_reach, iniX8, pdX8_reach⟩
theorem cwX8_127 : gCw RX8 127 mX6_hasPlace 1 := ⟨inT 391 (by decide +kernel) (by decide +kernel), cdX6_hasPlace, iniX6, pdX6_hasPlace⟩
theorem cwL_36 : gCw RL 36 mX8_number 1 := ⟨inT 396 (by decide +kernel) (by decide +kernel), cdX8_number, iniX8, pdX8_number⟩
theorem cwL_40 : gCw RL 40 mX8_map 3 := ⟨inT 401 (by decide +kernel) (by decide +kernel), cdX8_map, iniX8, pdX8_map⟩
theorem cwX8_144 : gCw RX8 144 mX8_isMap 1 := ⟨inT 405 (by decide +kernel) (by decide +kernel), cdX8_isMap, iniX8, pdX8_isMap⟩
theorem cwX8_147 : gCw RX8 147 mX8_isLane 1 := ⟨inT 409 (by decide +kernel) (by decide +kernel), cdX8_isLane, iniX8, pdX8_isLane⟩
theorem cwX8_150 : gCw RX8 150 mX1_renew 2 := ⟨inT 413 (by decide +kernel) (by decide +kernel), cdX1_renew, iniX1, pdX1_renew⟩
theorem cwL_46 : gCw RL 46 mX8_lay 3 := ⟨inT 417 (by decide +kernel) (by decide +kernel), cdX8_lay, iniX8, pdX8_lay⟩
theorem cwX8_160 : gCw RX8 160 mX1_write 2 := ⟨inT 421 (by decide +kernel) (by decide +kernel), cdX1_write, iniX1, pdX1_write⟩
theorem cwL_51 : gCw RL 51 mX8_draw 3 := ⟨inT 425 (by decide +kernel) (by decide +kernel), cdX8_draw, iniX8, pdX8_draw⟩
theorem cwX8_164 : gCw RX8 164 mX8_refusalToDraw 3 := ⟨inT 429 (by decide +kernel) (by decide +kernel), cdX8_refusalToDraw, iniX8, pdX8_refusalToDraw⟩
theorem cwX8_337 : gCw RX8 337 mX1_holdsRoad 1 := ⟨inT 433 (by decide +kernel) (by decide +kernel), cdX1_holdsRoad, iniX1, pdX1_holdsRoad⟩
theorem cwX8_168 : gCw RX8 168 mX8_paveFrom 2 := ⟨inT 437 (by decide +kernel) (by decide +kernel), cdX8_paveFrom, iniX8, pdX8_paveFrom⟩
theorem cwL_55 : gCw RL 55 mX8_apart 2 := ⟨inT 441 (by decide +kernel) (by decide +kernel), cdX8_apart, iniX8, pdX8_apart⟩
theorem cwX8_172 : gCw RX8 172 mX7_between 2 := ⟨inT 445 (by decide +kernel) (by decide +kernel), cdX7_between, iniX7, pdX7_between⟩
theorem cwL_59 : gCw RL 59 mX8_way 3 := ⟨inT 447 (by decide +kernel) (by decide +kernel), cdX8_way, iniX8, pdX8_way⟩
theorem cwX8_176 : gCw RX8 176 mX7_villageAt 4 := ⟨inT 451 (by decide +kernel) (by decide +kernel), cdX7_villageAt, iniX7, pdX7_villageAt⟩
theorem cwX7_37 : gCw RX7 37 mX7_nextOf 3 := ⟨inT 455 (by decide +kernel) (by decide +kernel), cdX7_nextOf, iniX7, pdX7_nextOf⟩
theorem cwL_63 : gCw RL 63 mX8_allowed 1 := ⟨inT 459 (by decide +kernel) (by decide +kernel), cdX8_allowed, iniX8, pdX8_allowed⟩
theorem cwX8_180 : gCw RX8 180 mX3_isChoice 1 := ⟨inT 463 (by decide +kernel) (by decide +kernel), cdX3_isChoice, iniX3, pdX3_isChoice⟩
theorem cwX8_183 : gCw RX8 183 mX3_mayStand 1 := ⟨inT 467 (by decide +kernel) (by decide +kernel), cdX3_mayStand, iniX3, pdX3_mayStand⟩
theorem cwX3_57 : gCw RX3 57 mJ6_bitCount_0f7a4 1 := ⟨inT 471 (by decide +kernel) (by decide +kernel), cdJ6_bitCount_0f7a4, iniJ6, pdJ6_bitCount_0f7a4⟩
theorem cwL_67 : gCw RL 67 mX8_cost 1 := ⟨inT 477 (by decide +kernel) (by decide +kernel), cdX8_cost, iniX8, pdX8_cost⟩
theorem cwX8_188 : gCw RX8 188 mX3_measureOf 1 := ⟨inT 482 (by decide +kernel) (by decide +kernel), cdX3_measureOf, iniX3, pdX3_measureOf⟩
theorem cwX3_72 : gCw RX3 72 mX6_ovenCost 1 := ⟨inT 489 (by decide +kernel) (by decide +kernel), cdX6_ovenCost, iniX6, pdX6_ovenCost⟩
theorem cwX3_78 : gCw RX3 78 mX3_ovenFor 2 := ⟨inT 493 (by decide +kernel) (by decide +kernel), cdX3_ovenFor, iniX3, pdX3_ovenFor⟩
theorem cwX3_69 : gCw RX3 69 mX3_carriedTo 2 := ⟨inT 497 (by decide +kernel) (by decide +kernel), cdX3_carriedTo, iniX3, pdX3_carriedTo⟩
theorem cwL_72 : gCw RL 72 mX8_served 2 := ⟨inT 504 (by decide +kernel) (by decide +kernel), cdX8_served, iniX8, pdX8_served⟩
theorem cwX8_196 : gCw RX8 196 mX3_ovenFor 2 := ⟨inT 508 (by decide +kernel) (by decide +kernel), cdX3_ovenFor, iniX3, pdX3_ovenFor⟩
theorem cwL_76 : gCw RL 76 mX8_share 3 := ⟨inT 509 (by decide +kernel) (by decide +kernel), cdX8_share, iniX8, pdX8_share⟩
theorem cwX8_201 : gCw RX8 201 mX8_isIn 2 := ⟨inT 513 (by decide +kernel) (by decide +kernel), cdX8_isIn, iniX8, pdX8_isIn⟩
theorem cwX8_205 : gCw RX8 205 mX3_villagesOf 2 := ⟨inT 514 (by decide +kernel) (by decide +kernel), cdX3_villagesOf, iniX3, pdX3_villagesOf⟩
theorem cwX3_83 : gCw RX3 83 mX3_feeds 3 := ⟨inT 518 (by decide +kernel) (by decide +kernel), cdX3_feeds, iniX3, pdX3_feeds⟩
theorem cwX8_208 : gCw RX8 208 mX3_loavesOf 2 := ⟨inT 522 (by decide +kernel) (by decide +kernel), cdX3_loavesOf, iniX3, pdX3_loavesOf⟩
theorem cwX8_211 : gCw RX8 211 mX3_farthestOf 2 := ⟨inT 526 (by decide +kernel) (by decide +kernel), cdX3_farthestOf, iniX3, pdX3_farthestOf⟩
theorem cwX3_87 : gCw RX3 87 mJ9_max_7cf53 2 := ⟨inT 530 (by decide +kernel) (by decide +kernel), cdJ9_max_7cf53, iniJ9, pdJ9_max_7cf53⟩
theorem cwL_80 : gCw RL 80 mX8_least 0 := ⟨inT 533 (by decide +kernel) (by decide +kernel), cdX8_least, iniX8, pdX8_least⟩
theorem cwX8_214 : gCw RX8 214 mX8_surveyChoices 0 := ⟨inT 537 (by decide +kernel) (by decide +kernel), cdX8_surveyChoices, iniX8, pdX8_surveyChoices⟩
theorem cwX8_334 : gCw RX8 334 mX5_take 1 := ⟨inT 541 (by decide +kernel) (by decide +kernel), cdX5_take, iniX5, pdX5_take⟩
theorem cwX5_15 : gCw RX5 15 mX5_forget 0 := ⟨inT 545 (by decide +kernel) (by decide +kernel), cdX5_forget, iniX5, pdX5_forget⟩
theorem cwX5_30 : gCw RX5 30 mX3_mayStand 1 := ⟨inT 551 (by decide +kernel) (by decide +kernel), cdX3_mayStand, iniX3, pdX3_mayStand⟩
theorem cwX5_34 : gCw RX5 34 mX3_measureOf 1 := ⟨inT 552 (by decide +kernel) (by decide +kernel), cdX3_measureOf, iniX3, pdX3_measureOf⟩
theorem cwX5_40 : gCw RX5 40 mX5_noteCost 2 := ⟨inT 554 (by decide +kernel) (by decide +kernel), cdX5_noteCost, iniX5, pdX5_noteCost⟩
theorem cwX5_44 : gCw RX5 44 mX5_noteLosses 2 := ⟨inT 558 (by decide +kernel) (by decide +kernel), cdX5_noteLosses, iniX5, pdX5_noteLosses⟩
theorem cwX5_90 : gCw RX5 90 mJ9_min_f86c9 2 := ⟨inT 563 (by decide +kernel) (by decide +kernel), cdJ9_min_f86c9, iniJ9, pdJ9_min_f86c9⟩
theorem cwX5_47 : gCw RX5 47 mX3_farthestOfAll 1 := ⟨inT 566 (by decide +kernel) (by decide +kernel), cdX3_farthestOfAll, iniX3, pdX3_farthestOfAll⟩
theorem cwX5_51 : gCw RX5 51 mX5_noteFar 2 := ⟨inT 570 (by decide +kernel) (by decide +kernel), cdX5_noteFar, iniX5, pdX5_noteFar⟩
theorem cwL_85 : gCw RL 85 mX8_best 0 := ⟨inT 574 (by decide +kernel) (by decide +kernel), cdX8_best, iniX8, pdX8_best⟩
theorem cwL_90 : gCw RL 90 mX8_many 0 := ⟨inT 578 (by decide +kernel) (by decide +kernel), cdX8_many, iniX8, pdX8_many⟩
theorem cwL_94 : gCw RL 94 mX8_every 1 := ⟨inT 582 (by decide +kernel) (by decide +kernel), cdX8_every, iniX8, pdX8_every⟩
theorem cwL_98 : gCw RL 98 mX8_second 1 := ⟨inT 586 (by decide +kernel) (by decide +kernel), cdX8_second, iniX8, pdX8_second⟩
theorem cwL_102 : gCw RL 102 mX8_lose 1 := ⟨inT 590 (by decide +kernel) (by decide +kernel), cdX8_lose, iniX8, pdX8_lose⟩
theorem cwL_106 : gCw RL 106 mX8_worst 0 := ⟨inT 596 (by decide +kernel) (by decide +kernel), cdX8_worst, iniX8, pdX8_worst⟩
theorem cwX8_244 : gCw RX8 244 mX5_dearestLoss 1 := ⟨inT 600 (by decide +kernel) (by decide +kernel), cdX5_dearestLoss, iniX5, pdX5_dearestLoss⟩
theorem cwL_110 : gCw RL 110 mX8_farthest 0 := ⟨inT 605 (by decide +kernel) (by decide +kernel), cdX8_farthest, iniX8, pdX8_farthest⟩
theorem cwL_114 : gCw RL 114 mX8_nearest 0 := ⟨inT 609 (by decide +kernel) (by decide +kernel), cdX8_nearest, iniX8, pdX8_nearest⟩
theorem cwL_118 : gCw RL 118 mX8_added 0 := ⟨inT 613 (by decide +kernel) (by decide +kernel), cdX8_added, iniX8, pdX8_added⟩
theorem cwX8_257 : gCw RX8 257 mX0_putUp 0 := ⟨inT 617 (by decide +kernel) (by decide +kernel), cdX0_putUp, iniX0, pdX0_putUp⟩
theorem cwX0_31 : gCw RX0 31 mX0_withOneMore 1 := ⟨inT 621 (by decide +kernel) (by decide +kernel), cdX0_withOneMore, iniX0, pdX0_withOneMore⟩
theorem cwX0_38 : gCw RX0 38 mX0_startFrom 1 := ⟨inT 625 (by decide +kernel) (by decide +kernel), cdX0_startFrom, iniX0, pdX0_startFrom⟩
theorem cwX0_58 : gCw RX0 58 mX3_measureOf 1 := ⟨inT 629 (by decide +kernel) (by decide +kernel), cdX3_measureOf, iniX3, pdX3_measureOf⟩
theorem cwX0_55 : gCw RX0 55 mX0_consider 1 := ⟨inT 631 (by decide +kernel) (by decide +kernel), cdX0_consider, iniX0, pdX0_consider⟩
theorem cwX0_62 : gCw RX0 62 mX3_mayStand 1 := ⟨inT 635 (by decide +kernel) (by decide +kernel), cdX3_mayStand, iniX3, pdX3_mayStand⟩
theorem cwL_122 : gCw RL 122 mX8_changed 1 := ⟨inT 636 (by decide +kernel) (by decide +kernel), cdX8_changed, iniX8, pdX8_changed⟩
theorem cwX8_261 : gCw RX8 261 mX0_improve 1 := ⟨inT 640 (by decide +kernel) (by decide +kernel), cdX0_improve, iniX0, pdX0_improve⟩
theorem cwX0_35 : gCw RX0 35 mX0_withOneForAnother 1 := ⟨inT 644 (by decide +kernel) (by decide +kernel), cdX0_withOneForAnother, iniX0, pdX0_withOneForAnother⟩
theorem cwL_126 : gCw RL 126 mX8_moves 0 := ⟨inT 648 (by decide +kernel) (by decide +kernel), cdX8_moves, iniX8, pdX8_moves⟩
theorem cwL_130 : gCw RL 130 mX8_price 2 := ⟨inT 652 (by decide +kernel) (by decide +kernel), cdX8_price, iniX8, pdX8_price⟩
theorem cwL_134 : gCw RL 134 mX8_priced 1 := ⟨inT 657 (by decide +kernel) (by decide +kernel), cdX8_priced, iniX8, pdX8_priced⟩
theorem cwL_138 : gCw RL 138 mX8_gives 2 := ⟨inT 661 (by decide +kernel) (by decide +kernel), cdX8_gives, iniX8, pdX8_gives⟩
theorem cwX8_272 : gCw RX8 272 mX4_giftOf 2 := ⟨inT 665 (by decide +kernel) (by decide +kernel), cdX4_giftOf, iniX4, pdX4_giftOf⟩
theorem cwX4_34 : gCw RX4 34 mX3_carriedTo 2 := ⟨inT 669 (by decide +kernel) (by decide +kernel), cdX3_carriedTo, iniX3, pdX3_carriedTo⟩
theorem cwX4_47 : gCw RX4 47 mJ9_max_f86c9 2 := ⟨inT 671 (by decide +kernel) (by decide +kernel), cdJ9_max_f86c9, iniJ9, pdJ9_max_f86c9⟩
theorem cwL_143 : gCw RL 143 mX8_worth 1 := ⟨inT 674 (by decide +kernel) (by decide +kernel), cdX8_worth, iniX8, pdX8_worth⟩
theorem cwX8_276 : gCw RX8 276 mX4_worthOf 1 := ⟨inT 678 (by decide +kernel) (by decide +kernel), cdX4_worthOf, iniX4, pdX4_worthOf⟩
theorem cwX4_53 : gCw RX4 53 mX6_ovenCost 1 := ⟨inT 682 (by decide +kernel) (by decide +kernel), cdX6_ovenCost, iniX6, pdX6_ovenCost⟩
theorem cwX4_60 : gCw RX4 60 mX4_giftOf 2 := ⟨inT 683 (by decide +kernel) (by decide +kernel), cdX4_giftOf, iniX4, pdX4_giftOf⟩
theorem cwL_147 : gCw RL 147 mX8_bound 0 := ⟨inT 684 (by decide +kernel) (by decide +kernel), cdX8_bound, iniX8, pdX8_bound⟩
theorem cwX8_279 : gCw RX8 279 mX4_findTop 0 := ⟨inT 688 (by decide +kernel) (by decide +kernel), cdX4_findTop, iniX4, pdX4_findTop⟩
theorem cwX4_64 : gCw RX4 64 mX4_addUpWorths 0 := ⟨inT 692 (by decide +kernel) (by decide +kernel), cdX4_addUpWorths, iniX4, pdX4_addUpWorths⟩
theorem cwX4_74 : gCw RX4 74 mX4_worthOf 1 := ⟨inT 696 (by decide +kernel) (by decide +kernel), cdX4_worthOf, iniX4, pdX4_worthOf⟩
theorem cwX4_70 : gCw RX4 70 mX3_mayStand 1 := ⟨inT 697 (by decide +kernel) (by decide +kernel), cdX3_mayStand, iniX3, pdX3_mayStand⟩
theorem cwX8_285 : gCw RX8 285 mX4_boundOfTop 0 := ⟨inT 698 (by decide +kernel) (by decide +kernel), cdX4_boundOfTop, iniX4, pdX4_boundOfTop⟩
theorem cwL_151 : gCw RL 151 mX8_climb 2 := ⟨inT 702 (by decide +kernel) (by decide +kernel), cdX8_climb, iniX8, pdX8_climb⟩
theorem cwX8_291 : gCw RX8 291 mX4_climbFromTop 2 := ⟨inT 707 (by decide +kernel) (by decide +kernel), cdX4_climbFromTop, iniX4, pdX4_climbFromTop⟩
theorem cwX4_78 : gCw RX4 78 mX4_boundOfTop 0 := ⟨inT 711 (by decide +kernel) (by decide +kernel), cdX4_boundOfTop, iniX4, pdX4_boundOfTop⟩
theorem cwX4_82 : gCw RX4 82 mX4_movePrices 1 := ⟨inT 712 (by decide +kernel) (by decide +kernel), cdX4_movePrices, iniX4, pdX4_movePrices⟩
theorem cwX4_88 : gCw RX4 88 mX4_giversOfTop 1 := ⟨inT 716 (by decide +kernel) (by decide +kernel), cdX4_giversOfTop, iniX4, pdX4_giversOfTop⟩
theorem cwX4_91 : gCw RX4 91 mX4_movedPrice 3 := ⟨inT 721 (by decide +kernel) (by decide +kernel), cdX4_movedPrice, iniX4, pdX4_movedPrice⟩
theorem cwX4_97 : gCw RX4 97 mJ9_min_f86c9 2 := ⟨inT 725 (by decide +kernel) (by decide +kernel), cdJ9_min_f86c9, iniJ9, pdJ9_min_f86c9⟩
theorem cwX4_85 : gCw RX4 85 mX4_findTop 0 := ⟨inT 726 (by decide +kernel) (by decide +kernel), cdX4_findTop, iniX4, pdX4_findTop⟩
theorem cwL_155 : gCw RL 155 mX8_highest 0 := ⟨inT 727 (by decide +kernel) (by decide +kernel), cdX8_highest, iniX8, pdX8_highest⟩
theorem cwL_159 : gCw RL 159 mX8_undo 0 := ⟨inT 731 (by decide +kernel) (by decide +kernel), cdX8_undo, iniX8, pdX8_undo⟩
theorem cwX8_300 : gCw RX8 300 mX2_turnBack 1 := ⟨inT 735 (by decide +kernel) (by decide +kernel), cdX2_turnBack, iniX2, pdX2_turnBack⟩
theorem cwX8_303 : gCw RX8 303 mX4_forgetFrom 1 := ⟨inT 739 (by decide +kernel) (by decide +kernel), cdX4_forgetFrom, iniX4, pdX4_forgetFrom⟩
theorem cwL_163 : gCw RL 163 mX8_count 1 := ⟨inT 743 (by decide +kernel) (by decide +kernel), cdX8_count, iniX8, pdX8_count⟩
theorem cwX8_310 : gCw RX8 310 mX6_roads 0 := ⟨inT 747 (by decide +kernel) (by decide +kernel), cdX6_roads, iniX6, pdX6_roads⟩
theorem cwX6_50 : gCw RX6 50 mX6_lengthOf 2 := ⟨inT 751 (by decide +kernel) (by decide +kernel), cdX6_lengthOf, iniX6, pdX6_lengthOf⟩
theorem cwX8_313 : gCw RX8 313 mX6_allLoaves 0 := ⟨inT 752 (by decide +kernel) (by decide +kernel), cdX6_allLoaves, iniX6, pdX6_allLoaves⟩
theorem cwX8_316 : gCw RX8 316 mJ6_bitCount_0f7a4 1 := ⟨inT 756 (by decide +kernel) (by decide +kernel), cdJ6_bitCount_0f7a4, iniJ6, pdJ6_bitCount_0f7a4⟩
theorem cwL_12 : gCw RL 12 mX9_init 0 := ⟨inT 759 (by decide +kernel) (by decide +kernel), cdX9_init, iniX9, pdX9_init⟩
theorem oiX9_1 : Cond.methodLink RX9 1 Lib.objectInit ∈ gTb ∧ Cond.instanceMethod Lib.objectInit ∈ gTb ∧ Cond.code Lib.objectInit ⟨#[0xb1]⟩ 1 none ∈ gTb := ⟨inT 762 (by decide +kernel) (by decide +kernel), inT 20 (by decide +kernel) (by decide +kernel), inT 21 (by decide +kernel) (by decide +kernel)⟩
theorem cwL_162 : gCw RL 162 mX9_undo 0 := ⟨inT 881 (by decide +kernel) (by decide +kernel), cdX9_undo, iniX9, pdX9_undo⟩
theorem cwL_17 : gCw RL 17 mX9_village 1 := ⟨inT 885 (by decide +kernel) (by decide +kernel), cdX9_village, iniX9, pdX9_village⟩
theorem cwX9_81 : gCw RX9 81 mX9_in 3 := ⟨inT 890 (by decide +kernel) (by decide +kernel), cdX9_in, iniX9, pdX9_in⟩
theorem cwX9_87 : gCw RX9 87 mX9_keep 0 := ⟨inT 893 (by decide +kernel) (by decide +kernel), cdX9_keep, iniX9, pdX9_keep⟩
theorem cwL_22 : gCw RL 22 mX9_loaves 2 := ⟨inT 897 (by decide +kernel) (by decide +kernel), cdX9_loaves, iniX9, pdX9_loaves⟩
theorem cwX9_90 : gCw RX9 90 mX9_isVillage 1 := ⟨inT 901 (by decide +kernel) (by decide +kernel), cdX9_isVillage, iniX9, pdX9_isVillage⟩
theorem cwL_27 : gCw RL 27 mX9_road 3 := ⟨inT 905 (by decide +kernel) (by decide +kernel), cdX9_road, iniX9, pdX9_road⟩
theorem cwX9_94 : gCw RX9 94 mX9_isRoad 3 := ⟨inT 909 (by decide +kernel) (by decide +kernel), cdX9_isRoad, iniX9, pdX9_isRoad⟩
theorem cwL_31 : gCw RL 31 mX9_place 3 := ⟨inT 913 (by decide +kernel) (by decide +kernel), cdX9_place, iniX9, pdX9_place⟩
theorem cwL_35 : gCw RL 35 mX9_reach 2 := ⟨inT 919 (by decide +kernel) (by decide +kernel), cdX9_reach, iniX9, pdX9_reach⟩
theorem cwX9_101 : gCw RX9 101 mX9_isPlace 1 := ⟨inT 923 (by decide +kernel) (by decide +kernel), cdX9_isPlace, iniX9, pdX9_isPlace⟩
theorem cwL_39 : gCw RL 39 mX9_number 1 := ⟨inT 928 (by decide +kernel) (by decide +kernel), cdX9_number, iniX9, pdX9_number⟩
theorem cwL_43 : gCw RL 43 mX9_map 3 := ⟨inT 933 (by decide +kernel) (by decide +kernel), cdX9_map, iniX9, pdX9_map⟩
theorem cwL_50 : gCw RL 50 mX9_lay 3 := ⟨inT 939 (by decide +kernel) (by decide +kernel), cdX9_lay, iniX9, pdX9_lay⟩
theorem cwL_54 : gCw RL 54 mX9_draw 3 := ⟨inT 943 (by decide +kernel) (by decide +kernel), cdX9_draw, iniX9, pdX9_draw⟩
theorem cwL_58 : gCw RL 58 mX9_apart 2 := ⟨inT 947 (by decide +kernel) (by decide +kernel), cdX9_apart, iniX9, pdX9_apart⟩
theorem cwX9_112 : gCw RX9 112 mX9_findWays 0 := ⟨inT 951 (by decide +kernel) (by decide +kernel), cdX9_findWays, iniX9, pdX9_findWays⟩
theorem cwL_62 : gCw RL 62 mX9_way 3 := ⟨inT 955 (by decide +kernel) (by decide +kernel), cdX9_way, iniX9, pdX9_way⟩
theorem cwL_66 : gCw RL 66 mX9_allowed 1 := ⟨inT 959 (by decide +kernel) (by decide +kernel), cdX9_allowed, iniX9, pdX9_allowed⟩
theorem cwX9_136 : gCw RX9 136 mX9_isChoice 1 := ⟨inT 963 (by decide +kernel) (by decide +kernel), cdX9_isChoice, iniX9, pdX9_isChoice⟩
theorem cwX9_139 : gCw RX9 139 mX9_isAllowed 1 := ⟨inT 967 (by decide +kernel) (by decide +kernel), cdX9_isAllowed, iniX9, pdX9_isAllowed⟩
theorem cwL_71 : gCw RL 71 mX9_cost 1 := ⟨inT 971 (by decide +kernel) (by decide +kernel), cdX9_cost, iniX9, pdX9_cost⟩
theorem cwX9_144 : gCw RX9 144 mX9_weigh 1 := ⟨inT 976 (by decide +kernel) (by decide +kernel), cdX9_weigh, iniX9, pdX9_weigh⟩
theorem cwX9_129 : gCw RX9 129 mX9_ovenCost 1 := ⟨inT 980 (by decide +kernel) (by decide +kernel), cdX9_ovenCost, iniX9, pdX9_ovenCost⟩
theorem cwX9_133 : gCw RX9 133 mX9_servedBy 2 := ⟨inT 984 (by decide +kernel) (by decide +kernel), cdX9_servedBy, iniX9, pdX9_servedBy⟩
theorem cwX9_115 : gCw RX9 115 mX9_carried 2 := ⟨inT 988 (by decide +kernel) (by decide +kernel), cdX9_carried, iniX9, pdX9_carried⟩
theorem cwL_75 : gCw RL 75 mX9_served 2 := ⟨inT 993 (by decide +kernel) (by decide +kernel), cdX9_served, iniX9, pdX9_served⟩
theorem cwL_79 : gCw RL 79 mX9_share 3 := ⟨inT 997 (by decide +kernel) (by decide +kernel), cdX9_share, iniX9, pdX9_share⟩
theorem cwL_84 : gCw RL 84 mX9_least 0 := ⟨inT 1001 (by decide +kernel) (by decide +kernel), cdX9_least, iniX9, pdX9_least⟩
theorem cwX9_165 : gCw RX9 165 mX9_find 2 := ⟨inT 1005 (by decide +kernel) (by decide +kernel), cdX9_find, iniX9, pdX9_find⟩
theorem cwL_89 : gCw RL 89 mX9_best 0 := ⟨inT 1009 (by decide +kernel) (by decide +kernel), cdX9_best, iniX9, pdX9_best⟩
theorem cwL_93 : gCw RL 93 mX9_many 0 := ⟨inT 1013 (by decide +kernel) (by decide +kernel), cdX9_many, iniX9, pdX9_many⟩
theorem cwL_97 : gCw RL 97 mX9_every 1 := ⟨inT 1017 (by decide +kernel) (by decide +kernel), cdX9_every, iniX9, pdX9_every⟩
theorem cwL_101 : gCw RL 101 mX9_second 1 := ⟨inT 1021 (by decide +kernel) (by decide +kernel), cdX9_second, iniX9, pdX9_second⟩
theorem cwL_105 : gCw RL 105 mX9_lose 1 := ⟨inT 1025 (by decide +kernel) (by decide +kernel), cdX9_lose, iniX9, pdX9_lose⟩
theorem cwL_109 : gCw RL 109 mX9_worst 0 := ⟨inT 1030 (by decide +kernel) (by decide +kernel), cdX9_worst, iniX9, pdX9_worst⟩
theorem cwL_113 : gCw RL 113 mX9_farthest 0 := ⟨inT 1035 (by decide +kernel) (by decide +kernel), cdX9_farthest, iniX9, pdX9_farthest⟩
theorem cwX9_179 : gCw RX9 179 mX9_findNearest 0 := ⟨inT 1039 (by decide +kernel) (by decide +kernel), cdX9_findNearest, iniX9, pdX9_findNearest⟩
theorem cwL_117 : gCw RL 117 mX9_nearest 0 := ⟨inT 1043 (by decide +kernel) (by decide +kernel), cdX9_nearest, iniX9, pdX9_nearest⟩
theorem cwL_121 : gCw RL 121 mX9_added 0 := ⟨inT 1047 (by decide +kernel) (by decide +kernel), cdX9_added, iniX9, pdX9_added⟩
theorem cwX9_188 : gCw RX9 188 mX9_shrines 0 := ⟨inT 1051 (by decide +kernel) (by decide +kernel), cdX9_shrines, iniX9, pdX9_shrines⟩
theorem cwX9_195 : gCw RX9 195 mX9_begins 1 := ⟨inT 1055 (by decide +kernel) (by decide +kernel), cdX9_begins, iniX9, pdX9_begins⟩
theorem cwX9_198 : gCw RX9 198 mX9_isLess 1 := ⟨inT 1059 (by decide +kernel) (by decide +kernel), cdX9_isLess, iniX9, pdX9_isLess⟩
theorem cwL_125 : gCw RL 125 mX9_changed 1 := ⟨inT 1063 (by decide +kernel) (by decide +kernel), cdX9_changed, iniX9, pdX9_changed⟩
theorem cwL_129 : gCw RL 129 mX9_moves 0 := ⟨inT 1067 (by decide +kernel) (by decide +kernel), cdX9_moves, iniX9, pdX9_moves⟩
theorem cwL_133 : gCw RL 133 mX9_price 2 := ⟨inT 1071 (by decide +kernel) (by decide +kernel), cdX9_price, iniX9, pdX9_price⟩
theorem cwL_137 : gCw RL 137 mX9_priced 1 := ⟨inT 1076 (by decide +kernel) (by decide +kernel), cdX9_priced, iniX9, pdX9_priced⟩
theorem cwL_142 : gCw RL 142 mX9_gives 2 := ⟨inT 1080 (by decide +kernel) (by decide +kernel), cdX9_gives, iniX9, pdX9_gives⟩
theorem cwX9_203 : gCw RX9 203 mX9_given 2 := ⟨inT 1084 (by decide +kernel) (by decide +kernel), cdX9_given, iniX9, pdX9_given⟩
theorem cwL_146 : gCw RL 146 mX9_worth 1 := ⟨inT 1088 (by decide +kernel) (by decide +kernel), cdX9_worth, iniX9, pdX9_worth⟩
theorem cwX9_207 : gCw RX9 207 mX9_worthOf 1 := ⟨inT 1092 (by decide +kernel) (by decide +kernel), cdX9_worthOf, iniX9, pdX9_worthOf⟩
theorem cwL_150 : gCw RL 150 mX9_bound 0 := ⟨inT 1096 (by decide +kernel) (by decide +kernel), cdX9_bound, iniX9, pdX9_bound⟩
theorem cwX9_220 : gCw RX9 220 mX9_boundNow 0 := ⟨inT 1100 (by decide +kernel) (by decide +kernel), cdX9_boundNow, iniX9, pdX9_boundNow⟩
theorem cwX9_217 : gCw RX9 217 mX9_findRichest 0 := ⟨inT 1104 (by decide +kernel) (by decide +kernel), cdX9_findRichest, iniX9, pdX9_findRichest⟩
theorem cwL_154 : gCw RL 154 mX9_climb 2 := ⟨inT 1108 (by decide +kernel) (by decide +kernel), cdX9_climb, iniX9, pdX9_climb⟩
theorem cwL_158 : gCw RL 158 mX9_highest 0 := ⟨inT 1113 (by decide +kernel) (by decide +kernel), cdX9_highest, iniX9, pdX9_highest⟩
theorem cwL_166 : gCw RL 166 mX9_count 1 := ⟨inT 1117 (by decide +kernel) (by decide +kernel), cdX9_count, iniX9, pdX9_count⟩
theorem cnX8_13 : gCn RX8 13 mX6_init "BreadOvens" 0 := ⟨List.mem_of_getElem? (i := 0) (by decide +kernel), cdX6_init, iniX6, pdX6_init⟩
theorem cnX2_24 : gCn RX2 24 mX6_init "BreadOvens" 0 := ⟨List.mem_of_getElem? (i := 1) (by decide +kernel), cdX6_init, iniX6, pdX6_init⟩
theorem cnX8_33 : gCn RX8 33 mX7_init "BreadOvens" 0 := ⟨List.mem_of_getElem? (i := 2) (by decide +kernel), cdX7_init, iniX7, pdX7_init⟩
theorem cnX8_49 : gCn RX8 49 mX5_init "BreadOvens" 0 := ⟨List.mem_of_getElem? (i := 3) (by decide +kernel), cdX5_init, iniX5, pdX5_init⟩
theorem cnX8_76 : gCn RX8 76 mX1_init "BreadOvens" 0 := ⟨List.mem_of_getElem? (i := 4) (by decide +kernel), cdX1_init, iniX1, pdX1_init⟩
theorem cnX6_40 : gCn RX6 40 mX8_isWithin "BreadOvens" 3 := ⟨List.mem_of_getElem? (i := 5) (by decide +kernel), cdX8_isWithin, iniX8, pdX8_isWithin⟩
theorem cnX3_65 : gCn RX3 65 mX8_isIn "BreadOvens" 2 := ⟨List.mem_of_getElem? (i := 6) (by decide +kernel), cdX8_isIn, iniX8, pdX8_isIn⟩
theorem cnX5_86 : gCn RX5 86 mX8_isIn "BreadOvens" 2 := ⟨List.mem_of_getElem? (i := 7) (by decide +kernel), cdX8_isIn, iniX8, pdX8_isIn⟩
theorem cnX0_51 : gCn RX0 51 mX8_isIn "BreadOvens" 2 := ⟨List.mem_of_getElem? (i := 8) (by decide +kernel), cdX8_isIn, iniX8, pdX8_isIn⟩
theorem cnX4_100 : gCn RX4 100 mX8_isIn "BreadOvens" 2 := ⟨List.mem_of_getElem? (i := 9) (by decide +kernel), cdX8_isIn, iniX8, pdX8_isIn⟩
theorem kcX7_33 : Cond.constant RX7 33 (Int32.ofInt (1000000)) ∈ gTb := inT 330 (by decide +kernel) (by decide +kernel)
theorem kcX3_50 : Cond.constant RX3 50 (Int32.ofInt (1000000)) ∈ gTb := inT 352 (by decide +kernel) (by decide +kernel)
theorem kcX8_175 : Cond.constant RX8 175 (Int32.ofInt (1000000)) ∈ gTb := inT 446 (by decide +kernel) (by decide +kernel)
theorem kcJ6_265 : Cond.constant RJ6 265 (Int32.ofInt (1431655765)) ∈ gTb := inT 474 (by decide +kernel) (by decide +kernel)
theorem kcJ6_266 : Cond.constant RJ6 266 (Int32.ofInt (858993459)) ∈ gTb := inT 475 (by decide +kernel) (by decide +kernel)
theorem kcJ6_267 : Cond.constant RJ6 267 (Int32.ofInt (252645135)) ∈ gTb := inT 476 (by decide +kernel) (by decide +kernel)
theorem kcX5_79 : Cond.constant RX5 79 (Int32.ofInt (1000000)) ∈ gTb := inT 550 (by decide +kernel) (by decide +kernel)
theorem kcX4_46 : Cond.constant RX4 46 (Int32.ofInt (1000000)) ∈ gTb := inT 670 (by decide +kernel) (by decide +kernel)
theorem klX8_77 : Cond.constantLong RX8 77 (Int64.ofInt (1000)) ∈ gTb := inT 277 (by decide +kernel) (by decide +kernel)
theorem klX6_48 : Cond.constantLong RX6 48 (Int64.ofInt (1000)) ∈ gTb := inT 371 (by decide +kernel) (by decide +kernel)
theorem klX8_116 : Cond.constantLong RX8 116 (Int64.ofInt (4)) ∈ gTb := inT 381 (by decide +kernel) (by decide +kernel)
theorem klX8_118 : Cond.constantLong RX8 118 (Int64.ofInt (100000)) ∈ gTb := inT 382 (by decide +kernel) (by decide +kernel)
theorem klX8_131 : Cond.constantLong RX8 131 (Int64.ofInt (12000)) ∈ gTb := inT 395 (by decide +kernel) (by decide +kernel)
theorem klX8_139 : Cond.constantLong RX8 139 (Int64.ofInt (20)) ∈ gTb := inT 400 (by decide +kernel) (by decide +kernel)
theorem klX8_321 : Cond.constantLong RX8 321 (Int64.ofInt (3)) ∈ gTb := inT 408 (by decide +kernel) (by decide +kernel)
theorem klX8_199 : Cond.constantLong RX8 199 (Int64.ofInt (2)) ∈ gTb := inT 412 (by decide +kernel) (by decide +kernel)
theorem klX8_186 : Cond.constantLong RX8 186 (Int64.ofInt (-1)) ∈ gTb := inT 481 (by decide +kernel) (by decide +kernel)
theorem klX3_81 : Cond.constantLong RX3 81 (Int64.ofInt (1099511627776)) ∈ gTb := inT 501 (by decide +kernel) (by decide +kernel)
theorem klX8_192 : Cond.constantLong RX8 192 (Int64.ofInt (1099511627776)) ∈ gTb := inT 502 (by decide +kernel) (by decide +kernel)
theorem klX8_194 : Cond.constantLong RX8 194 (Int64.ofInt (-4)) ∈ gTb := inT 503 (by decide +kernel) (by decide +kernel)
theorem klX5_55 : Cond.constantLong RX5 55 (Int64.ofInt (9223372036854775807)) ∈ gTb := inT 549 (by decide +kernel) (by decide +kernel)
theorem klX5_38 : Cond.constantLong RX5 38 (Int64.ofInt (1099511627776)) ∈ gTb := inT 553 (by decide +kernel) (by decide +kernel)
theorem klX8_236 : Cond.constantLong RX8 236 (Int64.ofInt (-2)) ∈ gTb := inT 594 (by decide +kernel) (by decide +kernel)
theorem klX8_242 : Cond.constantLong RX8 242 (Int64.ofInt (9223372036854775807)) ∈ gTb := inT 595 (by decide +kernel) (by decide +kernel)
theorem klX5_96 : Cond.constantLong RX5 96 (Int64.ofInt (-1)) ∈ gTb := inT 604 (by decide +kernel) (by decide +kernel)
theorem klX8_267 : Cond.constantLong RX8 267 (Int64.ofInt (100000000)) ∈ gTb := inT 656 (by decide +kernel) (by decide +kernel)
theorem klX8_289 : Cond.constantLong RX8 289 (Int64.ofInt (100)) ∈ gTb := inT 706 (by decide +kernel) (by decide +kernel)
theorem klX4_95 : Cond.constantLong RX4 95 (Int64.ofInt (100000000)) ∈ gTb := inT 724 (by decide +kernel) (by decide +kernel)
theorem klX9_85 : Cond.constantLong RX9 85 (Int64.ofInt (1000)) ∈ gTb := inT 889 (by decide +kernel) (by decide +kernel)
theorem klX9_97 : Cond.constantLong RX9 97 (Int64.ofInt (4)) ∈ gTb := inT 917 (by decide +kernel) (by decide +kernel)
theorem klX9_99 : Cond.constantLong RX9 99 (Int64.ofInt (100000)) ∈ gTb := inT 918 (by decide +kernel) (by decide +kernel)
theorem klX9_104 : Cond.constantLong RX9 104 (Int64.ofInt (12000)) ∈ gTb := inT 927 (by decide +kernel) (by decide +kernel)
theorem klX9_106 : Cond.constantLong RX9 106 (Int64.ofInt (20)) ∈ gTb := inT 932 (by decide +kernel) (by decide +kernel)
theorem klX9_108 : Cond.constantLong RX9 108 (Int64.ofInt (3)) ∈ gTb := inT 937 (by decide +kernel) (by decide +kernel)
theorem klX9_110 : Cond.constantLong RX9 110 (Int64.ofInt (2)) ∈ gTb := inT 938 (by decide +kernel) (by decide +kernel)
theorem klX9_142 : Cond.constantLong RX9 142 (Int64.ofInt (-1)) ∈ gTb := inT 975 (by decide +kernel) (by decide +kernel)
theorem klX9_148 : Cond.constantLong RX9 148 (Int64.ofInt (-4)) ∈ gTb := inT 992 (by decide +kernel) (by decide +kernel)
theorem klX9_169 : Cond.constantLong RX9 169 (Int64.ofInt (-2)) ∈ gTb := inT 1029 (by decide +kernel) (by decide +kernel)
theorem klX9_171 : Cond.constantLong RX9 171 (Int64.ofInt (9223372036854775807)) ∈ gTb := inT 1034 (by decide +kernel) (by decide +kernel)
theorem klX9_201 : Cond.constantLong RX9 201 (Int64.ofInt (100000000)) ∈ gTb := inT 1075 (by decide +kernel) (by decide +kernel)
theorem klX9_224 : Cond.constantLong RX9 224 (Int64.ofInt (100)) ∈ gTb := inT 1112 (by decide +kernel) (by decide +kernel)
theorem klL_44 : Cond.constantLong RL 44 (Int64.ofInt (4294967295)) ∈ gTb := inT 1121 (by decide +kernel) (by decide +kernel)
theorem clL_7 : Cond.classLink RL 7 RX8 ∈ gTb := inT 14 (by decide +kernel) (by decide +kernel)
theorem ncL_7 : gNc RL 7 8 := ⟨(RX8, TX8, 9), tyX8, rfl, uwX8, tyX8_ok, clL_7, inT 15 (by decide +kernel) (by decide +kernel), inT 1 (by decide +kernel) (by decide +kernel), rfl, fun j hj => by
  match j, (show j < 9 from hj) with
  | 0, _ => exact ⟨2, rfl, by decide, Or.inl ⟨_, rfl⟩⟩
  | 1, _ => exact ⟨2, rfl, by decide, Or.inl ⟨_, rfl⟩⟩
  | 2, _ => exact ⟨2, rfl, by decide, Or.inr ⟨_, rfl⟩⟩
  | 3, _ => exact ⟨2, rfl, by decide, Or.inl ⟨_, rfl⟩⟩
  | 4, _ => exact ⟨2, rfl, by decide, Or.inl ⟨_, rfl⟩⟩
  | 5, _ => exact ⟨2, rfl, by decide, Or.inl ⟨_, rfl⟩⟩
  | 6, _ => exact ⟨2, rfl, by decide, Or.inl ⟨_, rfl⟩⟩
  | 7, _ => exact ⟨2, rfl, by decide, Or.inl ⟨_, rfl⟩⟩
  | 8, _ => exact ⟨3, rfl, by decide, rfl⟩
  | j + 9, hj => omega⟩
theorem clX8_11 : Cond.classLink RX8 11 RX6 ∈ gTb := inT 22 (by decide +kernel) (by decide +kernel)
theorem ncX8_11 : gNc RX8 11 6 := ⟨(RX6, TX6, 9), tyX6, rfl, uwX6, tyX6_ok, clX8_11, inT 23 (by decide +kernel) (by decide +kernel), inT 2 (by decide +kernel) (by decide +kernel), rfl, fun j hj => by
  match j, (show j < 9 from hj) with
  | 0, _ => exact ⟨0, rfl, by decide, rfl⟩
  | 1, _ => exact ⟨0, rfl, by decide, rfl⟩
  | 2, _ => exact ⟨0, rfl, by decide, rfl⟩
  | 3, _ => exact ⟨2, rfl, by decide, Or.inr ⟨_, rfl⟩⟩
  | 4, _ => exact ⟨2, rfl, by decide, Or.inr ⟨_, rfl⟩⟩
  | 5, _ => exact ⟨2, rfl, by decide, Or.inr ⟨_, rfl⟩⟩
  | 6, _ => exact ⟨2, rfl, by decide, Or.inr ⟨_, rfl⟩⟩
  | 7, _ => exact ⟨2, rfl, by decide, Or.inr ⟨_, rfl⟩⟩
  | 8, _ => exact ⟨2, rfl, by decide, Or.inr ⟨_, rfl⟩⟩
  | j + 9, hj => omega⟩
theorem clX8_18 : Cond.classLink RX8 18 RX2 ∈ gTb := inT 77 (by decide +kernel) (by decide +kernel)
theorem ncX8_18 : gNc RX8 18 2 := ⟨(RX2, TX2, 3), tyX2, rfl, uwX2, tyX2_ok, clX8_18, inT 78 (by decide +kernel) (by decide +kernel), inT 3 (by decide +kernel) (by decide +kernel), rfl, fun j hj => by
  match j, (show j < 3 from hj) with
  | 0, _ => exact ⟨2, rfl, by decide, Or.inr ⟨_, rfl⟩⟩
  | 1, _ => exact ⟨0, rfl, by decide, rfl⟩
  | 2, _ => exact ⟨0, rfl, by decide, rfl⟩
  | j + 3, hj => omega⟩
theorem clX2_11 : Cond.classLink RX2 11 RX6 ∈ gTb := inT 83 (by decide +kernel) (by decide +kernel)
theorem ncX2_11 : gNc RX2 11 6 := ⟨(RX6, TX6, 9), tyX6, rfl, uwX6, tyX6_ok, clX2_11, inT 23 (by decide +kernel) (by decide +kernel), inT 2 (by decide +kernel) (by decide +kernel), rfl, fun j hj => by
  match j, (show j < 9 from hj) with
  | 0, _ => exact ⟨0, rfl, by decide, rfl⟩
  | 1, _ => exact ⟨0, rfl, by decide, rfl⟩
  | 2, _ => exact ⟨0, rfl, by decide, rfl⟩
  | 3, _ => exact ⟨2, rfl, by decide, Or.inr ⟨_, rfl⟩⟩
  | 4, _ => exact ⟨2, rfl, by decide, Or.inr ⟨_, rfl⟩⟩
  | 5, _ => exact ⟨2, rfl, by decide, Or.inr ⟨_, rfl⟩⟩
  | 6, _ => exact ⟨2, rfl, by decide, Or.inr ⟨_, rfl⟩⟩
  | 7, _ => exact ⟨2, rfl, by decide, Or.inr ⟨_, rfl⟩⟩
  | 8, _ => exact ⟨2, rfl, by decide, Or.inr ⟨_, rfl⟩⟩
  | j + 9, hj => omega⟩
theorem clX8_25 : Cond.classLink RX8 25 RX1 ∈ gTb := inT 97 (by decide +kernel) (by decide +kernel)
theorem ncX8_25 : gNc RX8 25 1 := ⟨(RX1, TX1, 3), tyX1, rfl, uwX1, tyX1_ok, clX8_25, inT 227 (by decide +kernel) (by decide +kernel), inT 9 (by decide +kernel) (by decide +kernel), rfl, fun j hj => by
  match j, (show j < 3 from hj) with
  | 0, _ => exact ⟨0, rfl, by decide, rfl⟩
  | 1, _ => exact ⟨0, rfl, by decide, rfl⟩
  | 2, _ => exact ⟨2, rfl, by decide, Or.inr ⟨_, rfl⟩⟩
  | j + 3, hj => omega⟩
theorem clX8_31 : Cond.classLink RX8 31 RX7 ∈ gTb := inT 99 (by decide +kernel) (by decide +kernel)
theorem ncX8_31 : gNc RX8 31 7 := ⟨(RX7, TX7, 1), tyX7, rfl, uwX7, tyX7_ok, clX8_31, inT 100 (by decide +kernel) (by decide +kernel), inT 4 (by decide +kernel) (by decide +kernel), rfl, fun j hj => by
  match j, (show j < 1 from hj) with
  | 0, _ => exact ⟨2, rfl, by decide, Or.inr ⟨_, rfl⟩⟩
  | j + 1, hj => omega⟩
theorem clX8_38 : Cond.classLink RX8 38 RX3 ∈ gTb := inT 109 (by decide +kernel) (by decide +kernel)
theorem ncX8_38 : gNc RX8 38 3 := ⟨(RX3, TX3, 4), tyX3, rfl, uwX3, tyX3_ok, clX8_38, inT 110 (by decide +kernel) (by decide +kernel), inT 5 (by decide +kernel) (by decide +kernel), rfl, fun j hj => by
  match j, (show j < 4 from hj) with
  | 0, _ => exact ⟨2, rfl, by decide, Or.inl ⟨_, rfl⟩⟩
  | 1, _ => exact ⟨2, rfl, by decide, Or.inr ⟨_, rfl⟩⟩
  | 2, _ => exact ⟨0, rfl, by decide, rfl⟩
  | 3, _ => exact ⟨0, rfl, by decide, rfl⟩
  | j + 4, hj => omega⟩
theorem clX8_47 : Cond.classLink RX8 47 RX5 ∈ gTb := inT 132 (by decide +kernel) (by decide +kernel)
theorem ncX8_47 : gNc RX8 47 5 := ⟨(RX5, TX5, 10), tyX5, rfl, uwX5, tyX5_ok, clX8_47, inT 133 (by decide +kernel) (by decide +kernel), inT 6 (by decide +kernel) (by decide +kernel), rfl, fun j hj => by
  match j, (show j < 10 from hj) with
  | 0, _ => exact ⟨1, rfl, by decide, rfl⟩
  | 1, _ => exact ⟨0, rfl, by decide, rfl⟩
  | 2, _ => exact ⟨0, rfl, by decide, rfl⟩
  | 3, _ => exact ⟨0, rfl, by decide, rfl⟩
  | 4, _ => exact ⟨0, rfl, by decide, rfl⟩
  | 5, _ => exact ⟨1, rfl, by decide, rfl⟩
  | 6, _ => exact ⟨0, rfl, by decide, rfl⟩
  | 7, _ => exact ⟨0, rfl, by decide, rfl⟩
  | 8, _ => exact ⟨0, rfl, by decide, rfl⟩
  | 9, _ => exact ⟨2, rfl, by decide, Or.inr ⟨_, rfl⟩⟩
  | j + 10, hj => omega⟩
theorem clX8_54 : Cond.classLink RX8 54 RX0 ∈ gTb := inT 179 (by decide +kernel) (by decide +kernel)
theorem ncX8_54 : gNc RX8 54 0 := ⟨(RX0, TX0, 4), tyX0, rfl, uwX0, tyX0_ok, clX8_54, inT 180 (by decide +kernel) (by decide +kernel), inT 7 (by decide +kernel) (by decide +kernel), rfl, fun j hj => by
  match j, (show j < 4 from hj) with
  | 0, _ => exact ⟨2, rfl, by decide, Or.inl ⟨_, rfl⟩⟩
  | 1, _ => exact ⟨0, rfl, by decide, rfl⟩
  | 2, _ => exact ⟨0, rfl, by decide, rfl⟩
  | 3, _ => exact ⟨1, rfl, by decide, rfl⟩
  | j + 4, hj => omega⟩
theorem clX8_63 : Cond.classLink RX8 63 RX4 ∈ gTb := inT 199 (by decide +kernel) (by decide +kernel)
theorem ncX8_63 : gNc RX8 63 4 := ⟨(RX4, TX4, 6), tyX4, rfl, uwX4, tyX4_ok, clX8_63, inT 200 (by decide +kernel) (by decide +kernel), inT 8 (by decide +kernel) (by decide +kernel), rfl, fun j hj => by
  match j, (show j < 6 from hj) with
  | 0, _ => exact ⟨2, rfl, by decide, Or.inl ⟨_, rfl⟩⟩
  | 1, _ => exact ⟨2, rfl, by decide, Or.inl ⟨_, rfl⟩⟩
  | 2, _ => exact ⟨2, rfl, by decide, Or.inr ⟨_, rfl⟩⟩
  | 3, _ => exact ⟨2, rfl, by decide, Or.inr ⟨_, rfl⟩⟩
  | 4, _ => exact ⟨0, rfl, by decide, rfl⟩
  | 5, _ => exact ⟨1, rfl, by decide, rfl⟩
  | j + 6, hj => omega⟩
theorem clL_10 : Cond.classLink RL 10 RX9 ∈ gTb := inT 757 (by decide +kernel) (by decide +kernel)
theorem ncL_10 : gNc RL 10 9 := ⟨(RX9, TX9, 39), tyX9, rfl, uwX9, tyX9_ok, clL_10, inT 758 (by decide +kernel) (by decide +kernel), inT 10 (by decide +kernel) (by decide +kernel), rfl, fun j hj => by
  match j, (show j < 39 from hj) with
  | 0, _ => exact ⟨0, rfl, by decide, rfl⟩
  | 1, _ => exact ⟨2, rfl, by decide, Or.inr ⟨_, rfl⟩⟩
  | 2, _ => exact ⟨2, rfl, by decide, Or.inr ⟨_, rfl⟩⟩
  | 3, _ => exact ⟨2, rfl, by decide, Or.inr ⟨_, rfl⟩⟩
  | 4, _ => exact ⟨0, rfl, by decide, rfl⟩
  | 5, _ => exact ⟨2, rfl, by decide, Or.inr ⟨_, rfl⟩⟩
  | 6, _ => exact ⟨2, rfl, by decide, Or.inr ⟨_, rfl⟩⟩
  | 7, _ => exact ⟨2, rfl, by decide, Or.inr ⟨_, rfl⟩⟩
  | 8, _ => exact ⟨2, rfl, by decide, Or.inr ⟨_, rfl⟩⟩
  | 9, _ => exact ⟨0, rfl, by decide, rfl⟩
  | 10, _ => exact ⟨2, rfl, by decide, Or.inr ⟨_, rfl⟩⟩
  | 11, _ => exact ⟨2, rfl, by decide, Or.inr ⟨_, rfl⟩⟩
  | 12, _ => exact ⟨2, rfl, by decide, Or.inr ⟨_, rfl⟩⟩
  | 13, _ => exact ⟨0, rfl, by decide, rfl⟩
  | 14, _ => exact ⟨2, rfl, by decide, Or.inr ⟨_, rfl⟩⟩
  | 15, _ => exact ⟨2, rfl, by decide, Or.inr ⟨_, rfl⟩⟩
  | 16, _ => exact ⟨2, rfl, by decide, Or.inr ⟨_, rfl⟩⟩
  | 17, _ => exact ⟨2, rfl, by decide, Or.inr ⟨_, rfl⟩⟩
  | 18, _ => exact ⟨2, rfl, by decide, Or.inr ⟨_, rfl⟩⟩
  | 19, _ => exact ⟨2, rfl, by decide, Or.inr ⟨_, rfl⟩⟩
  | 20, _ => exact ⟨2, rfl, by decide, Or.inr ⟨_, rfl⟩⟩
  | 21, _ => exact ⟨2, rfl, by decide, Or.inr ⟨_, rfl⟩⟩
  | 22, _ => exact ⟨0, rfl, by decide, rfl⟩
  | 23, _ => exact ⟨1, rfl, by decide, rfl⟩
  | 24, _ => exact ⟨0, rfl, by decide, rfl⟩
  | 25, _ => exact ⟨0, rfl, by decide, rfl⟩
  | 26, _ => exact ⟨1, rfl, by decide, rfl⟩
  | 27, _ => exact ⟨0, rfl, by decide, rfl⟩
  | 28, _ => exact ⟨0, rfl, by decide, rfl⟩
  | 29, _ => exact ⟨0, rfl, by decide, rfl⟩
  | 30, _ => exact ⟨0, rfl, by decide, rfl⟩
  | 31, _ => exact ⟨0, rfl, by decide, rfl⟩
  | 32, _ => exact ⟨0, rfl, by decide, rfl⟩
  | 33, _ => exact ⟨0, rfl, by decide, rfl⟩
  | 34, _ => exact ⟨1, rfl, by decide, rfl⟩
  | 35, _ => exact ⟨2, rfl, by decide, Or.inr ⟨_, rfl⟩⟩
  | 36, _ => exact ⟨0, rfl, by decide, rfl⟩
  | 37, _ => exact ⟨1, rfl, by decide, rfl⟩
  | 38, _ => exact ⟨1, rfl, by decide, rfl⟩
  | j + 39, hj => omega⟩
end
section
theorem dX0_init_0 : decode cX0_init 0 = .ok (.aload_n 0, 1) := by decide +kernel
theorem dX0_init_1 : decode cX0_init 1 = .ok (.invokespecial 3, 3) := by decide +kernel
theorem dX0_init_4 : decode cX0_init 4 = .ok (.aload_n 0, 1) := by decide +kernel
theorem dX0_init_5 : decode cX0_init 5 = .ok (.iconst 0, 1) := by decide +kernel
theorem dX0_init_6 : decode cX0_init 6 = .ok (.putfield 9, 3) := by decide +kernel
theorem dX0_init_9 : decode cX0_init 9 = .ok (.aload_n 0, 1) := by decide +kernel
theorem dX0_init_10 : decode cX0_init 10 = .ok (.iconst 0, 1) := by decide +kernel
theorem dX0_init_11 : decode cX0_init 11 = .ok (.putfield 15, 3) := by decide +kernel
theorem dX0_init_14 : decode cX0_init 14 = .ok (.aload_n 0, 1) := by decide +kernel
theorem dX0_init_15 : decode cX0_init 15 = .ok (.lconst 0, 1) := by decide +kernel
theorem dX0_init_16 : decode cX0_init 16 = .ok (.putfield 18, 3) := by decide +kernel
theorem dX0_init_19 : decode cX0_init 19 = .ok (.aload_n 0, 1) := by decide +kernel
theorem dX0_init_20 : decode cX0_init 20 = .ok (.aload_n 1, 1) := by decide +kernel
theorem dX0_init_21 : decode cX0_init 21 = .ok (.putfield 22, 3) := by decide +kernel
theorem dX0_init_24 : decode cX0_init 24 = .ok (.return_, 1) := by decide +kernel
theorem dX0_putUp_0 : decode cX0_putUp 0 = .ok (.aload_n 0, 1) := by decide +kernel
theorem dX0_putUp_1 : decode cX0_putUp 1 = .ok (.getfield 22, 3) := by decide +kernel
theorem dX0_putUp_4 : decode cX0_putUp 4 = .ok (.getfield 26, 3) := by decide +kernel
theorem dX0_putUp_7 : decode cX0_putUp 7 = .ok (.istore_n 1, 1) := by decide +kernel
theorem dX0_putUp_8 : decode cX0_putUp 8 = .ok (.aload_n 0, 1) := by decide +kernel
theorem dX0_putUp_9 : decode cX0_putUp 9 = .ok (.iconst 0, 1) := by decide +kernel
theorem dX0_putUp_10 : decode cX0_putUp 10 = .ok (.putfield 9, 3) := by decide +kernel
theorem dX0_putUp_13 : decode cX0_putUp 13 = .ok (.iconst 0, 1) := by decide +kernel
theorem dX0_putUp_14 : decode cX0_putUp 14 = .ok (.istore_n 2, 1) := by decide +kernel
theorem dX0_putUp_15 : decode cX0_putUp 15 = .ok (.iload_n 2, 1) := by decide +kernel
theorem dX0_putUp_16 : decode cX0_putUp 16 = .ok (.bipush 10, 2) := by decide +kernel
theorem dX0_putUp_18 : decode cX0_putUp 18 = .ok (.if_icmp .ge 35, 3) := by decide +kernel
theorem dX0_putUp_21 : decode cX0_putUp 21 = .ok (.aload_n 0, 1) := by decide +kernel
theorem dX0_putUp_22 : decode cX0_putUp 22 = .ok (.iload_n 1, 1) := by decide +kernel
theorem dX0_putUp_23 : decode cX0_putUp 23 = .ok (.invokevirtual 31, 3) := by decide +kernel
theorem dX0_putUp_26 : decode cX0_putUp 26 = .ok (.istore_n 3, 1) := by decide +kernel
theorem dX0_putUp_27 : decode cX0_putUp 27 = .ok (.iload_n 3, 1) := by decide +kernel
theorem dX0_putUp_28 : decode cX0_putUp 28 = .ok (.iload_n 1, 1) := by decide +kernel
theorem dX0_putUp_29 : decode cX0_putUp 29 = .ok (.if_icmp .ne 6, 3) := by decide +kernel
theorem dX0_putUp_32 : decode cX0_putUp 32 = .ok (.goto 21, 3) := by decide +kernel
theorem dX0_putUp_35 : decode cX0_putUp 35 = .ok (.iload_n 3, 1) := by decide +kernel
theorem dX0_putUp_36 : decode cX0_putUp 36 = .ok (.istore_n 1, 1) := by decide +kernel
theorem dX0_putUp_37 : decode cX0_putUp 37 = .ok (.aload_n 0, 1) := by decide +kernel
theorem dX0_putUp_38 : decode cX0_putUp 38 = .ok (.dup, 1) := by decide +kernel
theorem dX0_putUp_39 : decode cX0_putUp 39 = .ok (.getfield 9, 3) := by decide +kernel
theorem dX0_putUp_42 : decode cX0_putUp 42 = .ok (.iconst 1, 1) := by decide +kernel
theorem dX0_putUp_43 : decode cX0_putUp 43 = .ok (.iadd, 1) := by decide +kernel
theorem dX0_putUp_44 : decode cX0_putUp 44 = .ok (.putfield 9, 3) := by decide +kernel
theorem dX0_putUp_47 : decode cX0_putUp 47 = .ok (.iinc 2 1, 3) := by decide +kernel
theorem dX0_putUp_50 : decode cX0_putUp 50 = .ok (.goto (-35), 3) := by decide +kernel
theorem dX0_putUp_53 : decode cX0_putUp 53 = .ok (.iload_n 1, 1) := by decide +kernel
theorem dX0_putUp_54 : decode cX0_putUp 54 = .ok (.ireturn, 1) := by decide +kernel
theorem dX0_improve_0 : decode cX0_improve 0 = .ok (.iload_n 1, 1) := by decide +kernel
theorem dX0_improve_1 : decode cX0_improve 1 = .ok (.istore_n 2, 1) := by decide +kernel
theorem dX0_improve_2 : decode cX0_improve 2 = .ok (.aload_n 0, 1) := by decide +kernel
theorem dX0_improve_3 : decode cX0_improve 3 = .ok (.iconst 0, 1) := by decide +kernel
theorem dX0_improve_4 : decode cX0_improve 4 = .ok (.putfield 9, 3) := by decide +kernel
theorem dX0_improve_7 : decode cX0_improve 7 = .ok (.iconst 0, 1) := by decide +kernel
theorem dX0_improve_8 : decode cX0_improve 8 = .ok (.istore_n 3, 1) := by decide +kernel
theorem dX0_improve_9 : decode cX0_improve 9 = .ok (.iload_n 3, 1) := by decide +kernel
theorem dX0_improve_10 : decode cX0_improve 10 = .ok (.sipush 1024, 3) := by decide +kernel
theorem dX0_improve_13 : decode cX0_improve 13 = .ok (.if_icmp .ge 38, 3) := by decide +kernel
theorem dX0_improve_16 : decode cX0_improve 16 = .ok (.aload_n 0, 1) := by decide +kernel
theorem dX0_improve_17 : decode cX0_improve 17 = .ok (.iload_n 2, 1) := by decide +kernel
theorem dX0_improve_18 : decode cX0_improve 18 = .ok (.invokevirtual 35, 3) := by decide +kernel
theorem dX0_improve_21 : decode cX0_improve 21 = .ok (.istore 4, 2) := by decide +kernel
theorem dX0_improve_23 : decode cX0_improve 23 = .ok (.iload 4, 2) := by decide +kernel
theorem dX0_improve_25 : decode cX0_improve 25 = .ok (.iload_n 2, 1) := by decide +kernel
theorem dX0_improve_26 : decode cX0_improve 26 = .ok (.if_icmp .ne 6, 3) := by decide +kernel
theorem dX0_improve_29 : decode cX0_improve 29 = .ok (.goto 22, 3) := by decide +kernel
theorem dX0_improve_32 : decode cX0_improve 32 = .ok (.iload 4, 2) := by decide +kernel
theorem dX0_improve_34 : decode cX0_improve 34 = .ok (.istore_n 2, 1) := by decide +kernel
theorem dX0_improve_35 : decode cX0_improve 35 = .ok (.aload_n 0, 1) := by decide +kernel
theorem dX0_improve_36 : decode cX0_improve 36 = .ok (.dup, 1) := by decide +kernel
theorem dX0_improve_37 : decode cX0_improve 37 = .ok (.getfield 9, 3) := by decide +kernel
theorem dX0_improve_40 : decode cX0_improve 40 = .ok (.iconst 1, 1) := by decide +kernel
theorem dX0_improve_41 : decode cX0_improve 41 = .ok (.iadd, 1) := by decide +kernel
theorem dX0_improve_42 : decode cX0_improve 42 = .ok (.putfield 9, 3) := by decide +kernel
theorem dX0_improve_45 : decode cX0_improve 45 = .ok (.iinc 3 1, 3) := by decide +kernel
theorem dX0_improve_48 : decode cX0_improve 48 = .ok (.goto (-39), 3) := by decide +kernel
theorem dX0_improve_51 : decode cX0_improve 51 = .ok (.iload_n 2, 1) := by decide +kernel
theorem dX0_improve_52 : decode cX0_improve 52 = .ok (.ireturn, 1) := by decide +kernel
theorem dX0_withOneMore_0 : decode cX0_withOneMore 0 = .ok (.aload_n 0, 1) := by decide +kernel
theorem dX0_withOneMore_1 : decode cX0_withOneMore 1 = .ok (.iload_n 1, 1) := by decide +kernel
theorem dX0_withOneMore_2 : decode cX0_withOneMore 2 = .ok (.invokevirtual 38, 3) := by decide +kernel
theorem dX0_withOneMore_5 : decode cX0_withOneMore 5 = .ok (.iconst 0, 1) := by decide +kernel
theorem dX0_withOneMore_6 : decode cX0_withOneMore 6 = .ok (.istore_n 2, 1) := by decide +kernel
theorem dX0_withOneMore_7 : decode cX0_withOneMore 7 = .ok (.iload_n 2, 1) := by decide +kernel
theorem dX0_withOneMore_8 : decode cX0_withOneMore 8 = .ok (.aload_n 0, 1) := by decide +kernel
theorem dX0_withOneMore_9 : decode cX0_withOneMore 9 = .ok (.getfield 22, 3) := by decide +kernel
theorem dX0_withOneMore_12 : decode cX0_withOneMore 12 = .ok (.getfield 42, 3) := by decide +kernel
theorem dX0_withOneMore_15 : decode cX0_withOneMore 15 = .ok (.getfield 46, 3) := by decide +kernel
theorem dX0_withOneMore_18 : decode cX0_withOneMore 18 = .ok (.if_icmp .ge 26, 3) := by decide +kernel
theorem dX0_withOneMore_21 : decode cX0_withOneMore 21 = .ok (.iload_n 1, 1) := by decide +kernel
theorem dX0_withOneMore_22 : decode cX0_withOneMore 22 = .ok (.iload_n 2, 1) := by decide +kernel
theorem dX0_withOneMore_23 : decode cX0_withOneMore 23 = .ok (.invokestatic 51, 3) := by decide +kernel
theorem dX0_withOneMore_26 : decode cX0_withOneMore 26 = .ok (.ifCond .ne 12, 3) := by decide +kernel
theorem dX0_withOneMore_29 : decode cX0_withOneMore 29 = .ok (.aload_n 0, 1) := by decide +kernel
theorem dX0_withOneMore_30 : decode cX0_withOneMore 30 = .ok (.iload_n 1, 1) := by decide +kernel
theorem dX0_withOneMore_31 : decode cX0_withOneMore 31 = .ok (.iconst 1, 1) := by decide +kernel
theorem dX0_withOneMore_32 : decode cX0_withOneMore 32 = .ok (.iload_n 2, 1) := by decide +kernel
theorem dX0_withOneMore_33 : decode cX0_withOneMore 33 = .ok (.ishl, 1) := by decide +kernel
theorem dX0_withOneMore_34 : decode cX0_withOneMore 34 = .ok (.ior, 1) := by decide +kernel
theorem dX0_withOneMore_35 : decode cX0_withOneMore 35 = .ok (.invokevirtual 55, 3) := by decide +kernel
theorem dX0_withOneMore_38 : decode cX0_withOneMore 38 = .ok (.iinc 2 1, 3) := by decide +kernel
theorem dX0_withOneMore_41 : decode cX0_withOneMore 41 = .ok (.goto (-34), 3) := by decide +kernel
theorem dX0_withOneMore_44 : decode cX0_withOneMore 44 = .ok (.aload_n 0, 1) := by decide +kernel
theorem dX0_withOneMore_45 : decode cX0_withOneMore 45 = .ok (.getfield 15, 3) := by decide +kernel
theorem dX0_withOneMore_48 : decode cX0_withOneMore 48 = .ok (.ireturn, 1) := by decide +kernel
theorem dX0_withOneForAnother_0 : decode cX0_withOneForAnother 0 = .ok (.aload_n 0, 1) := by decide +kernel
theorem dX0_withOneForAnother_1 : decode cX0_withOneForAnother 1 = .ok (.iload_n 1, 1) := by decide +kernel
theorem dX0_withOneForAnother_2 : decode cX0_withOneForAnother 2 = .ok (.invokevirtual 38, 3) := by decide +kernel
theorem dX0_withOneForAnother_5 : decode cX0_withOneForAnother 5 = .ok (.iconst 0, 1) := by decide +kernel
theorem dX0_withOneForAnother_6 : decode cX0_withOneForAnother 6 = .ok (.istore_n 2, 1) := by decide +kernel
theorem dX0_withOneForAnother_7 : decode cX0_withOneForAnother 7 = .ok (.iload_n 2, 1) := by decide +kernel
theorem dX0_withOneForAnother_8 : decode cX0_withOneForAnother 8 = .ok (.aload_n 0, 1) := by decide +kernel
theorem dX0_withOneForAnother_9 : decode cX0_withOneForAnother 9 = .ok (.getfield 22, 3) := by decide +kernel
theorem dX0_withOneForAnother_12 : decode cX0_withOneForAnother 12 = .ok (.getfield 42, 3) := by decide +kernel
theorem dX0_withOneForAnother_15 : decode cX0_withOneForAnother 15 = .ok (.getfield 46, 3) := by decide +kernel
theorem dX0_withOneForAnother_18 : decode cX0_withOneForAnother 18 = .ok (.if_icmp .ge 60, 3) := by decide +kernel
theorem dX0_withOneForAnother_21 : decode cX0_withOneForAnother 21 = .ok (.iconst 0, 1) := by decide +kernel
theorem dX0_withOneForAnother_22 : decode cX0_withOneForAnother 22 = .ok (.istore_n 3, 1) := by decide +kernel
theorem dX0_withOneForAnother_23 : decode cX0_withOneForAnother 23 = .ok (.iload_n 3, 1) := by decide +kernel
theorem dX0_withOneForAnother_24 : decode cX0_withOneForAnother 24 = .ok (.aload_n 0, 1) := by decide +kernel
theorem dX0_withOneForAnother_25 : decode cX0_withOneForAnother 25 = .ok (.getfield 22, 3) := by decide +kernel
theorem dX0_withOneForAnother_28 : decode cX0_withOneForAnother 28 = .ok (.getfield 42, 3) := by decide +kernel
theorem dX0_withOneForAnother_31 : decode cX0_withOneForAnother 31 = .ok (.getfield 46, 3) := by decide +kernel
theorem dX0_withOneForAnother_34 : decode cX0_withOneForAnother 34 = .ok (.if_icmp .ge 38, 3) := by decide +kernel
theorem dX0_withOneForAnother_37 : decode cX0_withOneForAnother 37 = .ok (.iload_n 1, 1) := by decide +kernel
theorem dX0_withOneForAnother_38 : decode cX0_withOneForAnother 38 = .ok (.iload_n 2, 1) := by decide +kernel
theorem dX0_withOneForAnother_39 : decode cX0_withOneForAnother 39 = .ok (.invokestatic 51, 3) := by decide +kernel
theorem dX0_withOneForAnother_42 : decode cX0_withOneForAnother 42 = .ok (.ifCond .eq 24, 3) := by decide +kernel
theorem dX0_withOneForAnother_45 : decode cX0_withOneForAnother 45 = .ok (.iload_n 1, 1) := by decide +kernel
theorem dX0_withOneForAnother_46 : decode cX0_withOneForAnother 46 = .ok (.iload_n 3, 1) := by decide +kernel
theorem dX0_withOneForAnother_47 : decode cX0_withOneForAnother 47 = .ok (.invokestatic 51, 3) := by decide +kernel
theorem dX0_withOneForAnother_50 : decode cX0_withOneForAnother 50 = .ok (.ifCond .ne 16, 3) := by decide +kernel
theorem dX0_withOneForAnother_53 : decode cX0_withOneForAnother 53 = .ok (.aload_n 0, 1) := by decide +kernel
theorem dX0_withOneForAnother_54 : decode cX0_withOneForAnother 54 = .ok (.iload_n 1, 1) := by decide +kernel
theorem dX0_withOneForAnother_55 : decode cX0_withOneForAnother 55 = .ok (.iconst 1, 1) := by decide +kernel
theorem dX0_withOneForAnother_56 : decode cX0_withOneForAnother 56 = .ok (.iload_n 2, 1) := by decide +kernel
theorem dX0_withOneForAnother_57 : decode cX0_withOneForAnother 57 = .ok (.ishl, 1) := by decide +kernel
theorem dX0_withOneForAnother_58 : decode cX0_withOneForAnother 58 = .ok (.ixor, 1) := by decide +kernel
theorem dX0_withOneForAnother_59 : decode cX0_withOneForAnother 59 = .ok (.iconst 1, 1) := by decide +kernel
theorem dX0_withOneForAnother_60 : decode cX0_withOneForAnother 60 = .ok (.iload_n 3, 1) := by decide +kernel
theorem dX0_withOneForAnother_61 : decode cX0_withOneForAnother 61 = .ok (.ishl, 1) := by decide +kernel
theorem dX0_withOneForAnother_62 : decode cX0_withOneForAnother 62 = .ok (.ixor, 1) := by decide +kernel
theorem dX0_withOneForAnother_63 : decode cX0_withOneForAnother 63 = .ok (.invokevirtual 55, 3) := by decide +kernel
theorem dX0_withOneForAnother_66 : decode cX0_withOneForAnother 66 = .ok (.iinc 3 1, 3) := by decide +kernel
theorem dX0_withOneForAnother_69 : decode cX0_withOneForAnother 69 = .ok (.goto (-46), 3) := by decide +kernel
theorem dX0_withOneForAnother_72 : decode cX0_withOneForAnother 72 = .ok (.iinc 2 1, 3) := by decide +kernel
theorem dX0_withOneForAnother_75 : decode cX0_withOneForAnother 75 = .ok (.goto (-68), 3) := by decide +kernel
theorem dX0_withOneForAnother_78 : decode cX0_withOneForAnother 78 = .ok (.aload_n 0, 1) := by decide +kernel
theorem dX0_withOneForAnother_79 : decode cX0_withOneForAnother 79 = .ok (.getfield 15, 3) := by decide +kernel
theorem dX0_withOneForAnother_82 : decode cX0_withOneForAnother 82 = .ok (.ireturn, 1) := by decide +kernel
theorem dX0_startFrom_0 : decode cX0_startFrom 0 = .ok (.aload_n 0, 1) := by decide +kernel
theorem dX0_startFrom_1 : decode cX0_startFrom 1 = .ok (.iload_n 1, 1) := by decide +kernel
theorem dX0_startFrom_2 : decode cX0_startFrom 2 = .ok (.putfield 15, 3) := by decide +kernel
theorem dX0_startFrom_5 : decode cX0_startFrom 5 = .ok (.aload_n 0, 1) := by decide +kernel
theorem dX0_startFrom_6 : decode cX0_startFrom 6 = .ok (.aload_n 0, 1) := by decide +kernel
theorem dX0_startFrom_7 : decode cX0_startFrom 7 = .ok (.getfield 22, 3) := by decide +kernel
theorem dX0_startFrom_10 : decode cX0_startFrom 10 = .ok (.iload_n 1, 1) := by decide +kernel
theorem dX0_startFrom_11 : decode cX0_startFrom 11 = .ok (.invokevirtual 58, 3) := by decide +kernel
theorem dX0_startFrom_14 : decode cX0_startFrom 14 = .ok (.putfield 18, 3) := by decide +kernel
theorem dX0_startFrom_17 : decode cX0_startFrom 17 = .ok (.return_, 1) := by decide +kernel
theorem dX0_consider_0 : decode cX0_consider 0 = .ok (.aload_n 0, 1) := by decide +kernel
theorem dX0_consider_1 : decode cX0_consider 1 = .ok (.getfield 22, 3) := by decide +kernel
theorem dX0_consider_4 : decode cX0_consider 4 = .ok (.iload_n 1, 1) := by decide +kernel
theorem dX0_consider_5 : decode cX0_consider 5 = .ok (.invokevirtual 62, 3) := by decide +kernel
theorem dX0_consider_8 : decode cX0_consider 8 = .ok (.ifCond .eq 14, 3) := by decide +kernel
theorem dX0_consider_11 : decode cX0_consider 11 = .ok (.aload_n 0, 1) := by decide +kernel
theorem dX0_consider_12 : decode cX0_consider 12 = .ok (.getfield 22, 3) := by decide +kernel
theorem dX0_consider_15 : decode cX0_consider 15 = .ok (.iload_n 1, 1) := by decide +kernel
theorem dX0_consider_16 : decode cX0_consider 16 = .ok (.invokevirtual 58, 3) := by decide +kernel
theorem dX0_consider_19 : decode cX0_consider 19 = .ok (.goto 7, 3) := by decide +kernel
theorem dX0_consider_22 : decode cX0_consider 22 = .ok (.aload_n 0, 1) := by decide +kernel
theorem dX0_consider_23 : decode cX0_consider 23 = .ok (.getfield 18, 3) := by decide +kernel
theorem dX0_consider_26 : decode cX0_consider 26 = .ok (.lstore_n 2, 1) := by decide +kernel
theorem dX0_consider_27 : decode cX0_consider 27 = .ok (.lload_n 2, 1) := by decide +kernel
theorem dX0_consider_28 : decode cX0_consider 28 = .ok (.aload_n 0, 1) := by decide +kernel
theorem dX0_consider_29 : decode cX0_consider 29 = .ok (.getfield 18, 3) := by decide +kernel
theorem dX0_consider_32 : decode cX0_consider 32 = .ok (.lcmp, 1) := by decide +kernel
theorem dX0_consider_33 : decode cX0_consider 33 = .ok (.ifCond .ge 13, 3) := by decide +kernel
theorem dX0_consider_36 : decode cX0_consider 36 = .ok (.aload_n 0, 1) := by decide +kernel
theorem dX0_consider_37 : decode cX0_consider 37 = .ok (.iload_n 1, 1) := by decide +kernel
theorem dX0_consider_38 : decode cX0_consider 38 = .ok (.putfield 15, 3) := by decide +kernel
theorem dX0_consider_41 : decode cX0_consider 41 = .ok (.aload_n 0, 1) := by decide +kernel
theorem dX0_consider_42 : decode cX0_consider 42 = .ok (.lload_n 2, 1) := by decide +kernel
theorem dX0_consider_43 : decode cX0_consider 43 = .ok (.putfield 18, 3) := by decide +kernel
theorem dX0_consider_46 : decode cX0_consider 46 = .ok (.return_, 1) := by decide +kernel
theorem dX1_init_0 : decode cX1_init 0 = .ok (.aload_n 0, 1) := by decide +kernel
theorem dX1_init_1 : decode cX1_init 1 = .ok (.invokespecial 3, 3) := by decide +kernel
theorem dX1_init_4 : decode cX1_init 4 = .ok (.aload_n 0, 1) := by decide +kernel
theorem dX1_init_5 : decode cX1_init 5 = .ok (.iconst (-1), 1) := by decide +kernel
theorem dX1_init_6 : decode cX1_init 6 = .ok (.putfield 9, 3) := by decide +kernel
theorem dX1_init_9 : decode cX1_init 9 = .ok (.aload_n 0, 1) := by decide +kernel
theorem dX1_init_10 : decode cX1_init 10 = .ok (.iconst 0, 1) := by decide +kernel
theorem dX1_init_11 : decode cX1_init 11 = .ok (.putfield 15, 3) := by decide +kernel
theorem dX1_init_14 : decode cX1_init 14 = .ok (.aload_n 0, 1) := by decide +kernel
theorem dX1_init_15 : decode cX1_init 15 = .ok (.bipush 60, 2) := by decide +kernel
theorem dX1_init_17 : decode cX1_init 17 = .ok (.newarray .long, 2) := by decide +kernel
theorem dX1_init_19 : decode cX1_init 19 = .ok (.putfield 18, 3) := by decide +kernel
theorem dX1_init_22 : decode cX1_init 22 = .ok (.return_, 1) := by decide +kernel
theorem dX1_renew_0 : decode cX1_renew 0 = .ok (.aload_n 0, 1) := by decide +kernel
theorem dX1_renew_1 : decode cX1_renew 1 = .ok (.iload_n 1, 1) := by decide +kernel
theorem dX1_renew_2 : decode cX1_renew 2 = .ok (.putfield 9, 3) := by decide +kernel
theorem dX1_renew_5 : decode cX1_renew 5 = .ok (.aload_n 0, 1) := by decide +kernel
theorem dX1_renew_6 : decode cX1_renew 6 = .ok (.iload_n 2, 1) := by decide +kernel
theorem dX1_renew_7 : decode cX1_renew 7 = .ok (.putfield 15, 3) := by decide +kernel
theorem dX1_renew_10 : decode cX1_renew 10 = .ok (.iconst 0, 1) := by decide +kernel
theorem dX1_renew_11 : decode cX1_renew 11 = .ok (.istore_n 3, 1) := by decide +kernel
theorem dX1_renew_12 : decode cX1_renew 12 = .ok (.iload_n 3, 1) := by decide +kernel
theorem dX1_renew_13 : decode cX1_renew 13 = .ok (.bipush 60, 2) := by decide +kernel
theorem dX1_renew_15 : decode cX1_renew 15 = .ok (.if_icmp .ge 16, 3) := by decide +kernel
theorem dX1_renew_18 : decode cX1_renew 18 = .ok (.aload_n 0, 1) := by decide +kernel
theorem dX1_renew_19 : decode cX1_renew 19 = .ok (.getfield 18, 3) := by decide +kernel
theorem dX1_renew_22 : decode cX1_renew 22 = .ok (.iload_n 3, 1) := by decide +kernel
theorem dX1_renew_23 : decode cX1_renew 23 = .ok (.lconst 0, 1) := by decide +kernel
theorem dX1_renew_24 : decode cX1_renew 24 = .ok (.lastore, 1) := by decide +kernel
theorem dX1_renew_25 : decode cX1_renew 25 = .ok (.iinc 3 1, 3) := by decide +kernel
theorem dX1_renew_28 : decode cX1_renew 28 = .ok (.goto (-16), 3) := by decide +kernel
theorem dX1_renew_31 : decode cX1_renew 31 = .ok (.return_, 1) := by decide +kernel
theorem dX1_write_0 : decode cX1_write 0 = .ok (.aload_n 0, 1) := by decide +kernel
theorem dX1_write_1 : decode cX1_write 1 = .ok (.getfield 9, 3) := by decide +kernel
theorem dX1_write_4 : decode cX1_write 4 = .ok (.lookupswitch 53 #[(0, 28), (1, 41)], 28) := by decide +kernel
theorem dX1_write_32 : decode cX1_write 32 = .ok (.aload_n 0, 1) := by decide +kernel
theorem dX1_write_33 : decode cX1_write 33 = .ok (.getfield 18, 3) := by decide +kernel
theorem dX1_write_36 : decode cX1_write 36 = .ok (.iload_n 1, 1) := by decide +kernel
theorem dX1_write_37 : decode cX1_write 37 = .ok (.lload_n 2, 1) := by decide +kernel
theorem dX1_write_38 : decode cX1_write 38 = .ok (.l2i, 1) := by decide +kernel
theorem dX1_write_39 : decode cX1_write 39 = .ok (.i2b, 1) := by decide +kernel
theorem dX1_write_40 : decode cX1_write 40 = .ok (.i2l, 1) := by decide +kernel
theorem dX1_write_41 : decode cX1_write 41 = .ok (.lastore, 1) := by decide +kernel
theorem dX1_write_42 : decode cX1_write 42 = .ok (.goto 22, 3) := by decide +kernel
theorem dX1_write_45 : decode cX1_write 45 = .ok (.aload_n 0, 1) := by decide +kernel
theorem dX1_write_46 : decode cX1_write 46 = .ok (.getfield 18, 3) := by decide +kernel
theorem dX1_write_49 : decode cX1_write 49 = .ok (.iload_n 1, 1) := by decide +kernel
theorem dX1_write_50 : decode cX1_write 50 = .ok (.lload_n 2, 1) := by decide +kernel
theorem dX1_write_51 : decode cX1_write 51 = .ok (.l2i, 1) := by decide +kernel
theorem dX1_write_52 : decode cX1_write 52 = .ok (.i2l, 1) := by decide +kernel
theorem dX1_write_53 : decode cX1_write 53 = .ok (.lastore, 1) := by decide +kernel
theorem dX1_write_54 : decode cX1_write 54 = .ok (.goto 10, 3) := by decide +kernel
theorem dX1_write_57 : decode cX1_write 57 = .ok (.aload_n 0, 1) := by decide +kernel
theorem dX1_write_58 : decode cX1_write 58 = .ok (.getfield 18, 3) := by decide +kernel
theorem dX1_write_61 : decode cX1_write 61 = .ok (.iload_n 1, 1) := by decide +kernel
theorem dX1_write_62 : decode cX1_write 62 = .ok (.lload_n 2, 1) := by decide +kernel
theorem dX1_write_63 : decode cX1_write 63 = .ok (.lastore, 1) := by decide +kernel
theorem dX1_write_64 : decode cX1_write 64 = .ok (.return_, 1) := by decide +kernel
theorem dX1_holdsRoad_0 : decode cX1_holdsRoad 0 = .ok (.iload_n 1, 1) := by decide +kernel
theorem dX1_holdsRoad_1 : decode cX1_holdsRoad 1 = .ok (.bipush 20, 2) := by decide +kernel
theorem dX1_holdsRoad_3 : decode cX1_holdsRoad 3 = .ok (.if_icmp .ge 19, 3) := by decide +kernel
theorem dX1_holdsRoad_6 : decode cX1_holdsRoad 6 = .ok (.iload_n 1, 1) := by decide +kernel
theorem dX1_holdsRoad_7 : decode cX1_holdsRoad 7 = .ok (.iconst 1, 1) := by decide +kernel
theorem dX1_holdsRoad_8 : decode cX1_holdsRoad 8 = .ok (.iadd, 1) := by decide +kernel
theorem dX1_holdsRoad_9 : decode cX1_holdsRoad 9 = .ok (.iconst 3, 1) := by decide +kernel
theorem dX1_holdsRoad_10 : decode cX1_holdsRoad 10 = .ok (.imul, 1) := by decide +kernel
theorem dX1_holdsRoad_11 : decode cX1_holdsRoad 11 = .ok (.aload_n 0, 1) := by decide +kernel
theorem dX1_holdsRoad_12 : decode cX1_holdsRoad 12 = .ok (.getfield 15, 3) := by decide +kernel
theorem dX1_holdsRoad_15 : decode cX1_holdsRoad 15 = .ok (.if_icmp .gt 7, 3) := by decide +kernel
theorem dX1_holdsRoad_18 : decode cX1_holdsRoad 18 = .ok (.iconst 1, 1) := by decide +kernel
theorem dX1_holdsRoad_19 : decode cX1_holdsRoad 19 = .ok (.goto 4, 3) := by decide +kernel
theorem dX1_holdsRoad_22 : decode cX1_holdsRoad 22 = .ok (.iconst 0, 1) := by decide +kernel
theorem dX1_holdsRoad_23 : decode cX1_holdsRoad 23 = .ok (.ireturn, 1) := by decide +kernel
theorem dX2_init_0 : decode cX2_init 0 = .ok (.aload_n 0, 1) := by decide +kernel
theorem dX2_init_1 : decode cX2_init 1 = .ok (.invokespecial 3, 3) := by decide +kernel
theorem dX2_init_4 : decode cX2_init 4 = .ok (.aload_n 0, 1) := by decide +kernel
theorem dX2_init_5 : decode cX2_init 5 = .ok (.bipush 11, 2) := by decide +kernel
theorem dX2_init_7 : decode cX2_init 7 = .ok (.anewarray 11, 3) := by decide +kernel
theorem dX2_init_10 : decode cX2_init 10 = .ok (.putfield 13, 3) := by decide +kernel
theorem dX2_init_13 : decode cX2_init 13 = .ok (.aload_n 0, 1) := by decide +kernel
theorem dX2_init_14 : decode cX2_init 14 = .ok (.iconst 0, 1) := by decide +kernel
theorem dX2_init_15 : decode cX2_init 15 = .ok (.putfield 17, 3) := by decide +kernel
theorem dX2_init_18 : decode cX2_init 18 = .ok (.aload_n 0, 1) := by decide +kernel
theorem dX2_init_19 : decode cX2_init 19 = .ok (.iconst 0, 1) := by decide +kernel
theorem dX2_init_20 : decode cX2_init 20 = .ok (.putfield 21, 3) := by decide +kernel
theorem dX2_init_23 : decode cX2_init 23 = .ok (.iconst 0, 1) := by decide +kernel
theorem dX2_init_24 : decode cX2_init 24 = .ok (.istore_n 1, 1) := by decide +kernel
theorem dX2_init_25 : decode cX2_init 25 = .ok (.iload_n 1, 1) := by decide +kernel
theorem dX2_init_26 : decode cX2_init 26 = .ok (.bipush 11, 2) := by decide +kernel
theorem dX2_init_28 : decode cX2_init 28 = .ok (.if_icmp .ge 22, 3) := by decide +kernel
theorem dX2_init_31 : decode cX2_init 31 = .ok (.aload_n 0, 1) := by decide +kernel
theorem dX2_init_32 : decode cX2_init 32 = .ok (.getfield 13, 3) := by decide +kernel
theorem dX2_init_35 : decode cX2_init 35 = .ok (.iload_n 1, 1) := by decide +kernel
theorem dX2_init_36 : decode cX2_init 36 = .ok (.new 11, 3) := by decide +kernel
theorem dX2_init_39 : decode cX2_init 39 = .ok (.dup, 1) := by decide +kernel
theorem dX2_init_40 : decode cX2_init 40 = .ok (.invokespecial 24, 3) := by decide +kernel
theorem dX2_init_43 : decode cX2_init 43 = .ok (.aastore, 1) := by decide +kernel
theorem dX2_init_44 : decode cX2_init 44 = .ok (.iinc 1 1, 3) := by decide +kernel
theorem dX2_init_47 : decode cX2_init 47 = .ok (.goto (-22), 3) := by decide +kernel
theorem dX2_init_50 : decode cX2_init 50 = .ok (.return_, 1) := by decide +kernel
theorem dX2_open_0 : decode cX2_open 0 = .ok (.aload_n 0, 1) := by decide +kernel
theorem dX2_open_1 : decode cX2_open 1 = .ok (.getfield 13, 3) := by decide +kernel
theorem dX2_open_4 : decode cX2_open 4 = .ok (.aload_n 0, 1) := by decide +kernel
theorem dX2_open_5 : decode cX2_open 5 = .ok (.getfield 17, 3) := by decide +kernel
theorem dX2_open_8 : decode cX2_open 8 = .ok (.aaload, 1) := by decide +kernel
theorem dX2_open_9 : decode cX2_open 9 = .ok (.aload_n 1, 1) := by decide +kernel
theorem dX2_open_10 : decode cX2_open 10 = .ok (.invokevirtual 25, 3) := by decide +kernel
theorem dX2_open_13 : decode cX2_open 13 = .ok (.return_, 1) := by decide +kernel
theorem dX2_close_0 : decode cX2_close 0 = .ok (.aload_n 0, 1) := by decide +kernel
theorem dX2_close_1 : decode cX2_close 1 = .ok (.getfield 13, 3) := by decide +kernel
theorem dX2_close_4 : decode cX2_close 4 = .ok (.aload_n 0, 1) := by decide +kernel
theorem dX2_close_5 : decode cX2_close 5 = .ok (.getfield 17, 3) := by decide +kernel
theorem dX2_close_8 : decode cX2_close 8 = .ok (.aaload, 1) := by decide +kernel
theorem dX2_close_9 : decode cX2_close 9 = .ok (.aload_n 1, 1) := by decide +kernel
theorem dX2_close_10 : decode cX2_close 10 = .ok (.invokevirtual 29, 3) := by decide +kernel
theorem dX2_close_13 : decode cX2_close 13 = .ok (.ifCond .eq 5, 3) := by decide +kernel
theorem dX2_close_16 : decode cX2_close 16 = .ok (.iconst 0, 1) := by decide +kernel
theorem dX2_close_17 : decode cX2_close 17 = .ok (.ireturn, 1) := by decide +kernel
theorem dX2_close_18 : decode cX2_close 18 = .ok (.aload_n 0, 1) := by decide +kernel
theorem dX2_close_19 : decode cX2_close 19 = .ok (.aload_n 0, 1) := by decide +kernel
theorem dX2_close_20 : decode cX2_close 20 = .ok (.getfield 17, 3) := by decide +kernel
theorem dX2_close_23 : decode cX2_close 23 = .ok (.iconst 1, 1) := by decide +kernel
theorem dX2_close_24 : decode cX2_close 24 = .ok (.iadd, 1) := by decide +kernel
theorem dX2_close_25 : decode cX2_close 25 = .ok (.bipush 11, 2) := by decide +kernel
theorem dX2_close_27 : decode cX2_close 27 = .ok (.irem, 1) := by decide +kernel
theorem dX2_close_28 : decode cX2_close 28 = .ok (.putfield 17, 3) := by decide +kernel
theorem dX2_close_31 : decode cX2_close 31 = .ok (.aload_n 0, 1) := by decide +kernel
theorem dX2_close_32 : decode cX2_close 32 = .ok (.aload_n 0, 1) := by decide +kernel
theorem dX2_close_33 : decode cX2_close 33 = .ok (.getfield 21, 3) := by decide +kernel
theorem dX2_close_36 : decode cX2_close 36 = .ok (.iconst 1, 1) := by decide +kernel
theorem dX2_close_37 : decode cX2_close 37 = .ok (.iadd, 1) := by decide +kernel
theorem dX2_close_38 : decode cX2_close 38 = .ok (.bipush 10, 2) := by decide +kernel
theorem dX2_close_40 : decode cX2_close 40 = .ok (.invokestatic 33, 3) := by decide +kernel
theorem dX2_close_43 : decode cX2_close 43 = .ok (.putfield 21, 3) := by decide +kernel
theorem dX2_close_46 : decode cX2_close 46 = .ok (.iconst 1, 1) := by decide +kernel
theorem dX2_close_47 : decode cX2_close 47 = .ok (.ireturn, 1) := by decide +kernel
theorem dX2_turnBack_0 : decode cX2_turnBack 0 = .ok (.aload_n 0, 1) := by decide +kernel
theorem dX2_turnBack_1 : decode cX2_turnBack 1 = .ok (.aload_n 0, 1) := by decide +kernel
theorem dX2_turnBack_2 : decode cX2_turnBack 2 = .ok (.getfield 17, 3) := by decide +kernel
theorem dX2_turnBack_5 : decode cX2_turnBack 5 = .ok (.bipush 11, 2) := by decide +kernel
theorem dX2_turnBack_7 : decode cX2_turnBack 7 = .ok (.iadd, 1) := by decide +kernel
theorem dX2_turnBack_8 : decode cX2_turnBack 8 = .ok (.iconst 1, 1) := by decide +kernel
theorem dX2_turnBack_9 : decode cX2_turnBack 9 = .ok (.isub, 1) := by decide +kernel
theorem dX2_turnBack_10 : decode cX2_turnBack 10 = .ok (.bipush 11, 2) := by decide +kernel
theorem dX2_turnBack_12 : decode cX2_turnBack 12 = .ok (.irem, 1) := by decide +kernel
theorem dX2_turnBack_13 : decode cX2_turnBack 13 = .ok (.putfield 17, 3) := by decide +kernel
theorem dX2_turnBack_16 : decode cX2_turnBack 16 = .ok (.aload_n 0, 1) := by decide +kernel
theorem dX2_turnBack_17 : decode cX2_turnBack 17 = .ok (.dup, 1) := by decide +kernel
theorem dX2_turnBack_18 : decode cX2_turnBack 18 = .ok (.getfield 21, 3) := by decide +kernel
theorem dX2_turnBack_21 : decode cX2_turnBack 21 = .ok (.iconst 1, 1) := by decide +kernel
theorem dX2_turnBack_22 : decode cX2_turnBack 22 = .ok (.isub, 1) := by decide +kernel
theorem dX2_turnBack_23 : decode cX2_turnBack 23 = .ok (.putfield 21, 3) := by decide +kernel
theorem dX2_turnBack_26 : decode cX2_turnBack 26 = .ok (.aload_n 1, 1) := by decide +kernel
theorem dX2_turnBack_27 : decode cX2_turnBack 27 = .ok (.aload_n 0, 1) := by decide +kernel
theorem dX2_turnBack_28 : decode cX2_turnBack 28 = .ok (.getfield 13, 3) := by decide +kernel
theorem dX2_turnBack_31 : decode cX2_turnBack 31 = .ok (.aload_n 0, 1) := by decide +kernel
theorem dX2_turnBack_32 : decode cX2_turnBack 32 = .ok (.getfield 17, 3) := by decide +kernel
theorem dX2_turnBack_35 : decode cX2_turnBack 35 = .ok (.aaload, 1) := by decide +kernel
theorem dX2_turnBack_36 : decode cX2_turnBack 36 = .ok (.invokevirtual 25, 3) := by decide +kernel
theorem dX2_turnBack_39 : decode cX2_turnBack 39 = .ok (.return_, 1) := by decide +kernel
theorem dX3_init_0 : decode cX3_init 0 = .ok (.aload_n 0, 1) := by decide +kernel
theorem dX3_init_1 : decode cX3_init 1 = .ok (.invokespecial 3, 3) := by decide +kernel
theorem dX3_init_4 : decode cX3_init 4 = .ok (.aload_n 0, 1) := by decide +kernel
theorem dX3_init_5 : decode cX3_init 5 = .ok (.bipush 120, 2) := by decide +kernel
theorem dX3_init_7 : decode cX3_init 7 = .ok (.newarray .int, 2) := by decide +kernel
theorem dX3_init_9 : decode cX3_init 9 = .ok (.putfield 9, 3) := by decide +kernel
theorem dX3_init_12 : decode cX3_init 12 = .ok (.aload_n 0, 1) := by decide +kernel
theorem dX3_init_13 : decode cX3_init 13 = .ok (.iconst 0, 1) := by decide +kernel
theorem dX3_init_14 : decode cX3_init 14 = .ok (.putfield 15, 3) := by decide +kernel
theorem dX3_init_17 : decode cX3_init 17 = .ok (.aload_n 0, 1) := by decide +kernel
theorem dX3_init_18 : decode cX3_init 18 = .ok (.iconst 0, 1) := by decide +kernel
theorem dX3_init_19 : decode cX3_init 19 = .ok (.putfield 19, 3) := by decide +kernel
theorem dX3_init_22 : decode cX3_init 22 = .ok (.aload_n 0, 1) := by decide +kernel
theorem dX3_init_23 : decode cX3_init 23 = .ok (.aload_n 1, 1) := by decide +kernel
theorem dX3_init_24 : decode cX3_init 24 = .ok (.putfield 22, 3) := by decide +kernel
theorem dX3_init_27 : decode cX3_init 27 = .ok (.return_, 1) := by decide +kernel
theorem dX3_carry_0 : decode cX3_carry 0 = .ok (.aload_n 0, 1) := by decide +kernel
theorem dX3_carry_1 : decode cX3_carry 1 = .ok (.aload_n 0, 1) := by decide +kernel
theorem dX3_carry_2 : decode cX3_carry 2 = .ok (.getfield 22, 3) := by decide +kernel
theorem dX3_carry_5 : decode cX3_carry 5 = .ok (.iconst 3, 1) := by decide +kernel
theorem dX3_carry_6 : decode cX3_carry 6 = .ok (.invokevirtual 26, 3) := by decide +kernel
theorem dX3_carry_9 : decode cX3_carry 9 = .ok (.putfield 15, 3) := by decide +kernel
theorem dX3_carry_12 : decode cX3_carry 12 = .ok (.aload_n 0, 1) := by decide +kernel
theorem dX3_carry_13 : decode cX3_carry 13 = .ok (.aload_n 0, 1) := by decide +kernel
theorem dX3_carry_14 : decode cX3_carry 14 = .ok (.getfield 22, 3) := by decide +kernel
theorem dX3_carry_17 : decode cX3_carry 17 = .ok (.iconst 1, 1) := by decide +kernel
theorem dX3_carry_18 : decode cX3_carry 18 = .ok (.invokevirtual 26, 3) := by decide +kernel
theorem dX3_carry_21 : decode cX3_carry 21 = .ok (.putfield 19, 3) := by decide +kernel
theorem dX3_carry_24 : decode cX3_carry 24 = .ok (.iconst 0, 1) := by decide +kernel
theorem dX3_carry_25 : decode cX3_carry 25 = .ok (.istore_n 2, 1) := by decide +kernel
theorem dX3_carry_26 : decode cX3_carry 26 = .ok (.iload_n 2, 1) := by decide +kernel
theorem dX3_carry_27 : decode cX3_carry 27 = .ok (.aload_n 0, 1) := by decide +kernel
theorem dX3_carry_28 : decode cX3_carry 28 = .ok (.getfield 22, 3) := by decide +kernel
theorem dX3_carry_31 : decode cX3_carry 31 = .ok (.getfield 32, 3) := by decide +kernel
theorem dX3_carry_34 : decode cX3_carry 34 = .ok (.if_icmp .ge 58, 3) := by decide +kernel
theorem dX3_carry_37 : decode cX3_carry 37 = .ok (.iconst 0, 1) := by decide +kernel
theorem dX3_carry_38 : decode cX3_carry 38 = .ok (.istore_n 3, 1) := by decide +kernel
theorem dX3_carry_39 : decode cX3_carry 39 = .ok (.iload_n 3, 1) := by decide +kernel
theorem dX3_carry_40 : decode cX3_carry 40 = .ok (.aload_n 0, 1) := by decide +kernel
theorem dX3_carry_41 : decode cX3_carry 41 = .ok (.getfield 22, 3) := by decide +kernel
theorem dX3_carry_44 : decode cX3_carry 44 = .ok (.getfield 35, 3) := by decide +kernel
theorem dX3_carry_47 : decode cX3_carry 47 = .ok (.if_icmp .ge 39, 3) := by decide +kernel
theorem dX3_carry_50 : decode cX3_carry 50 = .ok (.aload_n 0, 1) := by decide +kernel
theorem dX3_carry_51 : decode cX3_carry 51 = .ok (.getfield 9, 3) := by decide +kernel
theorem dX3_carry_54 : decode cX3_carry 54 = .ok (.iload_n 2, 1) := by decide +kernel
theorem dX3_carry_55 : decode cX3_carry 55 = .ok (.bipush 12, 2) := by decide +kernel
theorem dX3_carry_57 : decode cX3_carry 57 = .ok (.imul, 1) := by decide +kernel
theorem dX3_carry_58 : decode cX3_carry 58 = .ok (.iload_n 3, 1) := by decide +kernel
theorem dX3_carry_59 : decode cX3_carry 59 = .ok (.iadd, 1) := by decide +kernel
theorem dX3_carry_60 : decode cX3_carry 60 = .ok (.aload_n 0, 1) := by decide +kernel
theorem dX3_carry_61 : decode cX3_carry 61 = .ok (.iload_n 2, 1) := by decide +kernel
theorem dX3_carry_62 : decode cX3_carry 62 = .ok (.aload_n 1, 1) := by decide +kernel
theorem dX3_carry_63 : decode cX3_carry 63 = .ok (.aload_n 0, 1) := by decide +kernel
theorem dX3_carry_64 : decode cX3_carry 64 = .ok (.getfield 22, 3) := by decide +kernel
theorem dX3_carry_67 : decode cX3_carry 67 = .ok (.getfield 38, 3) := by decide +kernel
theorem dX3_carry_70 : decode cX3_carry 70 = .ok (.iload_n 2, 1) := by decide +kernel
theorem dX3_carry_71 : decode cX3_carry 71 = .ok (.iaload, 1) := by decide +kernel
theorem dX3_carry_72 : decode cX3_carry 72 = .ok (.iload_n 3, 1) := by decide +kernel
theorem dX3_carry_73 : decode cX3_carry 73 = .ok (.invokevirtual 41, 3) := by decide +kernel
theorem dX3_carry_76 : decode cX3_carry 76 = .ok (.invokevirtual 47, 3) := by decide +kernel
theorem dX3_carry_79 : decode cX3_carry 79 = .ok (.iastore, 1) := by decide +kernel
theorem dX3_carry_80 : decode cX3_carry 80 = .ok (.iinc 3 1, 3) := by decide +kernel
theorem dX3_carry_83 : decode cX3_carry 83 = .ok (.goto (-44), 3) := by decide +kernel
theorem dX3_carry_86 : decode cX3_carry 86 = .ok (.iinc 2 1, 3) := by decide +kernel
theorem dX3_carry_89 : decode cX3_carry 89 = .ok (.goto (-63), 3) := by decide +kernel
theorem dX3_carry_92 : decode cX3_carry 92 = .ok (.return_, 1) := by decide +kernel
theorem dX3_carriedOver_0 : decode cX3_carriedOver 0 = .ok (.iload_n 2, 1) := by decide +kernel
theorem dX3_carriedOver_1 : decode cX3_carriedOver 1 = .ok (.ldc 50, 2) := by decide +kernel
theorem dX3_carriedOver_3 : decode cX3_carriedOver 3 = .ok (.if_icmp .ne 6, 3) := by decide +kernel
theorem dX3_carriedOver_6 : decode cX3_carriedOver 6 = .ok (.ldc 50, 2) := by decide +kernel
theorem dX3_carriedOver_8 : decode cX3_carriedOver 8 = .ok (.ireturn, 1) := by decide +kernel
theorem dX3_carriedOver_9 : decode cX3_carriedOver 9 = .ok (.aload_n 0, 1) := by decide +kernel
theorem dX3_carriedOver_10 : decode cX3_carriedOver 10 = .ok (.getfield 22, 3) := by decide +kernel
theorem dX3_carriedOver_13 : decode cX3_carriedOver 13 = .ok (.getfield 51, 3) := by decide +kernel
theorem dX3_carriedOver_16 : decode cX3_carriedOver 16 = .ok (.iload_n 1, 1) := by decide +kernel
theorem dX3_carriedOver_17 : decode cX3_carriedOver 17 = .ok (.iaload, 1) := by decide +kernel
theorem dX3_carriedOver_18 : decode cX3_carriedOver 18 = .ok (.lookupswitch 52 #[(1, 26), (4, 32)], 26) := by decide +kernel
theorem dX3_carriedOver_44 : decode cX3_carriedOver 44 = .ok (.iload_n 2, 1) := by decide +kernel
theorem dX3_carriedOver_45 : decode cX3_carriedOver 45 = .ok (.iconst 1, 1) := by decide +kernel
theorem dX3_carriedOver_46 : decode cX3_carriedOver 46 = .ok (.iadd, 1) := by decide +kernel
theorem dX3_carriedOver_47 : decode cX3_carriedOver 47 = .ok (.iconst 2, 1) := by decide +kernel
theorem dX3_carriedOver_48 : decode cX3_carriedOver 48 = .ok (.idiv, 1) := by decide +kernel
theorem dX3_carriedOver_49 : decode cX3_carriedOver 49 = .ok (.ireturn, 1) := by decide +kernel
theorem dX3_carriedOver_50 : decode cX3_carriedOver 50 = .ok (.iload_n 2, 1) := by decide +kernel
theorem dX3_carriedOver_51 : decode cX3_carriedOver 51 = .ok (.aload_n 0, 1) := by decide +kernel
theorem dX3_carriedOver_52 : decode cX3_carriedOver 52 = .ok (.getfield 22, 3) := by decide +kernel
theorem dX3_carriedOver_55 : decode cX3_carriedOver 55 = .ok (.getfield 54, 3) := by decide +kernel
theorem dX3_carriedOver_58 : decode cX3_carriedOver 58 = .ok (.iload_n 1, 1) := by decide +kernel
theorem dX3_carriedOver_59 : decode cX3_carriedOver 59 = .ok (.iaload, 1) := by decide +kernel
theorem dX3_carriedOver_60 : decode cX3_carriedOver 60 = .ok (.if_icmp .le 8, 3) := by decide +kernel
theorem dX3_carriedOver_63 : decode cX3_carriedOver 63 = .ok (.ldc 50, 2) := by decide +kernel
theorem dX3_carriedOver_65 : decode cX3_carriedOver 65 = .ok (.goto 4, 3) := by decide +kernel
theorem dX3_carriedOver_68 : decode cX3_carriedOver 68 = .ok (.iload_n 2, 1) := by decide +kernel
theorem dX3_carriedOver_69 : decode cX3_carriedOver 69 = .ok (.ireturn, 1) := by decide +kernel
theorem dX3_carriedOver_70 : decode cX3_carriedOver 70 = .ok (.iload_n 2, 1) := by decide +kernel
theorem dX3_carriedOver_71 : decode cX3_carriedOver 71 = .ok (.ireturn, 1) := by decide +kernel
theorem dX3_carriedTo_0 : decode cX3_carriedTo 0 = .ok (.aload_n 0, 1) := by decide +kernel
theorem dX3_carriedTo_1 : decode cX3_carriedTo 1 = .ok (.getfield 9, 3) := by decide +kernel
theorem dX3_carriedTo_4 : decode cX3_carriedTo 4 = .ok (.iload_n 1, 1) := by decide +kernel
theorem dX3_carriedTo_5 : decode cX3_carriedTo 5 = .ok (.bipush 12, 2) := by decide +kernel
theorem dX3_carriedTo_7 : decode cX3_carriedTo 7 = .ok (.imul, 1) := by decide +kernel
theorem dX3_carriedTo_8 : decode cX3_carriedTo 8 = .ok (.iload_n 2, 1) := by decide +kernel
theorem dX3_carriedTo_9 : decode cX3_carriedTo 9 = .ok (.iadd, 1) := by decide +kernel
theorem dX3_carriedTo_10 : decode cX3_carriedTo 10 = .ok (.iaload, 1) := by decide +kernel
theorem dX3_carriedTo_11 : decode cX3_carriedTo 11 = .ok (.ireturn, 1) := by decide +kernel
theorem dX3_isChoice_0 : decode cX3_isChoice 0 = .ok (.iload_n 1, 1) := by decide +kernel
theorem dX3_isChoice_1 : decode cX3_isChoice 1 = .ok (.aload_n 0, 1) := by decide +kernel
theorem dX3_isChoice_2 : decode cX3_isChoice 2 = .ok (.getfield 22, 3) := by decide +kernel
theorem dX3_isChoice_5 : decode cX3_isChoice 5 = .ok (.getfield 32, 3) := by decide +kernel
theorem dX3_isChoice_8 : decode cX3_isChoice 8 = .ok (.iushr, 1) := by decide +kernel
theorem dX3_isChoice_9 : decode cX3_isChoice 9 = .ok (.ifCond .ne 7, 3) := by decide +kernel
theorem dX3_isChoice_12 : decode cX3_isChoice 12 = .ok (.iconst 1, 1) := by decide +kernel
theorem dX3_isChoice_13 : decode cX3_isChoice 13 = .ok (.goto 4, 3) := by decide +kernel
theorem dX3_isChoice_16 : decode cX3_isChoice 16 = .ok (.iconst 0, 1) := by decide +kernel
theorem dX3_isChoice_17 : decode cX3_isChoice 17 = .ok (.ireturn, 1) := by decide +kernel
theorem dX3_mayStand_0 : decode cX3_mayStand 0 = .ok (.iload_n 1, 1) := by decide +kernel
theorem dX3_mayStand_1 : decode cX3_mayStand 1 = .ok (.aload_n 0, 1) := by decide +kernel
theorem dX3_mayStand_2 : decode cX3_mayStand 2 = .ok (.getfield 15, 3) := by decide +kernel
theorem dX3_mayStand_5 : decode cX3_mayStand 5 = .ok (.iand, 1) := by decide +kernel
theorem dX3_mayStand_6 : decode cX3_mayStand 6 = .ok (.aload_n 0, 1) := by decide +kernel
theorem dX3_mayStand_7 : decode cX3_mayStand 7 = .ok (.getfield 15, 3) := by decide +kernel
theorem dX3_mayStand_10 : decode cX3_mayStand 10 = .ok (.if_icmp .ne 31, 3) := by decide +kernel
theorem dX3_mayStand_13 : decode cX3_mayStand 13 = .ok (.iload_n 1, 1) := by decide +kernel
theorem dX3_mayStand_14 : decode cX3_mayStand 14 = .ok (.invokestatic 57, 3) := by decide +kernel
theorem dX3_mayStand_17 : decode cX3_mayStand 17 = .ok (.iload_n 1, 1) := by decide +kernel
theorem dX3_mayStand_18 : decode cX3_mayStand 18 = .ok (.aload_n 0, 1) := by decide +kernel
theorem dX3_mayStand_19 : decode cX3_mayStand 19 = .ok (.getfield 19, 3) := by decide +kernel
theorem dX3_mayStand_22 : decode cX3_mayStand 22 = .ok (.iand, 1) := by decide +kernel
theorem dX3_mayStand_23 : decode cX3_mayStand 23 = .ok (.invokestatic 57, 3) := by decide +kernel
theorem dX3_mayStand_26 : decode cX3_mayStand 26 = .ok (.iadd, 1) := by decide +kernel
theorem dX3_mayStand_27 : decode cX3_mayStand 27 = .ok (.aload_n 0, 1) := by decide +kernel
theorem dX3_mayStand_28 : decode cX3_mayStand 28 = .ok (.getfield 22, 3) := by decide +kernel
theorem dX3_mayStand_31 : decode cX3_mayStand 31 = .ok (.getfield 62, 3) := by decide +kernel
theorem dX3_mayStand_34 : decode cX3_mayStand 34 = .ok (.if_icmp .gt 7, 3) := by decide +kernel
theorem dX3_mayStand_37 : decode cX3_mayStand 37 = .ok (.iconst 1, 1) := by decide +kernel
theorem dX3_mayStand_38 : decode cX3_mayStand 38 = .ok (.goto 4, 3) := by decide +kernel
theorem dX3_mayStand_41 : decode cX3_mayStand 41 = .ok (.iconst 0, 1) := by decide +kernel
theorem dX3_mayStand_42 : decode cX3_mayStand 42 = .ok (.ireturn, 1) := by decide +kernel
theorem dX3_ovenFor_0 : decode cX3_ovenFor 0 = .ok (.bipush (-4), 2) := by decide +kernel
theorem dX3_ovenFor_2 : decode cX3_ovenFor 2 = .ok (.istore_n 3, 1) := by decide +kernel
theorem dX3_ovenFor_3 : decode cX3_ovenFor 3 = .ok (.ldc 50, 2) := by decide +kernel
theorem dX3_ovenFor_5 : decode cX3_ovenFor 5 = .ok (.istore 4, 2) := by decide +kernel
theorem dX3_ovenFor_7 : decode cX3_ovenFor 7 = .ok (.iconst 0, 1) := by decide +kernel
theorem dX3_ovenFor_8 : decode cX3_ovenFor 8 = .ok (.istore 5, 2) := by decide +kernel
theorem dX3_ovenFor_10 : decode cX3_ovenFor 10 = .ok (.iload 5, 2) := by decide +kernel
theorem dX3_ovenFor_12 : decode cX3_ovenFor 12 = .ok (.aload_n 0, 1) := by decide +kernel
theorem dX3_ovenFor_13 : decode cX3_ovenFor 13 = .ok (.getfield 22, 3) := by decide +kernel
theorem dX3_ovenFor_16 : decode cX3_ovenFor 16 = .ok (.getfield 32, 3) := by decide +kernel
theorem dX3_ovenFor_19 : decode cX3_ovenFor 19 = .ok (.if_icmp .ge 42, 3) := by decide +kernel
theorem dX3_ovenFor_22 : decode cX3_ovenFor 22 = .ok (.iload_n 1, 1) := by decide +kernel
theorem dX3_ovenFor_23 : decode cX3_ovenFor 23 = .ok (.iload 5, 2) := by decide +kernel
theorem dX3_ovenFor_25 : decode cX3_ovenFor 25 = .ok (.invokestatic 65, 3) := by decide +kernel
theorem dX3_ovenFor_28 : decode cX3_ovenFor 28 = .ok (.ifCond .eq 27, 3) := by decide +kernel
theorem dX3_ovenFor_31 : decode cX3_ovenFor 31 = .ok (.aload_n 0, 1) := by decide +kernel
theorem dX3_ovenFor_32 : decode cX3_ovenFor 32 = .ok (.iload 5, 2) := by decide +kernel
theorem dX3_ovenFor_34 : decode cX3_ovenFor 34 = .ok (.iload_n 2, 1) := by decide +kernel
theorem dX3_ovenFor_35 : decode cX3_ovenFor 35 = .ok (.invokevirtual 69, 3) := by decide +kernel
theorem dX3_ovenFor_38 : decode cX3_ovenFor 38 = .ok (.iload 4, 2) := by decide +kernel
theorem dX3_ovenFor_40 : decode cX3_ovenFor 40 = .ok (.if_icmp .ge 15, 3) := by decide +kernel
theorem dX3_ovenFor_43 : decode cX3_ovenFor 43 = .ok (.iload 5, 2) := by decide +kernel
theorem dX3_ovenFor_45 : decode cX3_ovenFor 45 = .ok (.istore_n 3, 1) := by decide +kernel
theorem dX3_ovenFor_46 : decode cX3_ovenFor 46 = .ok (.aload_n 0, 1) := by decide +kernel
theorem dX3_ovenFor_47 : decode cX3_ovenFor 47 = .ok (.iload 5, 2) := by decide +kernel
theorem dX3_ovenFor_49 : decode cX3_ovenFor 49 = .ok (.iload_n 2, 1) := by decide +kernel
theorem dX3_ovenFor_50 : decode cX3_ovenFor 50 = .ok (.invokevirtual 69, 3) := by decide +kernel
theorem dX3_ovenFor_53 : decode cX3_ovenFor 53 = .ok (.istore 4, 2) := by decide +kernel
theorem dX3_ovenFor_55 : decode cX3_ovenFor 55 = .ok (.iinc 5 1, 3) := by decide +kernel
theorem dX3_ovenFor_58 : decode cX3_ovenFor 58 = .ok (.goto (-48), 3) := by decide +kernel
theorem dX3_ovenFor_61 : decode cX3_ovenFor 61 = .ok (.iload_n 3, 1) := by decide +kernel
theorem dX3_ovenFor_62 : decode cX3_ovenFor 62 = .ok (.ireturn, 1) := by decide +kernel
theorem dX3_measureOf_0 : decode cX3_measureOf 0 = .ok (.lconst 0, 1) := by decide +kernel
theorem dX3_measureOf_1 : decode cX3_measureOf 1 = .ok (.lstore_n 2, 1) := by decide +kernel
theorem dX3_measureOf_2 : decode cX3_measureOf 2 = .ok (.iconst 0, 1) := by decide +kernel
theorem dX3_measureOf_3 : decode cX3_measureOf 3 = .ok (.istore 4, 2) := by decide +kernel
theorem dX3_measureOf_5 : decode cX3_measureOf 5 = .ok (.iload 4, 2) := by decide +kernel
theorem dX3_measureOf_7 : decode cX3_measureOf 7 = .ok (.aload_n 0, 1) := by decide +kernel
theorem dX3_measureOf_8 : decode cX3_measureOf 8 = .ok (.getfield 22, 3) := by decide +kernel
theorem dX3_measureOf_11 : decode cX3_measureOf 11 = .ok (.getfield 32, 3) := by decide +kernel
theorem dX3_measureOf_14 : decode cX3_measureOf 14 = .ok (.if_icmp .ge 35, 3) := by decide +kernel
theorem dX3_measureOf_17 : decode cX3_measureOf 17 = .ok (.lload_n 2, 1) := by decide +kernel
theorem dX3_measureOf_18 : decode cX3_measureOf 18 = .ok (.iload_n 1, 1) := by decide +kernel
theorem dX3_measureOf_19 : decode cX3_measureOf 19 = .ok (.iload 4, 2) := by decide +kernel
theorem dX3_measureOf_21 : decode cX3_measureOf 21 = .ok (.invokestatic 65, 3) := by decide +kernel
theorem dX3_measureOf_24 : decode cX3_measureOf 24 = .ok (.ifCond .eq 16, 3) := by decide +kernel
theorem dX3_measureOf_27 : decode cX3_measureOf 27 = .ok (.aload_n 0, 1) := by decide +kernel
theorem dX3_measureOf_28 : decode cX3_measureOf 28 = .ok (.getfield 22, 3) := by decide +kernel
theorem dX3_measureOf_31 : decode cX3_measureOf 31 = .ok (.iload 4, 2) := by decide +kernel
theorem dX3_measureOf_33 : decode cX3_measureOf 33 = .ok (.invokevirtual 72, 3) := by decide +kernel
theorem dX3_measureOf_36 : decode cX3_measureOf 36 = .ok (.i2l, 1) := by decide +kernel
theorem dX3_measureOf_37 : decode cX3_measureOf 37 = .ok (.goto 4, 3) := by decide +kernel
theorem dX3_measureOf_40 : decode cX3_measureOf 40 = .ok (.lconst 0, 1) := by decide +kernel
theorem dX3_measureOf_41 : decode cX3_measureOf 41 = .ok (.ladd, 1) := by decide +kernel
theorem dX3_measureOf_42 : decode cX3_measureOf 42 = .ok (.lstore_n 2, 1) := by decide +kernel
theorem dX3_measureOf_43 : decode cX3_measureOf 43 = .ok (.iinc 4 1, 3) := by decide +kernel
theorem dX3_measureOf_46 : decode cX3_measureOf 46 = .ok (.goto (-41), 3) := by decide +kernel
theorem dX3_measureOf_49 : decode cX3_measureOf 49 = .ok (.iconst 0, 1) := by decide +kernel
theorem dX3_measureOf_50 : decode cX3_measureOf 50 = .ok (.istore 4, 2) := by decide +kernel
theorem dX3_measureOf_52 : decode cX3_measureOf 52 = .ok (.iload 4, 2) := by decide +kernel
theorem dX3_measureOf_54 : decode cX3_measureOf 54 = .ok (.aload_n 0, 1) := by decide +kernel
theorem dX3_measureOf_55 : decode cX3_measureOf 55 = .ok (.getfield 22, 3) := by decide +kernel
theorem dX3_measureOf_58 : decode cX3_measureOf 58 = .ok (.getfield 35, 3) := by decide +kernel
theorem dX3_measureOf_61 : decode cX3_measureOf 61 = .ok (.if_icmp .ge 68, 3) := by decide +kernel
theorem dX3_measureOf_64 : decode cX3_measureOf 64 = .ok (.aload_n 0, 1) := by decide +kernel
theorem dX3_measureOf_65 : decode cX3_measureOf 65 = .ok (.getfield 22, 3) := by decide +kernel
theorem dX3_measureOf_68 : decode cX3_measureOf 68 = .ok (.getfield 75, 3) := by decide +kernel
theorem dX3_measureOf_71 : decode cX3_measureOf 71 = .ok (.iload 4, 2) := by decide +kernel
theorem dX3_measureOf_73 : decode cX3_measureOf 73 = .ok (.iaload, 1) := by decide +kernel
theorem dX3_measureOf_74 : decode cX3_measureOf 74 = .ok (.ifCond .le 49, 3) := by decide +kernel
theorem dX3_measureOf_77 : decode cX3_measureOf 77 = .ok (.aload_n 0, 1) := by decide +kernel
theorem dX3_measureOf_78 : decode cX3_measureOf 78 = .ok (.iload_n 1, 1) := by decide +kernel
theorem dX3_measureOf_79 : decode cX3_measureOf 79 = .ok (.iload 4, 2) := by decide +kernel
theorem dX3_measureOf_81 : decode cX3_measureOf 81 = .ok (.invokevirtual 78, 3) := by decide +kernel
theorem dX3_measureOf_84 : decode cX3_measureOf 84 = .ok (.istore 5, 2) := by decide +kernel
theorem dX3_measureOf_86 : decode cX3_measureOf 86 = .ok (.lload_n 2, 1) := by decide +kernel
theorem dX3_measureOf_87 : decode cX3_measureOf 87 = .ok (.iload 5, 2) := by decide +kernel
theorem dX3_measureOf_89 : decode cX3_measureOf 89 = .ok (.bipush (-4), 2) := by decide +kernel
theorem dX3_measureOf_91 : decode cX3_measureOf 91 = .ok (.if_icmp .ne 9, 3) := by decide +kernel
theorem dX3_measureOf_94 : decode cX3_measureOf 94 = .ok (.ldc2_w 81, 3) := by decide +kernel
theorem dX3_measureOf_97 : decode cX3_measureOf 97 = .ok (.goto 24, 3) := by decide +kernel
theorem dX3_measureOf_100 : decode cX3_measureOf 100 = .ok (.aload_n 0, 1) := by decide +kernel
theorem dX3_measureOf_101 : decode cX3_measureOf 101 = .ok (.getfield 22, 3) := by decide +kernel
theorem dX3_measureOf_104 : decode cX3_measureOf 104 = .ok (.getfield 75, 3) := by decide +kernel
theorem dX3_measureOf_107 : decode cX3_measureOf 107 = .ok (.iload 4, 2) := by decide +kernel
theorem dX3_measureOf_109 : decode cX3_measureOf 109 = .ok (.iaload, 1) := by decide +kernel
theorem dX3_measureOf_110 : decode cX3_measureOf 110 = .ok (.i2l, 1) := by decide +kernel
theorem dX3_measureOf_111 : decode cX3_measureOf 111 = .ok (.aload_n 0, 1) := by decide +kernel
theorem dX3_measureOf_112 : decode cX3_measureOf 112 = .ok (.iload 5, 2) := by decide +kernel
theorem dX3_measureOf_114 : decode cX3_measureOf 114 = .ok (.iload 4, 2) := by decide +kernel
theorem dX3_measureOf_116 : decode cX3_measureOf 116 = .ok (.invokevirtual 69, 3) := by decide +kernel
theorem dX3_measureOf_119 : decode cX3_measureOf 119 = .ok (.i2l, 1) := by decide +kernel
theorem dX3_measureOf_120 : decode cX3_measureOf 120 = .ok (.lmul, 1) := by decide +kernel
theorem dX3_measureOf_121 : decode cX3_measureOf 121 = .ok (.ladd, 1) := by decide +kernel
theorem dX3_measureOf_122 : decode cX3_measureOf 122 = .ok (.lstore_n 2, 1) := by decide +kernel
theorem dX3_measureOf_123 : decode cX3_measureOf 123 = .ok (.iinc 4 1, 3) := by decide +kernel
theorem dX3_measureOf_126 : decode cX3_measureOf 126 = .ok (.goto (-74), 3) := by decide +kernel
theorem dX3_measureOf_129 : decode cX3_measureOf 129 = .ok (.lload_n 2, 1) := by decide +kernel
theorem dX3_measureOf_130 : decode cX3_measureOf 130 = .ok (.lreturn, 1) := by decide +kernel
theorem dX3_feeds_0 : decode cX3_feeds 0 = .ok (.aload_n 0, 1) := by decide +kernel
theorem dX3_feeds_1 : decode cX3_feeds 1 = .ok (.getfield 22, 3) := by decide +kernel
theorem dX3_feeds_4 : decode cX3_feeds 4 = .ok (.getfield 75, 3) := by decide +kernel
theorem dX3_feeds_7 : decode cX3_feeds 7 = .ok (.iload_n 3, 1) := by decide +kernel
theorem dX3_feeds_8 : decode cX3_feeds 8 = .ok (.iaload, 1) := by decide +kernel
theorem dX3_feeds_9 : decode cX3_feeds 9 = .ok (.ifCond .le 17, 3) := by decide +kernel
theorem dX3_feeds_12 : decode cX3_feeds 12 = .ok (.aload_n 0, 1) := by decide +kernel
theorem dX3_feeds_13 : decode cX3_feeds 13 = .ok (.iload_n 1, 1) := by decide +kernel
theorem dX3_feeds_14 : decode cX3_feeds 14 = .ok (.iload_n 3, 1) := by decide +kernel
theorem dX3_feeds_15 : decode cX3_feeds 15 = .ok (.invokevirtual 78, 3) := by decide +kernel
theorem dX3_feeds_18 : decode cX3_feeds 18 = .ok (.iload_n 2, 1) := by decide +kernel
theorem dX3_feeds_19 : decode cX3_feeds 19 = .ok (.if_icmp .ne 7, 3) := by decide +kernel
theorem dX3_feeds_22 : decode cX3_feeds 22 = .ok (.iconst 1, 1) := by decide +kernel
theorem dX3_feeds_23 : decode cX3_feeds 23 = .ok (.goto 4, 3) := by decide +kernel
theorem dX3_feeds_26 : decode cX3_feeds 26 = .ok (.iconst 0, 1) := by decide +kernel
theorem dX3_feeds_27 : decode cX3_feeds 27 = .ok (.ireturn, 1) := by decide +kernel
theorem dX3_villagesOf_0 : decode cX3_villagesOf 0 = .ok (.iconst 0, 1) := by decide +kernel
theorem dX3_villagesOf_1 : decode cX3_villagesOf 1 = .ok (.istore_n 3, 1) := by decide +kernel
theorem dX3_villagesOf_2 : decode cX3_villagesOf 2 = .ok (.iconst 0, 1) := by decide +kernel
theorem dX3_villagesOf_3 : decode cX3_villagesOf 3 = .ok (.istore 4, 2) := by decide +kernel
theorem dX3_villagesOf_5 : decode cX3_villagesOf 5 = .ok (.iload 4, 2) := by decide +kernel
theorem dX3_villagesOf_7 : decode cX3_villagesOf 7 = .ok (.aload_n 0, 1) := by decide +kernel
theorem dX3_villagesOf_8 : decode cX3_villagesOf 8 = .ok (.getfield 22, 3) := by decide +kernel
theorem dX3_villagesOf_11 : decode cX3_villagesOf 11 = .ok (.getfield 35, 3) := by decide +kernel
theorem dX3_villagesOf_14 : decode cX3_villagesOf 14 = .ok (.if_icmp .ge 28, 3) := by decide +kernel
theorem dX3_villagesOf_17 : decode cX3_villagesOf 17 = .ok (.iload_n 3, 1) := by decide +kernel
theorem dX3_villagesOf_18 : decode cX3_villagesOf 18 = .ok (.aload_n 0, 1) := by decide +kernel
theorem dX3_villagesOf_19 : decode cX3_villagesOf 19 = .ok (.iload_n 1, 1) := by decide +kernel
theorem dX3_villagesOf_20 : decode cX3_villagesOf 20 = .ok (.iload_n 2, 1) := by decide +kernel
theorem dX3_villagesOf_21 : decode cX3_villagesOf 21 = .ok (.iload 4, 2) := by decide +kernel
theorem dX3_villagesOf_23 : decode cX3_villagesOf 23 = .ok (.invokevirtual 83, 3) := by decide +kernel
theorem dX3_villagesOf_26 : decode cX3_villagesOf 26 = .ok (.ifCond .eq 7, 3) := by decide +kernel
theorem dX3_villagesOf_29 : decode cX3_villagesOf 29 = .ok (.iconst 1, 1) := by decide +kernel
theorem dX3_villagesOf_30 : decode cX3_villagesOf 30 = .ok (.goto 4, 3) := by decide +kernel
theorem dX3_villagesOf_33 : decode cX3_villagesOf 33 = .ok (.iconst 0, 1) := by decide +kernel
theorem dX3_villagesOf_34 : decode cX3_villagesOf 34 = .ok (.iadd, 1) := by decide +kernel
theorem dX3_villagesOf_35 : decode cX3_villagesOf 35 = .ok (.istore_n 3, 1) := by decide +kernel
theorem dX3_villagesOf_36 : decode cX3_villagesOf 36 = .ok (.iinc 4 1, 3) := by decide +kernel
theorem dX3_villagesOf_39 : decode cX3_villagesOf 39 = .ok (.goto (-34), 3) := by decide +kernel
theorem dX3_villagesOf_42 : decode cX3_villagesOf 42 = .ok (.iload_n 3, 1) := by decide +kernel
theorem dX3_villagesOf_43 : decode cX3_villagesOf 43 = .ok (.ireturn, 1) := by decide +kernel
theorem dX3_loavesOf_0 : decode cX3_loavesOf 0 = .ok (.iconst 0, 1) := by decide +kernel
theorem dX3_loavesOf_1 : decode cX3_loavesOf 1 = .ok (.istore_n 3, 1) := by decide +kernel
theorem dX3_loavesOf_2 : decode cX3_loavesOf 2 = .ok (.iconst 0, 1) := by decide +kernel
theorem dX3_loavesOf_3 : decode cX3_loavesOf 3 = .ok (.istore 4, 2) := by decide +kernel
theorem dX3_loavesOf_5 : decode cX3_loavesOf 5 = .ok (.iload 4, 2) := by decide +kernel
theorem dX3_loavesOf_7 : decode cX3_loavesOf 7 = .ok (.aload_n 0, 1) := by decide +kernel
theorem dX3_loavesOf_8 : decode cX3_loavesOf 8 = .ok (.getfield 22, 3) := by decide +kernel
theorem dX3_loavesOf_11 : decode cX3_loavesOf 11 = .ok (.getfield 35, 3) := by decide +kernel
theorem dX3_loavesOf_14 : decode cX3_loavesOf 14 = .ok (.if_icmp .ge 37, 3) := by decide +kernel
theorem dX3_loavesOf_17 : decode cX3_loavesOf 17 = .ok (.iload_n 3, 1) := by decide +kernel
theorem dX3_loavesOf_18 : decode cX3_loavesOf 18 = .ok (.aload_n 0, 1) := by decide +kernel
theorem dX3_loavesOf_19 : decode cX3_loavesOf 19 = .ok (.iload_n 1, 1) := by decide +kernel
theorem dX3_loavesOf_20 : decode cX3_loavesOf 20 = .ok (.iload_n 2, 1) := by decide +kernel
theorem dX3_loavesOf_21 : decode cX3_loavesOf 21 = .ok (.iload 4, 2) := by decide +kernel
theorem dX3_loavesOf_23 : decode cX3_loavesOf 23 = .ok (.invokevirtual 83, 3) := by decide +kernel
theorem dX3_loavesOf_26 : decode cX3_loavesOf 26 = .ok (.ifCond .eq 16, 3) := by decide +kernel
theorem dX3_loavesOf_29 : decode cX3_loavesOf 29 = .ok (.aload_n 0, 1) := by decide +kernel
theorem dX3_loavesOf_30 : decode cX3_loavesOf 30 = .ok (.getfield 22, 3) := by decide +kernel
theorem dX3_loavesOf_33 : decode cX3_loavesOf 33 = .ok (.getfield 75, 3) := by decide +kernel
theorem dX3_loavesOf_36 : decode cX3_loavesOf 36 = .ok (.iload 4, 2) := by decide +kernel
theorem dX3_loavesOf_38 : decode cX3_loavesOf 38 = .ok (.iaload, 1) := by decide +kernel
theorem dX3_loavesOf_39 : decode cX3_loavesOf 39 = .ok (.goto 4, 3) := by decide +kernel
theorem dX3_loavesOf_42 : decode cX3_loavesOf 42 = .ok (.iconst 0, 1) := by decide +kernel
theorem dX3_loavesOf_43 : decode cX3_loavesOf 43 = .ok (.iadd, 1) := by decide +kernel
theorem dX3_loavesOf_44 : decode cX3_loavesOf 44 = .ok (.istore_n 3, 1) := by decide +kernel
theorem dX3_loavesOf_45 : decode cX3_loavesOf 45 = .ok (.iinc 4 1, 3) := by decide +kernel
theorem dX3_loavesOf_48 : decode cX3_loavesOf 48 = .ok (.goto (-43), 3) := by decide +kernel
theorem dX3_loavesOf_51 : decode cX3_loavesOf 51 = .ok (.iload_n 3, 1) := by decide +kernel
theorem dX3_loavesOf_52 : decode cX3_loavesOf 52 = .ok (.ireturn, 1) := by decide +kernel
theorem dX3_farthestOf_0 : decode cX3_farthestOf 0 = .ok (.iconst 0, 1) := by decide +kernel
theorem dX3_farthestOf_1 : decode cX3_farthestOf 1 = .ok (.istore_n 3, 1) := by decide +kernel
theorem dX3_farthestOf_2 : decode cX3_farthestOf 2 = .ok (.iconst 0, 1) := by decide +kernel
theorem dX3_farthestOf_3 : decode cX3_farthestOf 3 = .ok (.istore 4, 2) := by decide +kernel
theorem dX3_farthestOf_5 : decode cX3_farthestOf 5 = .ok (.iload 4, 2) := by decide +kernel
theorem dX3_farthestOf_7 : decode cX3_farthestOf 7 = .ok (.aload_n 0, 1) := by decide +kernel
theorem dX3_farthestOf_8 : decode cX3_farthestOf 8 = .ok (.getfield 22, 3) := by decide +kernel
theorem dX3_farthestOf_11 : decode cX3_farthestOf 11 = .ok (.getfield 35, 3) := by decide +kernel
theorem dX3_farthestOf_14 : decode cX3_farthestOf 14 = .ok (.if_icmp .ge 36, 3) := by decide +kernel
theorem dX3_farthestOf_17 : decode cX3_farthestOf 17 = .ok (.aload_n 0, 1) := by decide +kernel
theorem dX3_farthestOf_18 : decode cX3_farthestOf 18 = .ok (.iload_n 1, 1) := by decide +kernel
theorem dX3_farthestOf_19 : decode cX3_farthestOf 19 = .ok (.iload_n 2, 1) := by decide +kernel
theorem dX3_farthestOf_20 : decode cX3_farthestOf 20 = .ok (.iload 4, 2) := by decide +kernel
theorem dX3_farthestOf_22 : decode cX3_farthestOf 22 = .ok (.invokevirtual 83, 3) := by decide +kernel
theorem dX3_farthestOf_25 : decode cX3_farthestOf 25 = .ok (.ifCond .eq 17, 3) := by decide +kernel
theorem dX3_farthestOf_28 : decode cX3_farthestOf 28 = .ok (.iload_n 3, 1) := by decide +kernel
theorem dX3_farthestOf_29 : decode cX3_farthestOf 29 = .ok (.aload_n 0, 1) := by decide +kernel
theorem dX3_farthestOf_30 : decode cX3_farthestOf 30 = .ok (.iload_n 2, 1) := by decide +kernel
theorem dX3_farthestOf_31 : decode cX3_farthestOf 31 = .ok (.iload 4, 2) := by decide +kernel
theorem dX3_farthestOf_33 : decode cX3_farthestOf 33 = .ok (.invokevirtual 69, 3) := by decide +kernel
theorem dX3_farthestOf_36 : decode cX3_farthestOf 36 = .ok (.invokestatic 87, 3) := by decide +kernel
theorem dX3_farthestOf_39 : decode cX3_farthestOf 39 = .ok (.goto 4, 3) := by decide +kernel
theorem dX3_farthestOf_42 : decode cX3_farthestOf 42 = .ok (.iload_n 3, 1) := by decide +kernel
theorem dX3_farthestOf_43 : decode cX3_farthestOf 43 = .ok (.istore_n 3, 1) := by decide +kernel
theorem dX3_farthestOf_44 : decode cX3_farthestOf 44 = .ok (.iinc 4 1, 3) := by decide +kernel
theorem dX3_farthestOf_47 : decode cX3_farthestOf 47 = .ok (.goto (-42), 3) := by decide +kernel
theorem dX3_farthestOf_50 : decode cX3_farthestOf 50 = .ok (.iload_n 3, 1) := by decide +kernel
theorem dX3_farthestOf_51 : decode cX3_farthestOf 51 = .ok (.ireturn, 1) := by decide +kernel
theorem dX3_farthestOfAll_0 : decode cX3_farthestOfAll 0 = .ok (.iconst 0, 1) := by decide +kernel
theorem dX3_farthestOfAll_1 : decode cX3_farthestOfAll 1 = .ok (.istore_n 2, 1) := by decide +kernel
theorem dX3_farthestOfAll_2 : decode cX3_farthestOfAll 2 = .ok (.iconst 0, 1) := by decide +kernel
theorem dX3_farthestOfAll_3 : decode cX3_farthestOfAll 3 = .ok (.istore_n 3, 1) := by decide +kernel
theorem dX3_farthestOfAll_4 : decode cX3_farthestOfAll 4 = .ok (.iload_n 3, 1) := by decide +kernel
theorem dX3_farthestOfAll_5 : decode cX3_farthestOfAll 5 = .ok (.aload_n 0, 1) := by decide +kernel
theorem dX3_farthestOfAll_6 : decode cX3_farthestOfAll 6 = .ok (.getfield 22, 3) := by decide +kernel
theorem dX3_farthestOfAll_9 : decode cX3_farthestOfAll 9 = .ok (.getfield 35, 3) := by decide +kernel
theorem dX3_farthestOfAll_12 : decode cX3_farthestOfAll 12 = .ok (.if_icmp .ge 57, 3) := by decide +kernel
theorem dX3_farthestOfAll_15 : decode cX3_farthestOfAll 15 = .ok (.aload_n 0, 1) := by decide +kernel
theorem dX3_farthestOfAll_16 : decode cX3_farthestOfAll 16 = .ok (.getfield 22, 3) := by decide +kernel
theorem dX3_farthestOfAll_19 : decode cX3_farthestOfAll 19 = .ok (.getfield 75, 3) := by decide +kernel
theorem dX3_farthestOfAll_22 : decode cX3_farthestOfAll 22 = .ok (.iload_n 3, 1) := by decide +kernel
theorem dX3_farthestOfAll_23 : decode cX3_farthestOfAll 23 = .ok (.iaload, 1) := by decide +kernel
theorem dX3_farthestOfAll_24 : decode cX3_farthestOfAll 24 = .ok (.ifCond .le 12, 3) := by decide +kernel
theorem dX3_farthestOfAll_27 : decode cX3_farthestOfAll 27 = .ok (.aload_n 0, 1) := by decide +kernel
theorem dX3_farthestOfAll_28 : decode cX3_farthestOfAll 28 = .ok (.iload_n 1, 1) := by decide +kernel
theorem dX3_farthestOfAll_29 : decode cX3_farthestOfAll 29 = .ok (.iload_n 3, 1) := by decide +kernel
theorem dX3_farthestOfAll_30 : decode cX3_farthestOfAll 30 = .ok (.invokevirtual 78, 3) := by decide +kernel
theorem dX3_farthestOfAll_33 : decode cX3_farthestOfAll 33 = .ok (.goto 5, 3) := by decide +kernel
theorem dX3_farthestOfAll_36 : decode cX3_farthestOfAll 36 = .ok (.bipush (-4), 2) := by decide +kernel
theorem dX3_farthestOfAll_38 : decode cX3_farthestOfAll 38 = .ok (.istore 4, 2) := by decide +kernel
theorem dX3_farthestOfAll_40 : decode cX3_farthestOfAll 40 = .ok (.iload 4, 2) := by decide +kernel
theorem dX3_farthestOfAll_42 : decode cX3_farthestOfAll 42 = .ok (.bipush (-4), 2) := by decide +kernel
theorem dX3_farthestOfAll_44 : decode cX3_farthestOfAll 44 = .ok (.if_icmp .ne 7, 3) := by decide +kernel
theorem dX3_farthestOfAll_47 : decode cX3_farthestOfAll 47 = .ok (.iload_n 2, 1) := by decide +kernel
theorem dX3_farthestOfAll_48 : decode cX3_farthestOfAll 48 = .ok (.goto 14, 3) := by decide +kernel
theorem dX3_farthestOfAll_51 : decode cX3_farthestOfAll 51 = .ok (.iload_n 2, 1) := by decide +kernel
theorem dX3_farthestOfAll_52 : decode cX3_farthestOfAll 52 = .ok (.aload_n 0, 1) := by decide +kernel
theorem dX3_farthestOfAll_53 : decode cX3_farthestOfAll 53 = .ok (.iload 4, 2) := by decide +kernel
theorem dX3_farthestOfAll_55 : decode cX3_farthestOfAll 55 = .ok (.iload_n 3, 1) := by decide +kernel
theorem dX3_farthestOfAll_56 : decode cX3_farthestOfAll 56 = .ok (.invokevirtual 69, 3) := by decide +kernel
theorem dX3_farthestOfAll_59 : decode cX3_farthestOfAll 59 = .ok (.invokestatic 87, 3) := by decide +kernel
theorem dX3_farthestOfAll_62 : decode cX3_farthestOfAll 62 = .ok (.istore_n 2, 1) := by decide +kernel
theorem dX3_farthestOfAll_63 : decode cX3_farthestOfAll 63 = .ok (.iinc 3 1, 3) := by decide +kernel
theorem dX3_farthestOfAll_66 : decode cX3_farthestOfAll 66 = .ok (.goto (-62), 3) := by decide +kernel
theorem dX3_farthestOfAll_69 : decode cX3_farthestOfAll 69 = .ok (.iload_n 2, 1) := by decide +kernel
theorem dX3_farthestOfAll_70 : decode cX3_farthestOfAll 70 = .ok (.ireturn, 1) := by decide +kernel
theorem dX4_init_0 : decode cX4_init 0 = .ok (.aload_n 0, 1) := by decide +kernel
theorem dX4_init_1 : decode cX4_init 1 = .ok (.invokespecial 3, 3) := by decide +kernel
theorem dX4_init_4 : decode cX4_init 4 = .ok (.aload_n 0, 1) := by decide +kernel
theorem dX4_init_5 : decode cX4_init 5 = .ok (.bipush 12, 2) := by decide +kernel
theorem dX4_init_7 : decode cX4_init 7 = .ok (.newarray .long, 2) := by decide +kernel
theorem dX4_init_9 : decode cX4_init 9 = .ok (.putfield 9, 3) := by decide +kernel
theorem dX4_init_12 : decode cX4_init 12 = .ok (.aload_n 0, 1) := by decide +kernel
theorem dX4_init_13 : decode cX4_init 13 = .ok (.sipush 1024, 3) := by decide +kernel
theorem dX4_init_16 : decode cX4_init 16 = .ok (.newarray .long, 2) := by decide +kernel
theorem dX4_init_18 : decode cX4_init 18 = .ok (.putfield 15, 3) := by decide +kernel
theorem dX4_init_21 : decode cX4_init 21 = .ok (.aload_n 0, 1) := by decide +kernel
theorem dX4_init_22 : decode cX4_init 22 = .ok (.bipush (-4), 2) := by decide +kernel
theorem dX4_init_24 : decode cX4_init 24 = .ok (.putfield 18, 3) := by decide +kernel
theorem dX4_init_27 : decode cX4_init 27 = .ok (.aload_n 0, 1) := by decide +kernel
theorem dX4_init_28 : decode cX4_init 28 = .ok (.lconst 0, 1) := by decide +kernel
theorem dX4_init_29 : decode cX4_init 29 = .ok (.putfield 22, 3) := by decide +kernel
theorem dX4_init_32 : decode cX4_init 32 = .ok (.aload_n 0, 1) := by decide +kernel
theorem dX4_init_33 : decode cX4_init 33 = .ok (.aload_n 1, 1) := by decide +kernel
theorem dX4_init_34 : decode cX4_init 34 = .ok (.putfield 26, 3) := by decide +kernel
theorem dX4_init_37 : decode cX4_init 37 = .ok (.aload_n 0, 1) := by decide +kernel
theorem dX4_init_38 : decode cX4_init 38 = .ok (.aload_n 2, 1) := by decide +kernel
theorem dX4_init_39 : decode cX4_init 39 = .ok (.putfield 30, 3) := by decide +kernel
theorem dX4_init_42 : decode cX4_init 42 = .ok (.return_, 1) := by decide +kernel
theorem dX4_forgetFrom_0 : decode cX4_forgetFrom 0 = .ok (.iload_n 1, 1) := by decide +kernel
theorem dX4_forgetFrom_1 : decode cX4_forgetFrom 1 = .ok (.istore_n 2, 1) := by decide +kernel
theorem dX4_forgetFrom_2 : decode cX4_forgetFrom 2 = .ok (.iload_n 2, 1) := by decide +kernel
theorem dX4_forgetFrom_3 : decode cX4_forgetFrom 3 = .ok (.bipush 12, 2) := by decide +kernel
theorem dX4_forgetFrom_5 : decode cX4_forgetFrom 5 = .ok (.if_icmp .ge 16, 3) := by decide +kernel
theorem dX4_forgetFrom_8 : decode cX4_forgetFrom 8 = .ok (.aload_n 0, 1) := by decide +kernel
theorem dX4_forgetFrom_9 : decode cX4_forgetFrom 9 = .ok (.getfield 9, 3) := by decide +kernel
theorem dX4_forgetFrom_12 : decode cX4_forgetFrom 12 = .ok (.iload_n 2, 1) := by decide +kernel
theorem dX4_forgetFrom_13 : decode cX4_forgetFrom 13 = .ok (.lconst 0, 1) := by decide +kernel
theorem dX4_forgetFrom_14 : decode cX4_forgetFrom 14 = .ok (.lastore, 1) := by decide +kernel
theorem dX4_forgetFrom_15 : decode cX4_forgetFrom 15 = .ok (.iinc 2 1, 3) := by decide +kernel
theorem dX4_forgetFrom_18 : decode cX4_forgetFrom 18 = .ok (.goto (-16), 3) := by decide +kernel
theorem dX4_forgetFrom_21 : decode cX4_forgetFrom 21 = .ok (.return_, 1) := by decide +kernel
theorem dX4_giftOf_0 : decode cX4_giftOf 0 = .ok (.aload_n 0, 1) := by decide +kernel
theorem dX4_giftOf_1 : decode cX4_giftOf 1 = .ok (.getfield 30, 3) := by decide +kernel
theorem dX4_giftOf_4 : decode cX4_giftOf 4 = .ok (.iload_n 1, 1) := by decide +kernel
theorem dX4_giftOf_5 : decode cX4_giftOf 5 = .ok (.iload_n 2, 1) := by decide +kernel
theorem dX4_giftOf_6 : decode cX4_giftOf 6 = .ok (.invokevirtual 34, 3) := by decide +kernel
theorem dX4_giftOf_9 : decode cX4_giftOf 9 = .ok (.istore_n 3, 1) := by decide +kernel
theorem dX4_giftOf_10 : decode cX4_giftOf 10 = .ok (.aload_n 0, 1) := by decide +kernel
theorem dX4_giftOf_11 : decode cX4_giftOf 11 = .ok (.getfield 26, 3) := by decide +kernel
theorem dX4_giftOf_14 : decode cX4_giftOf 14 = .ok (.getfield 40, 3) := by decide +kernel
theorem dX4_giftOf_17 : decode cX4_giftOf 17 = .ok (.iload_n 2, 1) := by decide +kernel
theorem dX4_giftOf_18 : decode cX4_giftOf 18 = .ok (.iaload, 1) := by decide +kernel
theorem dX4_giftOf_19 : decode cX4_giftOf 19 = .ok (.ifCond .eq 9, 3) := by decide +kernel
theorem dX4_giftOf_22 : decode cX4_giftOf 22 = .ok (.iload_n 3, 1) := by decide +kernel
theorem dX4_giftOf_23 : decode cX4_giftOf 23 = .ok (.ldc 46, 2) := by decide +kernel
theorem dX4_giftOf_25 : decode cX4_giftOf 25 = .ok (.if_icmp .ne 5, 3) := by decide +kernel
theorem dX4_giftOf_28 : decode cX4_giftOf 28 = .ok (.lconst 0, 1) := by decide +kernel
theorem dX4_giftOf_29 : decode cX4_giftOf 29 = .ok (.lreturn, 1) := by decide +kernel
theorem dX4_giftOf_30 : decode cX4_giftOf 30 = .ok (.lconst 0, 1) := by decide +kernel
theorem dX4_giftOf_31 : decode cX4_giftOf 31 = .ok (.aload_n 0, 1) := by decide +kernel
theorem dX4_giftOf_32 : decode cX4_giftOf 32 = .ok (.getfield 9, 3) := by decide +kernel
theorem dX4_giftOf_35 : decode cX4_giftOf 35 = .ok (.iload_n 2, 1) := by decide +kernel
theorem dX4_giftOf_36 : decode cX4_giftOf 36 = .ok (.laload, 1) := by decide +kernel
theorem dX4_giftOf_37 : decode cX4_giftOf 37 = .ok (.aload_n 0, 1) := by decide +kernel
theorem dX4_giftOf_38 : decode cX4_giftOf 38 = .ok (.getfield 26, 3) := by decide +kernel
theorem dX4_giftOf_41 : decode cX4_giftOf 41 = .ok (.getfield 40, 3) := by decide +kernel
theorem dX4_giftOf_44 : decode cX4_giftOf 44 = .ok (.iload_n 2, 1) := by decide +kernel
theorem dX4_giftOf_45 : decode cX4_giftOf 45 = .ok (.iaload, 1) := by decide +kernel
theorem dX4_giftOf_46 : decode cX4_giftOf 46 = .ok (.i2l, 1) := by decide +kernel
theorem dX4_giftOf_47 : decode cX4_giftOf 47 = .ok (.iload_n 3, 1) := by decide +kernel
theorem dX4_giftOf_48 : decode cX4_giftOf 48 = .ok (.i2l, 1) := by decide +kernel
theorem dX4_giftOf_49 : decode cX4_giftOf 49 = .ok (.lmul, 1) := by decide +kernel
theorem dX4_giftOf_50 : decode cX4_giftOf 50 = .ok (.lsub, 1) := by decide +kernel
theorem dX4_giftOf_51 : decode cX4_giftOf 51 = .ok (.invokestatic 47, 3) := by decide +kernel
theorem dX4_giftOf_54 : decode cX4_giftOf 54 = .ok (.lreturn, 1) := by decide +kernel
theorem dX4_worthOf_0 : decode cX4_worthOf 0 = .ok (.aload_n 0, 1) := by decide +kernel
theorem dX4_worthOf_1 : decode cX4_worthOf 1 = .ok (.getfield 26, 3) := by decide +kernel
theorem dX4_worthOf_4 : decode cX4_worthOf 4 = .ok (.iload_n 1, 1) := by decide +kernel
theorem dX4_worthOf_5 : decode cX4_worthOf 5 = .ok (.invokevirtual 53, 3) := by decide +kernel
theorem dX4_worthOf_8 : decode cX4_worthOf 8 = .ok (.ineg, 1) := by decide +kernel
theorem dX4_worthOf_9 : decode cX4_worthOf 9 = .ok (.i2l, 1) := by decide +kernel
theorem dX4_worthOf_10 : decode cX4_worthOf 10 = .ok (.lstore_n 2, 1) := by decide +kernel
theorem dX4_worthOf_11 : decode cX4_worthOf 11 = .ok (.iconst 0, 1) := by decide +kernel
theorem dX4_worthOf_12 : decode cX4_worthOf 12 = .ok (.istore 4, 2) := by decide +kernel
theorem dX4_worthOf_14 : decode cX4_worthOf 14 = .ok (.iload 4, 2) := by decide +kernel
theorem dX4_worthOf_16 : decode cX4_worthOf 16 = .ok (.aload_n 0, 1) := by decide +kernel
theorem dX4_worthOf_17 : decode cX4_worthOf 17 = .ok (.getfield 26, 3) := by decide +kernel
theorem dX4_worthOf_20 : decode cX4_worthOf 20 = .ok (.getfield 57, 3) := by decide +kernel
theorem dX4_worthOf_23 : decode cX4_worthOf 23 = .ok (.if_icmp .ge 19, 3) := by decide +kernel
theorem dX4_worthOf_26 : decode cX4_worthOf 26 = .ok (.lload_n 2, 1) := by decide +kernel
theorem dX4_worthOf_27 : decode cX4_worthOf 27 = .ok (.aload_n 0, 1) := by decide +kernel
theorem dX4_worthOf_28 : decode cX4_worthOf 28 = .ok (.iload_n 1, 1) := by decide +kernel
theorem dX4_worthOf_29 : decode cX4_worthOf 29 = .ok (.iload 4, 2) := by decide +kernel
theorem dX4_worthOf_31 : decode cX4_worthOf 31 = .ok (.invokevirtual 60, 3) := by decide +kernel
theorem dX4_worthOf_34 : decode cX4_worthOf 34 = .ok (.ladd, 1) := by decide +kernel
theorem dX4_worthOf_35 : decode cX4_worthOf 35 = .ok (.lstore_n 2, 1) := by decide +kernel
theorem dX4_worthOf_36 : decode cX4_worthOf 36 = .ok (.iinc 4 1, 3) := by decide +kernel
theorem dX4_worthOf_39 : decode cX4_worthOf 39 = .ok (.goto (-25), 3) := by decide +kernel
theorem dX4_worthOf_42 : decode cX4_worthOf 42 = .ok (.lconst 0, 1) := by decide +kernel
theorem dX4_worthOf_43 : decode cX4_worthOf 43 = .ok (.lload_n 2, 1) := by decide +kernel
theorem dX4_worthOf_44 : decode cX4_worthOf 44 = .ok (.invokestatic 47, 3) := by decide +kernel
theorem dX4_worthOf_47 : decode cX4_worthOf 47 = .ok (.lreturn, 1) := by decide +kernel
theorem dX4_findTop_0 : decode cX4_findTop 0 = .ok (.aload_n 0, 1) := by decide +kernel
theorem dX4_findTop_1 : decode cX4_findTop 1 = .ok (.invokevirtual 64, 3) := by decide +kernel
theorem dX4_findTop_4 : decode cX4_findTop 4 = .ok (.aload_n 0, 1) := by decide +kernel
theorem dX4_findTop_5 : decode cX4_findTop 5 = .ok (.bipush (-4), 2) := by decide +kernel
theorem dX4_findTop_7 : decode cX4_findTop 7 = .ok (.putfield 18, 3) := by decide +kernel
theorem dX4_findTop_10 : decode cX4_findTop 10 = .ok (.iconst 1, 1) := by decide +kernel
theorem dX4_findTop_11 : decode cX4_findTop 11 = .ok (.aload_n 0, 1) := by decide +kernel
theorem dX4_findTop_12 : decode cX4_findTop 12 = .ok (.getfield 26, 3) := by decide +kernel
theorem dX4_findTop_15 : decode cX4_findTop 15 = .ok (.getfield 67, 3) := by decide +kernel
theorem dX4_findTop_18 : decode cX4_findTop 18 = .ok (.ishl, 1) := by decide +kernel
theorem dX4_findTop_19 : decode cX4_findTop 19 = .ok (.istore_n 1, 1) := by decide +kernel
theorem dX4_findTop_20 : decode cX4_findTop 20 = .ok (.iconst 0, 1) := by decide +kernel
theorem dX4_findTop_21 : decode cX4_findTop 21 = .ok (.istore_n 2, 1) := by decide +kernel
theorem dX4_findTop_22 : decode cX4_findTop 22 = .ok (.iload_n 2, 1) := by decide +kernel
theorem dX4_findTop_23 : decode cX4_findTop 23 = .ok (.iload_n 1, 1) := by decide +kernel
theorem dX4_findTop_24 : decode cX4_findTop 24 = .ok (.if_icmp .ge 53, 3) := by decide +kernel
theorem dX4_findTop_27 : decode cX4_findTop 27 = .ok (.aload_n 0, 1) := by decide +kernel
theorem dX4_findTop_28 : decode cX4_findTop 28 = .ok (.getfield 30, 3) := by decide +kernel
theorem dX4_findTop_31 : decode cX4_findTop 31 = .ok (.iload_n 2, 1) := by decide +kernel
theorem dX4_findTop_32 : decode cX4_findTop 32 = .ok (.invokevirtual 70, 3) := by decide +kernel
theorem dX4_findTop_35 : decode cX4_findTop 35 = .ok (.ifCond .eq 36, 3) := by decide +kernel
theorem dX4_findTop_38 : decode cX4_findTop 38 = .ok (.aload_n 0, 1) := by decide +kernel
theorem dX4_findTop_39 : decode cX4_findTop 39 = .ok (.getfield 18, 3) := by decide +kernel
theorem dX4_findTop_42 : decode cX4_findTop 42 = .ok (.bipush (-4), 2) := by decide +kernel
theorem dX4_findTop_44 : decode cX4_findTop 44 = .ok (.if_icmp .eq 22, 3) := by decide +kernel
theorem dX4_findTop_47 : decode cX4_findTop 47 = .ok (.aload_n 0, 1) := by decide +kernel
theorem dX4_findTop_48 : decode cX4_findTop 48 = .ok (.getfield 15, 3) := by decide +kernel
theorem dX4_findTop_51 : decode cX4_findTop 51 = .ok (.iload_n 2, 1) := by decide +kernel
theorem dX4_findTop_52 : decode cX4_findTop 52 = .ok (.laload, 1) := by decide +kernel
theorem dX4_findTop_53 : decode cX4_findTop 53 = .ok (.aload_n 0, 1) := by decide +kernel
theorem dX4_findTop_54 : decode cX4_findTop 54 = .ok (.getfield 15, 3) := by decide +kernel
theorem dX4_findTop_57 : decode cX4_findTop 57 = .ok (.aload_n 0, 1) := by decide +kernel
theorem dX4_findTop_58 : decode cX4_findTop 58 = .ok (.getfield 18, 3) := by decide +kernel
theorem dX4_findTop_61 : decode cX4_findTop 61 = .ok (.laload, 1) := by decide +kernel
theorem dX4_findTop_62 : decode cX4_findTop 62 = .ok (.lcmp, 1) := by decide +kernel
theorem dX4_findTop_63 : decode cX4_findTop 63 = .ok (.ifCond .le 8, 3) := by decide +kernel
theorem dX4_findTop_66 : decode cX4_findTop 66 = .ok (.aload_n 0, 1) := by decide +kernel
theorem dX4_findTop_67 : decode cX4_findTop 67 = .ok (.iload_n 2, 1) := by decide +kernel
theorem dX4_findTop_68 : decode cX4_findTop 68 = .ok (.putfield 18, 3) := by decide +kernel
theorem dX4_findTop_71 : decode cX4_findTop 71 = .ok (.iinc 2 1, 3) := by decide +kernel
theorem dX4_findTop_74 : decode cX4_findTop 74 = .ok (.goto (-52), 3) := by decide +kernel
theorem dX4_findTop_77 : decode cX4_findTop 77 = .ok (.return_, 1) := by decide +kernel
theorem dX4_addUpWorths_0 : decode cX4_addUpWorths 0 = .ok (.aload_n 0, 1) := by decide +kernel
theorem dX4_addUpWorths_1 : decode cX4_addUpWorths 1 = .ok (.getfield 15, 3) := by decide +kernel
theorem dX4_addUpWorths_4 : decode cX4_addUpWorths 4 = .ok (.iconst 0, 1) := by decide +kernel
theorem dX4_addUpWorths_5 : decode cX4_addUpWorths 5 = .ok (.lconst 0, 1) := by decide +kernel
theorem dX4_addUpWorths_6 : decode cX4_addUpWorths 6 = .ok (.lastore, 1) := by decide +kernel
theorem dX4_addUpWorths_7 : decode cX4_addUpWorths 7 = .ok (.iconst 0, 1) := by decide +kernel
theorem dX4_addUpWorths_8 : decode cX4_addUpWorths 8 = .ok (.istore_n 1, 1) := by decide +kernel
theorem dX4_addUpWorths_9 : decode cX4_addUpWorths 9 = .ok (.iload_n 1, 1) := by decide +kernel
theorem dX4_addUpWorths_10 : decode cX4_addUpWorths 10 = .ok (.aload_n 0, 1) := by decide +kernel
theorem dX4_addUpWorths_11 : decode cX4_addUpWorths 11 = .ok (.getfield 26, 3) := by decide +kernel
theorem dX4_addUpWorths_14 : decode cX4_addUpWorths 14 = .ok (.getfield 67, 3) := by decide +kernel
theorem dX4_addUpWorths_17 : decode cX4_addUpWorths 17 = .ok (.if_icmp .ge 55, 3) := by decide +kernel
theorem dX4_addUpWorths_20 : decode cX4_addUpWorths 20 = .ok (.aload_n 0, 1) := by decide +kernel
theorem dX4_addUpWorths_21 : decode cX4_addUpWorths 21 = .ok (.iload_n 1, 1) := by decide +kernel
theorem dX4_addUpWorths_22 : decode cX4_addUpWorths 22 = .ok (.invokevirtual 74, 3) := by decide +kernel
theorem dX4_addUpWorths_25 : decode cX4_addUpWorths 25 = .ok (.lstore_n 2, 1) := by decide +kernel
theorem dX4_addUpWorths_26 : decode cX4_addUpWorths 26 = .ok (.iconst 1, 1) := by decide +kernel
theorem dX4_addUpWorths_27 : decode cX4_addUpWorths 27 = .ok (.iload_n 1, 1) := by decide +kernel
theorem dX4_addUpWorths_28 : decode cX4_addUpWorths 28 = .ok (.ishl, 1) := by decide +kernel
theorem dX4_addUpWorths_29 : decode cX4_addUpWorths 29 = .ok (.istore 4, 2) := by decide +kernel
theorem dX4_addUpWorths_31 : decode cX4_addUpWorths 31 = .ok (.iconst 0, 1) := by decide +kernel
theorem dX4_addUpWorths_32 : decode cX4_addUpWorths 32 = .ok (.istore 5, 2) := by decide +kernel
theorem dX4_addUpWorths_34 : decode cX4_addUpWorths 34 = .ok (.iload 5, 2) := by decide +kernel
theorem dX4_addUpWorths_36 : decode cX4_addUpWorths 36 = .ok (.iload 4, 2) := by decide +kernel
theorem dX4_addUpWorths_38 : decode cX4_addUpWorths 38 = .ok (.if_icmp .ge 28, 3) := by decide +kernel
theorem dX4_addUpWorths_41 : decode cX4_addUpWorths 41 = .ok (.aload_n 0, 1) := by decide +kernel
theorem dX4_addUpWorths_42 : decode cX4_addUpWorths 42 = .ok (.getfield 15, 3) := by decide +kernel
theorem dX4_addUpWorths_45 : decode cX4_addUpWorths 45 = .ok (.iload 5, 2) := by decide +kernel
theorem dX4_addUpWorths_47 : decode cX4_addUpWorths 47 = .ok (.iload 4, 2) := by decide +kernel
theorem dX4_addUpWorths_49 : decode cX4_addUpWorths 49 = .ok (.ior, 1) := by decide +kernel
theorem dX4_addUpWorths_50 : decode cX4_addUpWorths 50 = .ok (.aload_n 0, 1) := by decide +kernel
theorem dX4_addUpWorths_51 : decode cX4_addUpWorths 51 = .ok (.getfield 15, 3) := by decide +kernel
theorem dX4_addUpWorths_54 : decode cX4_addUpWorths 54 = .ok (.iload 5, 2) := by decide +kernel
theorem dX4_addUpWorths_56 : decode cX4_addUpWorths 56 = .ok (.laload, 1) := by decide +kernel
theorem dX4_addUpWorths_57 : decode cX4_addUpWorths 57 = .ok (.lload_n 2, 1) := by decide +kernel
theorem dX4_addUpWorths_58 : decode cX4_addUpWorths 58 = .ok (.ladd, 1) := by decide +kernel
theorem dX4_addUpWorths_59 : decode cX4_addUpWorths 59 = .ok (.lastore, 1) := by decide +kernel
theorem dX4_addUpWorths_60 : decode cX4_addUpWorths 60 = .ok (.iinc 5 1, 3) := by decide +kernel
theorem dX4_addUpWorths_63 : decode cX4_addUpWorths 63 = .ok (.goto (-29), 3) := by decide +kernel
theorem dX4_addUpWorths_66 : decode cX4_addUpWorths 66 = .ok (.iinc 1 1, 3) := by decide +kernel
theorem dX4_addUpWorths_69 : decode cX4_addUpWorths 69 = .ok (.goto (-60), 3) := by decide +kernel
theorem dX4_addUpWorths_72 : decode cX4_addUpWorths 72 = .ok (.return_, 1) := by decide +kernel
theorem dX4_boundOfTop_0 : decode cX4_boundOfTop 0 = .ok (.aload_n 0, 1) := by decide +kernel
theorem dX4_boundOfTop_1 : decode cX4_boundOfTop 1 = .ok (.getfield 18, 3) := by decide +kernel
theorem dX4_boundOfTop_4 : decode cX4_boundOfTop 4 = .ok (.bipush (-4), 2) := by decide +kernel
theorem dX4_boundOfTop_6 : decode cX4_boundOfTop 6 = .ok (.if_icmp .ne 7, 3) := by decide +kernel
theorem dX4_boundOfTop_9 : decode cX4_boundOfTop 9 = .ok (.lconst 0, 1) := by decide +kernel
theorem dX4_boundOfTop_10 : decode cX4_boundOfTop 10 = .ok (.goto 13, 3) := by decide +kernel
theorem dX4_boundOfTop_13 : decode cX4_boundOfTop 13 = .ok (.aload_n 0, 1) := by decide +kernel
theorem dX4_boundOfTop_14 : decode cX4_boundOfTop 14 = .ok (.getfield 15, 3) := by decide +kernel
theorem dX4_boundOfTop_17 : decode cX4_boundOfTop 17 = .ok (.aload_n 0, 1) := by decide +kernel
theorem dX4_boundOfTop_18 : decode cX4_boundOfTop 18 = .ok (.getfield 18, 3) := by decide +kernel
theorem dX4_boundOfTop_21 : decode cX4_boundOfTop 21 = .ok (.laload, 1) := by decide +kernel
theorem dX4_boundOfTop_22 : decode cX4_boundOfTop 22 = .ok (.lneg, 1) := by decide +kernel
theorem dX4_boundOfTop_23 : decode cX4_boundOfTop 23 = .ok (.lstore_n 1, 1) := by decide +kernel
theorem dX4_boundOfTop_24 : decode cX4_boundOfTop 24 = .ok (.iconst 0, 1) := by decide +kernel
theorem dX4_boundOfTop_25 : decode cX4_boundOfTop 25 = .ok (.istore_n 3, 1) := by decide +kernel
theorem dX4_boundOfTop_26 : decode cX4_boundOfTop 26 = .ok (.iload_n 3, 1) := by decide +kernel
theorem dX4_boundOfTop_27 : decode cX4_boundOfTop 27 = .ok (.aload_n 0, 1) := by decide +kernel
theorem dX4_boundOfTop_28 : decode cX4_boundOfTop 28 = .ok (.getfield 26, 3) := by decide +kernel
theorem dX4_boundOfTop_31 : decode cX4_boundOfTop 31 = .ok (.getfield 57, 3) := by decide +kernel
theorem dX4_boundOfTop_34 : decode cX4_boundOfTop 34 = .ok (.if_icmp .ge 34, 3) := by decide +kernel
theorem dX4_boundOfTop_37 : decode cX4_boundOfTop 37 = .ok (.lload_n 1, 1) := by decide +kernel
theorem dX4_boundOfTop_38 : decode cX4_boundOfTop 38 = .ok (.aload_n 0, 1) := by decide +kernel
theorem dX4_boundOfTop_39 : decode cX4_boundOfTop 39 = .ok (.getfield 26, 3) := by decide +kernel
theorem dX4_boundOfTop_42 : decode cX4_boundOfTop 42 = .ok (.getfield 40, 3) := by decide +kernel
theorem dX4_boundOfTop_45 : decode cX4_boundOfTop 45 = .ok (.iload_n 3, 1) := by decide +kernel
theorem dX4_boundOfTop_46 : decode cX4_boundOfTop 46 = .ok (.iaload, 1) := by decide +kernel
theorem dX4_boundOfTop_47 : decode cX4_boundOfTop 47 = .ok (.ifCond .le 12, 3) := by decide +kernel
theorem dX4_boundOfTop_50 : decode cX4_boundOfTop 50 = .ok (.aload_n 0, 1) := by decide +kernel
theorem dX4_boundOfTop_51 : decode cX4_boundOfTop 51 = .ok (.getfield 9, 3) := by decide +kernel
theorem dX4_boundOfTop_54 : decode cX4_boundOfTop 54 = .ok (.iload_n 3, 1) := by decide +kernel
theorem dX4_boundOfTop_55 : decode cX4_boundOfTop 55 = .ok (.laload, 1) := by decide +kernel
theorem dX4_boundOfTop_56 : decode cX4_boundOfTop 56 = .ok (.goto 4, 3) := by decide +kernel
theorem dX4_boundOfTop_59 : decode cX4_boundOfTop 59 = .ok (.lconst 0, 1) := by decide +kernel
theorem dX4_boundOfTop_60 : decode cX4_boundOfTop 60 = .ok (.ladd, 1) := by decide +kernel
theorem dX4_boundOfTop_61 : decode cX4_boundOfTop 61 = .ok (.lstore_n 1, 1) := by decide +kernel
theorem dX4_boundOfTop_62 : decode cX4_boundOfTop 62 = .ok (.iinc 3 1, 3) := by decide +kernel
theorem dX4_boundOfTop_65 : decode cX4_boundOfTop 65 = .ok (.goto (-39), 3) := by decide +kernel
theorem dX4_boundOfTop_68 : decode cX4_boundOfTop 68 = .ok (.lload_n 1, 1) := by decide +kernel
theorem dX4_boundOfTop_69 : decode cX4_boundOfTop 69 = .ok (.lreturn, 1) := by decide +kernel
theorem dX4_climbFromTop_0 : decode cX4_climbFromTop 0 = .ok (.iconst 0, 1) := by decide +kernel
theorem dX4_climbFromTop_1 : decode cX4_climbFromTop 1 = .ok (.istore_n 3, 1) := by decide +kernel
theorem dX4_climbFromTop_2 : decode cX4_climbFromTop 2 = .ok (.aload_n 0, 1) := by decide +kernel
theorem dX4_climbFromTop_3 : decode cX4_climbFromTop 3 = .ok (.aload_n 0, 1) := by decide +kernel
theorem dX4_climbFromTop_4 : decode cX4_climbFromTop 4 = .ok (.invokevirtual 78, 3) := by decide +kernel
theorem dX4_climbFromTop_7 : decode cX4_climbFromTop 7 = .ok (.putfield 22, 3) := by decide +kernel
theorem dX4_climbFromTop_10 : decode cX4_climbFromTop 10 = .ok (.iconst 0, 1) := by decide +kernel
theorem dX4_climbFromTop_11 : decode cX4_climbFromTop 11 = .ok (.istore 4, 2) := by decide +kernel
theorem dX4_climbFromTop_13 : decode cX4_climbFromTop 13 = .ok (.iload 4, 2) := by decide +kernel
theorem dX4_climbFromTop_15 : decode cX4_climbFromTop 15 = .ok (.iload_n 1, 1) := by decide +kernel
theorem dX4_climbFromTop_16 : decode cX4_climbFromTop 16 = .ok (.if_icmp .ge 36, 3) := by decide +kernel
theorem dX4_climbFromTop_19 : decode cX4_climbFromTop 19 = .ok (.iload_n 3, 1) := by decide +kernel
theorem dX4_climbFromTop_20 : decode cX4_climbFromTop 20 = .ok (.aload_n 0, 1) := by decide +kernel
theorem dX4_climbFromTop_21 : decode cX4_climbFromTop 21 = .ok (.iload_n 2, 1) := by decide +kernel
theorem dX4_climbFromTop_22 : decode cX4_climbFromTop 22 = .ok (.invokevirtual 82, 3) := by decide +kernel
theorem dX4_climbFromTop_25 : decode cX4_climbFromTop 25 = .ok (.iadd, 1) := by decide +kernel
theorem dX4_climbFromTop_26 : decode cX4_climbFromTop 26 = .ok (.istore_n 3, 1) := by decide +kernel
theorem dX4_climbFromTop_27 : decode cX4_climbFromTop 27 = .ok (.aload_n 0, 1) := by decide +kernel
theorem dX4_climbFromTop_28 : decode cX4_climbFromTop 28 = .ok (.invokevirtual 85, 3) := by decide +kernel
theorem dX4_climbFromTop_31 : decode cX4_climbFromTop 31 = .ok (.aload_n 0, 1) := by decide +kernel
theorem dX4_climbFromTop_32 : decode cX4_climbFromTop 32 = .ok (.aload_n 0, 1) := by decide +kernel
theorem dX4_climbFromTop_33 : decode cX4_climbFromTop 33 = .ok (.getfield 22, 3) := by decide +kernel
theorem dX4_climbFromTop_36 : decode cX4_climbFromTop 36 = .ok (.aload_n 0, 1) := by decide +kernel
theorem dX4_climbFromTop_37 : decode cX4_climbFromTop 37 = .ok (.invokevirtual 78, 3) := by decide +kernel
theorem dX4_climbFromTop_40 : decode cX4_climbFromTop 40 = .ok (.invokestatic 47, 3) := by decide +kernel
theorem dX4_climbFromTop_43 : decode cX4_climbFromTop 43 = .ok (.putfield 22, 3) := by decide +kernel
theorem dX4_climbFromTop_46 : decode cX4_climbFromTop 46 = .ok (.iinc 4 1, 3) := by decide +kernel
theorem dX4_climbFromTop_49 : decode cX4_climbFromTop 49 = .ok (.goto (-36), 3) := by decide +kernel
theorem dX4_climbFromTop_52 : decode cX4_climbFromTop 52 = .ok (.iload_n 3, 1) := by decide +kernel
theorem dX4_climbFromTop_53 : decode cX4_climbFromTop 53 = .ok (.ireturn, 1) := by decide +kernel
theorem dX4_movePrices_0 : decode cX4_movePrices 0 = .ok (.iconst 0, 1) := by decide +kernel
theorem dX4_movePrices_1 : decode cX4_movePrices 1 = .ok (.istore_n 2, 1) := by decide +kernel
theorem dX4_movePrices_2 : decode cX4_movePrices 2 = .ok (.iconst 0, 1) := by decide +kernel
theorem dX4_movePrices_3 : decode cX4_movePrices 3 = .ok (.istore_n 3, 1) := by decide +kernel
theorem dX4_movePrices_4 : decode cX4_movePrices 4 = .ok (.iload_n 3, 1) := by decide +kernel
theorem dX4_movePrices_5 : decode cX4_movePrices 5 = .ok (.aload_n 0, 1) := by decide +kernel
theorem dX4_movePrices_6 : decode cX4_movePrices 6 = .ok (.getfield 26, 3) := by decide +kernel
theorem dX4_movePrices_9 : decode cX4_movePrices 9 = .ok (.getfield 57, 3) := by decide +kernel
theorem dX4_movePrices_12 : decode cX4_movePrices 12 = .ok (.if_icmp .ge 66, 3) := by decide +kernel
theorem dX4_movePrices_15 : decode cX4_movePrices 15 = .ok (.aload_n 0, 1) := by decide +kernel
theorem dX4_movePrices_16 : decode cX4_movePrices 16 = .ok (.getfield 26, 3) := by decide +kernel
theorem dX4_movePrices_19 : decode cX4_movePrices 19 = .ok (.getfield 40, 3) := by decide +kernel
theorem dX4_movePrices_22 : decode cX4_movePrices 22 = .ok (.iload_n 3, 1) := by decide +kernel
theorem dX4_movePrices_23 : decode cX4_movePrices 23 = .ok (.iaload, 1) := by decide +kernel
theorem dX4_movePrices_24 : decode cX4_movePrices 24 = .ok (.ifCond .le 48, 3) := by decide +kernel
theorem dX4_movePrices_27 : decode cX4_movePrices 27 = .ok (.aload_n 0, 1) := by decide +kernel
theorem dX4_movePrices_28 : decode cX4_movePrices 28 = .ok (.getfield 9, 3) := by decide +kernel
theorem dX4_movePrices_31 : decode cX4_movePrices 31 = .ok (.iload_n 3, 1) := by decide +kernel
theorem dX4_movePrices_32 : decode cX4_movePrices 32 = .ok (.laload, 1) := by decide +kernel
theorem dX4_movePrices_33 : decode cX4_movePrices 33 = .ok (.lstore 4, 2) := by decide +kernel
theorem dX4_movePrices_35 : decode cX4_movePrices 35 = .ok (.aload_n 0, 1) := by decide +kernel
theorem dX4_movePrices_36 : decode cX4_movePrices 36 = .ok (.getfield 9, 3) := by decide +kernel
theorem dX4_movePrices_39 : decode cX4_movePrices 39 = .ok (.iload_n 3, 1) := by decide +kernel
theorem dX4_movePrices_40 : decode cX4_movePrices 40 = .ok (.lload 4, 2) := by decide +kernel
theorem dX4_movePrices_42 : decode cX4_movePrices 42 = .ok (.aload_n 0, 1) := by decide +kernel
theorem dX4_movePrices_43 : decode cX4_movePrices 43 = .ok (.iload_n 3, 1) := by decide +kernel
theorem dX4_movePrices_44 : decode cX4_movePrices 44 = .ok (.invokevirtual 88, 3) := by decide +kernel
theorem dX4_movePrices_47 : decode cX4_movePrices 47 = .ok (.iload_n 1, 1) := by decide +kernel
theorem dX4_movePrices_48 : decode cX4_movePrices 48 = .ok (.invokestatic 91, 3) := by decide +kernel
theorem dX4_movePrices_51 : decode cX4_movePrices 51 = .ok (.lastore, 1) := by decide +kernel
theorem dX4_movePrices_52 : decode cX4_movePrices 52 = .ok (.iload_n 2, 1) := by decide +kernel
theorem dX4_movePrices_53 : decode cX4_movePrices 53 = .ok (.aload_n 0, 1) := by decide +kernel
theorem dX4_movePrices_54 : decode cX4_movePrices 54 = .ok (.getfield 9, 3) := by decide +kernel
theorem dX4_movePrices_57 : decode cX4_movePrices 57 = .ok (.iload_n 3, 1) := by decide +kernel
theorem dX4_movePrices_58 : decode cX4_movePrices 58 = .ok (.laload, 1) := by decide +kernel
theorem dX4_movePrices_59 : decode cX4_movePrices 59 = .ok (.lload 4, 2) := by decide +kernel
theorem dX4_movePrices_61 : decode cX4_movePrices 61 = .ok (.lcmp, 1) := by decide +kernel
theorem dX4_movePrices_62 : decode cX4_movePrices 62 = .ok (.ifCond .eq 7, 3) := by decide +kernel
theorem dX4_movePrices_65 : decode cX4_movePrices 65 = .ok (.iconst 1, 1) := by decide +kernel
theorem dX4_movePrices_66 : decode cX4_movePrices 66 = .ok (.goto 4, 3) := by decide +kernel
theorem dX4_movePrices_69 : decode cX4_movePrices 69 = .ok (.iconst 0, 1) := by decide +kernel
theorem dX4_movePrices_70 : decode cX4_movePrices 70 = .ok (.iadd, 1) := by decide +kernel
theorem dX4_movePrices_71 : decode cX4_movePrices 71 = .ok (.istore_n 2, 1) := by decide +kernel
theorem dX4_movePrices_72 : decode cX4_movePrices 72 = .ok (.iinc 3 1, 3) := by decide +kernel
theorem dX4_movePrices_75 : decode cX4_movePrices 75 = .ok (.goto (-71), 3) := by decide +kernel
theorem dX4_movePrices_78 : decode cX4_movePrices 78 = .ok (.iload_n 2, 1) := by decide +kernel
theorem dX4_movePrices_79 : decode cX4_movePrices 79 = .ok (.ireturn, 1) := by decide +kernel
theorem dX4_movedPrice_0 : decode cX4_movedPrice 0 = .ok (.iload_n 2, 1) := by decide +kernel
theorem dX4_movedPrice_1 : decode cX4_movedPrice 1 = .ok (.ifCond .ne 14, 3) := by decide +kernel
theorem dX4_movedPrice_4 : decode cX4_movedPrice 4 = .ok (.lload_n 0, 1) := by decide +kernel
theorem dX4_movedPrice_5 : decode cX4_movedPrice 5 = .ok (.iload_n 3, 1) := by decide +kernel
theorem dX4_movedPrice_6 : decode cX4_movedPrice 6 = .ok (.i2l, 1) := by decide +kernel
theorem dX4_movedPrice_7 : decode cX4_movedPrice 7 = .ok (.ladd, 1) := by decide +kernel
theorem dX4_movedPrice_8 : decode cX4_movedPrice 8 = .ok (.ldc2_w 95, 3) := by decide +kernel
theorem dX4_movedPrice_11 : decode cX4_movedPrice 11 = .ok (.invokestatic 97, 3) := by decide +kernel
theorem dX4_movedPrice_14 : decode cX4_movedPrice 14 = .ok (.lreturn, 1) := by decide +kernel
theorem dX4_movedPrice_15 : decode cX4_movedPrice 15 = .ok (.iload_n 2, 1) := by decide +kernel
theorem dX4_movedPrice_16 : decode cX4_movedPrice 16 = .ok (.iconst 1, 1) := by decide +kernel
theorem dX4_movedPrice_17 : decode cX4_movedPrice 17 = .ok (.if_icmp .ne 7, 3) := by decide +kernel
theorem dX4_movedPrice_20 : decode cX4_movedPrice 20 = .ok (.lload_n 0, 1) := by decide +kernel
theorem dX4_movedPrice_21 : decode cX4_movedPrice 21 = .ok (.goto 11, 3) := by decide +kernel
theorem dX4_movedPrice_24 : decode cX4_movedPrice 24 = .ok (.lload_n 0, 1) := by decide +kernel
theorem dX4_movedPrice_25 : decode cX4_movedPrice 25 = .ok (.iload_n 3, 1) := by decide +kernel
theorem dX4_movedPrice_26 : decode cX4_movedPrice 26 = .ok (.i2l, 1) := by decide +kernel
theorem dX4_movedPrice_27 : decode cX4_movedPrice 27 = .ok (.lsub, 1) := by decide +kernel
theorem dX4_movedPrice_28 : decode cX4_movedPrice 28 = .ok (.lconst 0, 1) := by decide +kernel
theorem dX4_movedPrice_29 : decode cX4_movedPrice 29 = .ok (.invokestatic 47, 3) := by decide +kernel
theorem dX4_movedPrice_32 : decode cX4_movedPrice 32 = .ok (.lreturn, 1) := by decide +kernel
theorem dX4_giversOfTop_0 : decode cX4_giversOfTop 0 = .ok (.iconst 0, 1) := by decide +kernel
theorem dX4_giversOfTop_1 : decode cX4_giversOfTop 1 = .ok (.istore_n 2, 1) := by decide +kernel
theorem dX4_giversOfTop_2 : decode cX4_giversOfTop 2 = .ok (.iconst 0, 1) := by decide +kernel
theorem dX4_giversOfTop_3 : decode cX4_giversOfTop 3 = .ok (.istore_n 3, 1) := by decide +kernel
theorem dX4_giversOfTop_4 : decode cX4_giversOfTop 4 = .ok (.iload_n 3, 1) := by decide +kernel
theorem dX4_giversOfTop_5 : decode cX4_giversOfTop 5 = .ok (.aload_n 0, 1) := by decide +kernel
theorem dX4_giversOfTop_6 : decode cX4_giversOfTop 6 = .ok (.getfield 26, 3) := by decide +kernel
theorem dX4_giversOfTop_9 : decode cX4_giversOfTop 9 = .ok (.getfield 67, 3) := by decide +kernel
theorem dX4_giversOfTop_12 : decode cX4_giversOfTop 12 = .ok (.if_icmp .ge 39, 3) := by decide +kernel
theorem dX4_giversOfTop_15 : decode cX4_giversOfTop 15 = .ok (.iload_n 2, 1) := by decide +kernel
theorem dX4_giversOfTop_16 : decode cX4_giversOfTop 16 = .ok (.aload_n 0, 1) := by decide +kernel
theorem dX4_giversOfTop_17 : decode cX4_giversOfTop 17 = .ok (.getfield 18, 3) := by decide +kernel
theorem dX4_giversOfTop_20 : decode cX4_giversOfTop 20 = .ok (.iload_n 3, 1) := by decide +kernel
theorem dX4_giversOfTop_21 : decode cX4_giversOfTop 21 = .ok (.invokestatic 100, 3) := by decide +kernel
theorem dX4_giversOfTop_24 : decode cX4_giversOfTop 24 = .ok (.ifCond .eq 18, 3) := by decide +kernel
theorem dX4_giversOfTop_27 : decode cX4_giversOfTop 27 = .ok (.aload_n 0, 1) := by decide +kernel
theorem dX4_giversOfTop_28 : decode cX4_giversOfTop 28 = .ok (.iload_n 3, 1) := by decide +kernel
theorem dX4_giversOfTop_29 : decode cX4_giversOfTop 29 = .ok (.iload_n 1, 1) := by decide +kernel
theorem dX4_giversOfTop_30 : decode cX4_giversOfTop 30 = .ok (.invokevirtual 60, 3) := by decide +kernel
theorem dX4_giversOfTop_33 : decode cX4_giversOfTop 33 = .ok (.lconst 0, 1) := by decide +kernel
theorem dX4_giversOfTop_34 : decode cX4_giversOfTop 34 = .ok (.lcmp, 1) := by decide +kernel
theorem dX4_giversOfTop_35 : decode cX4_giversOfTop 35 = .ok (.ifCond .le 7, 3) := by decide +kernel
theorem dX4_giversOfTop_38 : decode cX4_giversOfTop 38 = .ok (.iconst 1, 1) := by decide +kernel
theorem dX4_giversOfTop_39 : decode cX4_giversOfTop 39 = .ok (.goto 4, 3) := by decide +kernel
theorem dX4_giversOfTop_42 : decode cX4_giversOfTop 42 = .ok (.iconst 0, 1) := by decide +kernel
theorem dX4_giversOfTop_43 : decode cX4_giversOfTop 43 = .ok (.iadd, 1) := by decide +kernel
theorem dX4_giversOfTop_44 : decode cX4_giversOfTop 44 = .ok (.istore_n 2, 1) := by decide +kernel
theorem dX4_giversOfTop_45 : decode cX4_giversOfTop 45 = .ok (.iinc 3 1, 3) := by decide +kernel
theorem dX4_giversOfTop_48 : decode cX4_giversOfTop 48 = .ok (.goto (-44), 3) := by decide +kernel
theorem dX4_giversOfTop_51 : decode cX4_giversOfTop 51 = .ok (.iload_n 2, 1) := by decide +kernel
theorem dX4_giversOfTop_52 : decode cX4_giversOfTop 52 = .ok (.ireturn, 1) := by decide +kernel
theorem dX5_init_0 : decode cX5_init 0 = .ok (.aload_n 0, 1) := by decide +kernel
theorem dX5_init_1 : decode cX5_init 1 = .ok (.invokespecial 3, 3) := by decide +kernel
theorem dX5_init_4 : decode cX5_init 4 = .ok (.aload_n 0, 1) := by decide +kernel
theorem dX5_init_5 : decode cX5_init 5 = .ok (.bipush 10, 2) := by decide +kernel
theorem dX5_init_7 : decode cX5_init 7 = .ok (.newarray .long, 2) := by decide +kernel
theorem dX5_init_9 : decode cX5_init 9 = .ok (.putfield 9, 3) := by decide +kernel
theorem dX5_init_12 : decode cX5_init 12 = .ok (.return_, 1) := by decide +kernel
theorem dX5_take_0 : decode cX5_take 0 = .ok (.aload_n 0, 1) := by decide +kernel
theorem dX5_take_1 : decode cX5_take 1 = .ok (.invokevirtual 15, 3) := by decide +kernel
theorem dX5_take_4 : decode cX5_take 4 = .ok (.iconst 1, 1) := by decide +kernel
theorem dX5_take_5 : decode cX5_take 5 = .ok (.aload_n 1, 1) := by decide +kernel
theorem dX5_take_6 : decode cX5_take 6 = .ok (.getfield 18, 3) := by decide +kernel
theorem dX5_take_9 : decode cX5_take 9 = .ok (.getfield 24, 3) := by decide +kernel
theorem dX5_take_12 : decode cX5_take 12 = .ok (.ishl, 1) := by decide +kernel
theorem dX5_take_13 : decode cX5_take 13 = .ok (.istore_n 2, 1) := by decide +kernel
theorem dX5_take_14 : decode cX5_take 14 = .ok (.iconst 0, 1) := by decide +kernel
theorem dX5_take_15 : decode cX5_take 15 = .ok (.istore_n 3, 1) := by decide +kernel
theorem dX5_take_16 : decode cX5_take 16 = .ok (.iload_n 3, 1) := by decide +kernel
theorem dX5_take_17 : decode cX5_take 17 = .ok (.iload_n 2, 1) := by decide +kernel
theorem dX5_take_18 : decode cX5_take 18 = .ok (.if_icmp .ge 63, 3) := by decide +kernel
theorem dX5_take_21 : decode cX5_take 21 = .ok (.aload_n 1, 1) := by decide +kernel
theorem dX5_take_22 : decode cX5_take 22 = .ok (.iload_n 3, 1) := by decide +kernel
theorem dX5_take_23 : decode cX5_take 23 = .ok (.invokevirtual 30, 3) := by decide +kernel
theorem dX5_take_26 : decode cX5_take 26 = .ok (.ifCond .eq 11, 3) := by decide +kernel
theorem dX5_take_29 : decode cX5_take 29 = .ok (.aload_n 1, 1) := by decide +kernel
theorem dX5_take_30 : decode cX5_take 30 = .ok (.iload_n 3, 1) := by decide +kernel
theorem dX5_take_31 : decode cX5_take 31 = .ok (.invokevirtual 34, 3) := by decide +kernel
theorem dX5_take_34 : decode cX5_take 34 = .ok (.goto 6, 3) := by decide +kernel
theorem dX5_take_37 : decode cX5_take 37 = .ok (.ldc2_w 38, 3) := by decide +kernel
theorem dX5_take_40 : decode cX5_take 40 = .ok (.lstore 4, 2) := by decide +kernel
theorem dX5_take_42 : decode cX5_take 42 = .ok (.lload 4, 2) := by decide +kernel
theorem dX5_take_44 : decode cX5_take 44 = .ok (.ldc2_w 38, 3) := by decide +kernel
theorem dX5_take_47 : decode cX5_take 47 = .ok (.lcmp, 1) := by decide +kernel
theorem dX5_take_48 : decode cX5_take 48 = .ok (.ifCond .ge 27, 3) := by decide +kernel
theorem dX5_take_51 : decode cX5_take 51 = .ok (.aload_n 0, 1) := by decide +kernel
theorem dX5_take_52 : decode cX5_take 52 = .ok (.iload_n 3, 1) := by decide +kernel
theorem dX5_take_53 : decode cX5_take 53 = .ok (.lload 4, 2) := by decide +kernel
theorem dX5_take_55 : decode cX5_take 55 = .ok (.invokevirtual 40, 3) := by decide +kernel
theorem dX5_take_58 : decode cX5_take 58 = .ok (.aload_n 0, 1) := by decide +kernel
theorem dX5_take_59 : decode cX5_take 59 = .ok (.iload_n 3, 1) := by decide +kernel
theorem dX5_take_60 : decode cX5_take 60 = .ok (.lload 4, 2) := by decide +kernel
theorem dX5_take_62 : decode cX5_take 62 = .ok (.invokevirtual 44, 3) := by decide +kernel
theorem dX5_take_65 : decode cX5_take 65 = .ok (.aload_n 0, 1) := by decide +kernel
theorem dX5_take_66 : decode cX5_take 66 = .ok (.iload_n 3, 1) := by decide +kernel
theorem dX5_take_67 : decode cX5_take 67 = .ok (.aload_n 1, 1) := by decide +kernel
theorem dX5_take_68 : decode cX5_take 68 = .ok (.iload_n 3, 1) := by decide +kernel
theorem dX5_take_69 : decode cX5_take 69 = .ok (.invokevirtual 47, 3) := by decide +kernel
theorem dX5_take_72 : decode cX5_take 72 = .ok (.invokevirtual 51, 3) := by decide +kernel
theorem dX5_take_75 : decode cX5_take 75 = .ok (.iinc 3 1, 3) := by decide +kernel
theorem dX5_take_78 : decode cX5_take 78 = .ok (.goto (-62), 3) := by decide +kernel
theorem dX5_take_81 : decode cX5_take 81 = .ok (.return_, 1) := by decide +kernel
theorem dX5_forget_0 : decode cX5_forget 0 = .ok (.aload_n 0, 1) := by decide +kernel
theorem dX5_forget_1 : decode cX5_forget 1 = .ok (.ldc2_w 55, 3) := by decide +kernel
theorem dX5_forget_4 : decode cX5_forget 4 = .ok (.putfield 57, 3) := by decide +kernel
theorem dX5_forget_7 : decode cX5_forget 7 = .ok (.aload_n 0, 1) := by decide +kernel
theorem dX5_forget_8 : decode cX5_forget 8 = .ok (.bipush (-4), 2) := by decide +kernel
theorem dX5_forget_10 : decode cX5_forget 10 = .ok (.putfield 61, 3) := by decide +kernel
theorem dX5_forget_13 : decode cX5_forget 13 = .ok (.aload_n 0, 1) := by decide +kernel
theorem dX5_forget_14 : decode cX5_forget 14 = .ok (.iconst 0, 1) := by decide +kernel
theorem dX5_forget_15 : decode cX5_forget 15 = .ok (.putfield 64, 3) := by decide +kernel
theorem dX5_forget_18 : decode cX5_forget 18 = .ok (.aload_n 0, 1) := by decide +kernel
theorem dX5_forget_19 : decode cX5_forget 19 = .ok (.iconst 0, 1) := by decide +kernel
theorem dX5_forget_20 : decode cX5_forget 20 = .ok (.putfield 67, 3) := by decide +kernel
theorem dX5_forget_23 : decode cX5_forget 23 = .ok (.aload_n 0, 1) := by decide +kernel
theorem dX5_forget_24 : decode cX5_forget 24 = .ok (.iconst 0, 1) := by decide +kernel
theorem dX5_forget_25 : decode cX5_forget 25 = .ok (.putfield 70, 3) := by decide +kernel
theorem dX5_forget_28 : decode cX5_forget 28 = .ok (.aload_n 0, 1) := by decide +kernel
theorem dX5_forget_29 : decode cX5_forget 29 = .ok (.ldc2_w 55, 3) := by decide +kernel
theorem dX5_forget_32 : decode cX5_forget 32 = .ok (.putfield 73, 3) := by decide +kernel
theorem dX5_forget_35 : decode cX5_forget 35 = .ok (.aload_n 0, 1) := by decide +kernel
theorem dX5_forget_36 : decode cX5_forget 36 = .ok (.bipush (-4), 2) := by decide +kernel
theorem dX5_forget_38 : decode cX5_forget 38 = .ok (.putfield 76, 3) := by decide +kernel
theorem dX5_forget_41 : decode cX5_forget 41 = .ok (.aload_n 0, 1) := by decide +kernel
theorem dX5_forget_42 : decode cX5_forget 42 = .ok (.ldc 79, 2) := by decide +kernel
theorem dX5_forget_44 : decode cX5_forget 44 = .ok (.putfield 80, 3) := by decide +kernel
theorem dX5_forget_47 : decode cX5_forget 47 = .ok (.aload_n 0, 1) := by decide +kernel
theorem dX5_forget_48 : decode cX5_forget 48 = .ok (.bipush (-4), 2) := by decide +kernel
theorem dX5_forget_50 : decode cX5_forget 50 = .ok (.putfield 83, 3) := by decide +kernel
theorem dX5_forget_53 : decode cX5_forget 53 = .ok (.iconst 0, 1) := by decide +kernel
theorem dX5_forget_54 : decode cX5_forget 54 = .ok (.istore_n 1, 1) := by decide +kernel
theorem dX5_forget_55 : decode cX5_forget 55 = .ok (.iload_n 1, 1) := by decide +kernel
theorem dX5_forget_56 : decode cX5_forget 56 = .ok (.bipush 10, 2) := by decide +kernel
theorem dX5_forget_58 : decode cX5_forget 58 = .ok (.if_icmp .ge 18, 3) := by decide +kernel
theorem dX5_forget_61 : decode cX5_forget 61 = .ok (.aload_n 0, 1) := by decide +kernel
theorem dX5_forget_62 : decode cX5_forget 62 = .ok (.getfield 9, 3) := by decide +kernel
theorem dX5_forget_65 : decode cX5_forget 65 = .ok (.iload_n 1, 1) := by decide +kernel
theorem dX5_forget_66 : decode cX5_forget 66 = .ok (.ldc2_w 55, 3) := by decide +kernel
theorem dX5_forget_69 : decode cX5_forget 69 = .ok (.lastore, 1) := by decide +kernel
theorem dX5_forget_70 : decode cX5_forget 70 = .ok (.iinc 1 1, 3) := by decide +kernel
theorem dX5_forget_73 : decode cX5_forget 73 = .ok (.goto (-18), 3) := by decide +kernel
theorem dX5_forget_76 : decode cX5_forget 76 = .ok (.return_, 1) := by decide +kernel
theorem dX5_noteCost_0 : decode cX5_noteCost 0 = .ok (.lload_n 2, 1) := by decide +kernel
theorem dX5_noteCost_1 : decode cX5_noteCost 1 = .ok (.aload_n 0, 1) := by decide +kernel
theorem dX5_noteCost_2 : decode cX5_noteCost 2 = .ok (.getfield 57, 3) := by decide +kernel
theorem dX5_noteCost_5 : decode cX5_noteCost 5 = .ok (.lcmp, 1) := by decide +kernel
theorem dX5_noteCost_6 : decode cX5_noteCost 6 = .ok (.ifCond .ge 45, 3) := by decide +kernel
theorem dX5_noteCost_9 : decode cX5_noteCost 9 = .ok (.aload_n 0, 1) := by decide +kernel
theorem dX5_noteCost_10 : decode cX5_noteCost 10 = .ok (.aload_n 0, 1) := by decide +kernel
theorem dX5_noteCost_11 : decode cX5_noteCost 11 = .ok (.getfield 57, 3) := by decide +kernel
theorem dX5_noteCost_14 : decode cX5_noteCost 14 = .ok (.putfield 73, 3) := by decide +kernel
theorem dX5_noteCost_17 : decode cX5_noteCost 17 = .ok (.aload_n 0, 1) := by decide +kernel
theorem dX5_noteCost_18 : decode cX5_noteCost 18 = .ok (.aload_n 0, 1) := by decide +kernel
theorem dX5_noteCost_19 : decode cX5_noteCost 19 = .ok (.getfield 61, 3) := by decide +kernel
theorem dX5_noteCost_22 : decode cX5_noteCost 22 = .ok (.putfield 76, 3) := by decide +kernel
theorem dX5_noteCost_25 : decode cX5_noteCost 25 = .ok (.aload_n 0, 1) := by decide +kernel
theorem dX5_noteCost_26 : decode cX5_noteCost 26 = .ok (.lload_n 2, 1) := by decide +kernel
theorem dX5_noteCost_27 : decode cX5_noteCost 27 = .ok (.putfield 57, 3) := by decide +kernel
theorem dX5_noteCost_30 : decode cX5_noteCost 30 = .ok (.aload_n 0, 1) := by decide +kernel
theorem dX5_noteCost_31 : decode cX5_noteCost 31 = .ok (.iload_n 1, 1) := by decide +kernel
theorem dX5_noteCost_32 : decode cX5_noteCost 32 = .ok (.putfield 61, 3) := by decide +kernel
theorem dX5_noteCost_35 : decode cX5_noteCost 35 = .ok (.aload_n 0, 1) := by decide +kernel
theorem dX5_noteCost_36 : decode cX5_noteCost 36 = .ok (.iconst 1, 1) := by decide +kernel
theorem dX5_noteCost_37 : decode cX5_noteCost 37 = .ok (.putfield 64, 3) := by decide +kernel
theorem dX5_noteCost_40 : decode cX5_noteCost 40 = .ok (.aload_n 0, 1) := by decide +kernel
theorem dX5_noteCost_41 : decode cX5_noteCost 41 = .ok (.iload_n 1, 1) := by decide +kernel
theorem dX5_noteCost_42 : decode cX5_noteCost 42 = .ok (.putfield 67, 3) := by decide +kernel
theorem dX5_noteCost_45 : decode cX5_noteCost 45 = .ok (.aload_n 0, 1) := by decide +kernel
theorem dX5_noteCost_46 : decode cX5_noteCost 46 = .ok (.iload_n 1, 1) := by decide +kernel
theorem dX5_noteCost_47 : decode cX5_noteCost 47 = .ok (.putfield 70, 3) := by decide +kernel
theorem dX5_noteCost_50 : decode cX5_noteCost 50 = .ok (.return_, 1) := by decide +kernel
theorem dX5_noteCost_51 : decode cX5_noteCost 51 = .ok (.lload_n 2, 1) := by decide +kernel
theorem dX5_noteCost_52 : decode cX5_noteCost 52 = .ok (.aload_n 0, 1) := by decide +kernel
theorem dX5_noteCost_53 : decode cX5_noteCost 53 = .ok (.getfield 57, 3) := by decide +kernel
theorem dX5_noteCost_56 : decode cX5_noteCost 56 = .ok (.lcmp, 1) := by decide +kernel
theorem dX5_noteCost_57 : decode cX5_noteCost 57 = .ok (.ifCond .ne 33, 3) := by decide +kernel
theorem dX5_noteCost_60 : decode cX5_noteCost 60 = .ok (.aload_n 0, 1) := by decide +kernel
theorem dX5_noteCost_61 : decode cX5_noteCost 61 = .ok (.dup, 1) := by decide +kernel
theorem dX5_noteCost_62 : decode cX5_noteCost 62 = .ok (.getfield 64, 3) := by decide +kernel
theorem dX5_noteCost_65 : decode cX5_noteCost 65 = .ok (.iconst 1, 1) := by decide +kernel
theorem dX5_noteCost_66 : decode cX5_noteCost 66 = .ok (.iadd, 1) := by decide +kernel
theorem dX5_noteCost_67 : decode cX5_noteCost 67 = .ok (.putfield 64, 3) := by decide +kernel
theorem dX5_noteCost_70 : decode cX5_noteCost 70 = .ok (.aload_n 0, 1) := by decide +kernel
theorem dX5_noteCost_71 : decode cX5_noteCost 71 = .ok (.dup, 1) := by decide +kernel
theorem dX5_noteCost_72 : decode cX5_noteCost 72 = .ok (.getfield 67, 3) := by decide +kernel
theorem dX5_noteCost_75 : decode cX5_noteCost 75 = .ok (.iload_n 1, 1) := by decide +kernel
theorem dX5_noteCost_76 : decode cX5_noteCost 76 = .ok (.iand, 1) := by decide +kernel
theorem dX5_noteCost_77 : decode cX5_noteCost 77 = .ok (.putfield 67, 3) := by decide +kernel
theorem dX5_noteCost_80 : decode cX5_noteCost 80 = .ok (.aload_n 0, 1) := by decide +kernel
theorem dX5_noteCost_81 : decode cX5_noteCost 81 = .ok (.dup, 1) := by decide +kernel
theorem dX5_noteCost_82 : decode cX5_noteCost 82 = .ok (.getfield 70, 3) := by decide +kernel
theorem dX5_noteCost_85 : decode cX5_noteCost 85 = .ok (.iload_n 1, 1) := by decide +kernel
theorem dX5_noteCost_86 : decode cX5_noteCost 86 = .ok (.ior, 1) := by decide +kernel
theorem dX5_noteCost_87 : decode cX5_noteCost 87 = .ok (.putfield 70, 3) := by decide +kernel
theorem dX5_noteCost_90 : decode cX5_noteCost 90 = .ok (.lload_n 2, 1) := by decide +kernel
theorem dX5_noteCost_91 : decode cX5_noteCost 91 = .ok (.aload_n 0, 1) := by decide +kernel
theorem dX5_noteCost_92 : decode cX5_noteCost 92 = .ok (.getfield 73, 3) := by decide +kernel
theorem dX5_noteCost_95 : decode cX5_noteCost 95 = .ok (.lcmp, 1) := by decide +kernel
theorem dX5_noteCost_96 : decode cX5_noteCost 96 = .ok (.ifCond .ge 13, 3) := by decide +kernel
theorem dX5_noteCost_99 : decode cX5_noteCost 99 = .ok (.aload_n 0, 1) := by decide +kernel
theorem dX5_noteCost_100 : decode cX5_noteCost 100 = .ok (.lload_n 2, 1) := by decide +kernel
theorem dX5_noteCost_101 : decode cX5_noteCost 101 = .ok (.putfield 73, 3) := by decide +kernel
theorem dX5_noteCost_104 : decode cX5_noteCost 104 = .ok (.aload_n 0, 1) := by decide +kernel
theorem dX5_noteCost_105 : decode cX5_noteCost 105 = .ok (.iload_n 1, 1) := by decide +kernel
theorem dX5_noteCost_106 : decode cX5_noteCost 106 = .ok (.putfield 76, 3) := by decide +kernel
theorem dX5_noteCost_109 : decode cX5_noteCost 109 = .ok (.return_, 1) := by decide +kernel
theorem dX5_noteLosses_0 : decode cX5_noteLosses 0 = .ok (.iconst 0, 1) := by decide +kernel
theorem dX5_noteLosses_1 : decode cX5_noteLosses 1 = .ok (.istore 4, 2) := by decide +kernel
theorem dX5_noteLosses_3 : decode cX5_noteLosses 3 = .ok (.iload 4, 2) := by decide +kernel
theorem dX5_noteLosses_5 : decode cX5_noteLosses 5 = .ok (.bipush 10, 2) := by decide +kernel
theorem dX5_noteLosses_7 : decode cX5_noteLosses 7 = .ok (.if_icmp .ge 36, 3) := by decide +kernel
theorem dX5_noteLosses_10 : decode cX5_noteLosses 10 = .ok (.iload_n 1, 1) := by decide +kernel
theorem dX5_noteLosses_11 : decode cX5_noteLosses 11 = .ok (.iload 4, 2) := by decide +kernel
theorem dX5_noteLosses_13 : decode cX5_noteLosses 13 = .ok (.invokestatic 86, 3) := by decide +kernel
theorem dX5_noteLosses_16 : decode cX5_noteLosses 16 = .ok (.ifCond .ne 21, 3) := by decide +kernel
theorem dX5_noteLosses_19 : decode cX5_noteLosses 19 = .ok (.aload_n 0, 1) := by decide +kernel
theorem dX5_noteLosses_20 : decode cX5_noteLosses 20 = .ok (.getfield 9, 3) := by decide +kernel
theorem dX5_noteLosses_23 : decode cX5_noteLosses 23 = .ok (.iload 4, 2) := by decide +kernel
theorem dX5_noteLosses_25 : decode cX5_noteLosses 25 = .ok (.aload_n 0, 1) := by decide +kernel
theorem dX5_noteLosses_26 : decode cX5_noteLosses 26 = .ok (.getfield 9, 3) := by decide +kernel
theorem dX5_noteLosses_29 : decode cX5_noteLosses 29 = .ok (.iload 4, 2) := by decide +kernel
theorem dX5_noteLosses_31 : decode cX5_noteLosses 31 = .ok (.laload, 1) := by decide +kernel
theorem dX5_noteLosses_32 : decode cX5_noteLosses 32 = .ok (.lload_n 2, 1) := by decide +kernel
theorem dX5_noteLosses_33 : decode cX5_noteLosses 33 = .ok (.invokestatic 90, 3) := by decide +kernel
theorem dX5_noteLosses_36 : decode cX5_noteLosses 36 = .ok (.lastore, 1) := by decide +kernel
theorem dX5_noteLosses_37 : decode cX5_noteLosses 37 = .ok (.iinc 4 1, 3) := by decide +kernel
theorem dX5_noteLosses_40 : decode cX5_noteLosses 40 = .ok (.goto (-37), 3) := by decide +kernel
theorem dX5_noteLosses_43 : decode cX5_noteLosses 43 = .ok (.return_, 1) := by decide +kernel
theorem dX5_noteFar_0 : decode cX5_noteFar 0 = .ok (.iload_n 2, 1) := by decide +kernel
theorem dX5_noteFar_1 : decode cX5_noteFar 1 = .ok (.aload_n 0, 1) := by decide +kernel
theorem dX5_noteFar_2 : decode cX5_noteFar 2 = .ok (.getfield 80, 3) := by decide +kernel
theorem dX5_noteFar_5 : decode cX5_noteFar 5 = .ok (.if_icmp .ge 13, 3) := by decide +kernel
theorem dX5_noteFar_8 : decode cX5_noteFar 8 = .ok (.aload_n 0, 1) := by decide +kernel
theorem dX5_noteFar_9 : decode cX5_noteFar 9 = .ok (.iload_n 2, 1) := by decide +kernel
theorem dX5_noteFar_10 : decode cX5_noteFar 10 = .ok (.putfield 80, 3) := by decide +kernel
theorem dX5_noteFar_13 : decode cX5_noteFar 13 = .ok (.aload_n 0, 1) := by decide +kernel
theorem dX5_noteFar_14 : decode cX5_noteFar 14 = .ok (.iload_n 1, 1) := by decide +kernel
theorem dX5_noteFar_15 : decode cX5_noteFar 15 = .ok (.putfield 83, 3) := by decide +kernel
theorem dX5_noteFar_18 : decode cX5_noteFar 18 = .ok (.return_, 1) := by decide +kernel
theorem dX5_dearestLoss_0 : decode cX5_dearestLoss 0 = .ok (.bipush (-4), 2) := by decide +kernel
theorem dX5_dearestLoss_2 : decode cX5_dearestLoss 2 = .ok (.istore_n 2, 1) := by decide +kernel
theorem dX5_dearestLoss_3 : decode cX5_dearestLoss 3 = .ok (.ldc2_w 96, 3) := by decide +kernel
theorem dX5_dearestLoss_6 : decode cX5_dearestLoss 6 = .ok (.lstore_n 3, 1) := by decide +kernel
theorem dX5_dearestLoss_7 : decode cX5_dearestLoss 7 = .ok (.iconst 0, 1) := by decide +kernel
theorem dX5_dearestLoss_8 : decode cX5_dearestLoss 8 = .ok (.istore 5, 2) := by decide +kernel
theorem dX5_dearestLoss_10 : decode cX5_dearestLoss 10 = .ok (.iload 5, 2) := by decide +kernel
theorem dX5_dearestLoss_12 : decode cX5_dearestLoss 12 = .ok (.aload_n 1, 1) := by decide +kernel
theorem dX5_dearestLoss_13 : decode cX5_dearestLoss 13 = .ok (.getfield 24, 3) := by decide +kernel
theorem dX5_dearestLoss_16 : decode cX5_dearestLoss 16 = .ok (.if_icmp .ge 43, 3) := by decide +kernel
theorem dX5_dearestLoss_19 : decode cX5_dearestLoss 19 = .ok (.aload_n 1, 1) := by decide +kernel
theorem dX5_dearestLoss_20 : decode cX5_dearestLoss 20 = .ok (.getfield 98, 3) := by decide +kernel
theorem dX5_dearestLoss_23 : decode cX5_dearestLoss 23 = .ok (.iload 5, 2) := by decide +kernel
theorem dX5_dearestLoss_25 : decode cX5_dearestLoss 25 = .ok (.iaload, 1) := by decide +kernel
theorem dX5_dearestLoss_26 : decode cX5_dearestLoss 26 = .ok (.iconst 3, 1) := by decide +kernel
theorem dX5_dearestLoss_27 : decode cX5_dearestLoss 27 = .ok (.if_icmp .eq 26, 3) := by decide +kernel
theorem dX5_dearestLoss_30 : decode cX5_dearestLoss 30 = .ok (.aload_n 0, 1) := by decide +kernel
theorem dX5_dearestLoss_31 : decode cX5_dearestLoss 31 = .ok (.getfield 9, 3) := by decide +kernel
theorem dX5_dearestLoss_34 : decode cX5_dearestLoss 34 = .ok (.iload 5, 2) := by decide +kernel
theorem dX5_dearestLoss_36 : decode cX5_dearestLoss 36 = .ok (.laload, 1) := by decide +kernel
theorem dX5_dearestLoss_37 : decode cX5_dearestLoss 37 = .ok (.lload_n 3, 1) := by decide +kernel
theorem dX5_dearestLoss_38 : decode cX5_dearestLoss 38 = .ok (.lcmp, 1) := by decide +kernel
theorem dX5_dearestLoss_39 : decode cX5_dearestLoss 39 = .ok (.ifCond .le 14, 3) := by decide +kernel
theorem dX5_dearestLoss_42 : decode cX5_dearestLoss 42 = .ok (.iload 5, 2) := by decide +kernel
theorem dX5_dearestLoss_44 : decode cX5_dearestLoss 44 = .ok (.istore_n 2, 1) := by decide +kernel
theorem dX5_dearestLoss_45 : decode cX5_dearestLoss 45 = .ok (.aload_n 0, 1) := by decide +kernel
theorem dX5_dearestLoss_46 : decode cX5_dearestLoss 46 = .ok (.getfield 9, 3) := by decide +kernel
theorem dX5_dearestLoss_49 : decode cX5_dearestLoss 49 = .ok (.iload 5, 2) := by decide +kernel
theorem dX5_dearestLoss_51 : decode cX5_dearestLoss 51 = .ok (.laload, 1) := by decide +kernel
theorem dX5_dearestLoss_52 : decode cX5_dearestLoss 52 = .ok (.lstore_n 3, 1) := by decide +kernel
theorem dX5_dearestLoss_53 : decode cX5_dearestLoss 53 = .ok (.iinc 5 1, 3) := by decide +kernel
theorem dX5_dearestLoss_56 : decode cX5_dearestLoss 56 = .ok (.goto (-46), 3) := by decide +kernel
theorem dX5_dearestLoss_59 : decode cX5_dearestLoss 59 = .ok (.iload_n 2, 1) := by decide +kernel
theorem dX5_dearestLoss_60 : decode cX5_dearestLoss 60 = .ok (.ireturn, 1) := by decide +kernel
theorem dX6_init_0 : decode cX6_init 0 = .ok (.aload_n 0, 1) := by decide +kernel
theorem dX6_init_1 : decode cX6_init 1 = .ok (.invokespecial 3, 3) := by decide +kernel
theorem dX6_init_4 : decode cX6_init 4 = .ok (.aload_n 0, 1) := by decide +kernel
theorem dX6_init_5 : decode cX6_init 5 = .ok (.iconst 0, 1) := by decide +kernel
theorem dX6_init_6 : decode cX6_init 6 = .ok (.putfield 9, 3) := by decide +kernel
theorem dX6_init_9 : decode cX6_init 9 = .ok (.aload_n 0, 1) := by decide +kernel
theorem dX6_init_10 : decode cX6_init 10 = .ok (.iconst 0, 1) := by decide +kernel
theorem dX6_init_11 : decode cX6_init 11 = .ok (.putfield 15, 3) := by decide +kernel
theorem dX6_init_14 : decode cX6_init 14 = .ok (.aload_n 0, 1) := by decide +kernel
theorem dX6_init_15 : decode cX6_init 15 = .ok (.iconst 3, 1) := by decide +kernel
theorem dX6_init_16 : decode cX6_init 16 = .ok (.putfield 18, 3) := by decide +kernel
theorem dX6_init_19 : decode cX6_init 19 = .ok (.aload_n 0, 1) := by decide +kernel
theorem dX6_init_20 : decode cX6_init 20 = .ok (.bipush 12, 2) := by decide +kernel
theorem dX6_init_22 : decode cX6_init 22 = .ok (.newarray .int, 2) := by decide +kernel
theorem dX6_init_24 : decode cX6_init 24 = .ok (.putfield 21, 3) := by decide +kernel
theorem dX6_init_27 : decode cX6_init 27 = .ok (.aload_n 0, 1) := by decide +kernel
theorem dX6_init_28 : decode cX6_init 28 = .ok (.sipush 144, 3) := by decide +kernel
theorem dX6_init_31 : decode cX6_init 31 = .ok (.newarray .int, 2) := by decide +kernel
theorem dX6_init_33 : decode cX6_init 33 = .ok (.putfield 25, 3) := by decide +kernel
theorem dX6_init_36 : decode cX6_init 36 = .ok (.aload_n 0, 1) := by decide +kernel
theorem dX6_init_37 : decode cX6_init 37 = .ok (.bipush 10, 2) := by decide +kernel
theorem dX6_init_39 : decode cX6_init 39 = .ok (.newarray .int, 2) := by decide +kernel
theorem dX6_init_41 : decode cX6_init 41 = .ok (.putfield 28, 3) := by decide +kernel
theorem dX6_init_44 : decode cX6_init 44 = .ok (.aload_n 0, 1) := by decide +kernel
theorem dX6_init_45 : decode cX6_init 45 = .ok (.bipush 10, 2) := by decide +kernel
theorem dX6_init_47 : decode cX6_init 47 = .ok (.newarray .int, 2) := by decide +kernel
theorem dX6_init_49 : decode cX6_init 49 = .ok (.putfield 31, 3) := by decide +kernel
theorem dX6_init_52 : decode cX6_init 52 = .ok (.aload_n 0, 1) := by decide +kernel
theorem dX6_init_53 : decode cX6_init 53 = .ok (.bipush 10, 2) := by decide +kernel
theorem dX6_init_55 : decode cX6_init 55 = .ok (.newarray .int, 2) := by decide +kernel
theorem dX6_init_57 : decode cX6_init 57 = .ok (.putfield 34, 3) := by decide +kernel
theorem dX6_init_60 : decode cX6_init 60 = .ok (.aload_n 0, 1) := by decide +kernel
theorem dX6_init_61 : decode cX6_init 61 = .ok (.bipush 10, 2) := by decide +kernel
theorem dX6_init_63 : decode cX6_init 63 = .ok (.newarray .int, 2) := by decide +kernel
theorem dX6_init_65 : decode cX6_init 65 = .ok (.putfield 37, 3) := by decide +kernel
theorem dX6_init_68 : decode cX6_init 68 = .ok (.return_, 1) := by decide +kernel
theorem dX6_hasVillage_0 : decode cX6_hasVillage 0 = .ok (.lload_n 1, 1) := by decide +kernel
theorem dX6_hasVillage_1 : decode cX6_hasVillage 1 = .ok (.lconst 0, 1) := by decide +kernel
theorem dX6_hasVillage_2 : decode cX6_hasVillage 2 = .ok (.aload_n 0, 1) := by decide +kernel
theorem dX6_hasVillage_3 : decode cX6_hasVillage 3 = .ok (.getfield 9, 3) := by decide +kernel
theorem dX6_hasVillage_6 : decode cX6_hasVillage 6 = .ok (.iconst 1, 1) := by decide +kernel
theorem dX6_hasVillage_7 : decode cX6_hasVillage 7 = .ok (.isub, 1) := by decide +kernel
theorem dX6_hasVillage_8 : decode cX6_hasVillage 8 = .ok (.i2l, 1) := by decide +kernel
theorem dX6_hasVillage_9 : decode cX6_hasVillage 9 = .ok (.invokestatic 40, 3) := by decide +kernel
theorem dX6_hasVillage_12 : decode cX6_hasVillage 12 = .ok (.ireturn, 1) := by decide +kernel
theorem dX6_hasPlace_0 : decode cX6_hasPlace 0 = .ok (.iload_n 1, 1) := by decide +kernel
theorem dX6_hasPlace_1 : decode cX6_hasPlace 1 = .ok (.i2l, 1) := by decide +kernel
theorem dX6_hasPlace_2 : decode cX6_hasPlace 2 = .ok (.lconst 0, 1) := by decide +kernel
theorem dX6_hasPlace_3 : decode cX6_hasPlace 3 = .ok (.aload_n 0, 1) := by decide +kernel
theorem dX6_hasPlace_4 : decode cX6_hasPlace 4 = .ok (.getfield 15, 3) := by decide +kernel
theorem dX6_hasPlace_7 : decode cX6_hasPlace 7 = .ok (.iconst 1, 1) := by decide +kernel
theorem dX6_hasPlace_8 : decode cX6_hasPlace 8 = .ok (.isub, 1) := by decide +kernel
theorem dX6_hasPlace_9 : decode cX6_hasPlace 9 = .ok (.i2l, 1) := by decide +kernel
theorem dX6_hasPlace_10 : decode cX6_hasPlace 10 = .ok (.invokestatic 40, 3) := by decide +kernel
theorem dX6_hasPlace_13 : decode cX6_hasPlace 13 = .ok (.ireturn, 1) := by decide +kernel
theorem dX6_takesRoad_0 : decode cX6_takesRoad 0 = .ok (.aload_n 0, 1) := by decide +kernel
theorem dX6_takesRoad_1 : decode cX6_takesRoad 1 = .ok (.lload_n 1, 1) := by decide +kernel
theorem dX6_takesRoad_2 : decode cX6_takesRoad 2 = .ok (.invokevirtual 44, 3) := by decide +kernel
theorem dX6_takesRoad_5 : decode cX6_takesRoad 5 = .ok (.ifCond .eq 33, 3) := by decide +kernel
theorem dX6_takesRoad_8 : decode cX6_takesRoad 8 = .ok (.aload_n 0, 1) := by decide +kernel
theorem dX6_takesRoad_9 : decode cX6_takesRoad 9 = .ok (.lload_n 3, 1) := by decide +kernel
theorem dX6_takesRoad_10 : decode cX6_takesRoad 10 = .ok (.invokevirtual 44, 3) := by decide +kernel
theorem dX6_takesRoad_13 : decode cX6_takesRoad 13 = .ok (.ifCond .eq 25, 3) := by decide +kernel
theorem dX6_takesRoad_16 : decode cX6_takesRoad 16 = .ok (.lload_n 1, 1) := by decide +kernel
theorem dX6_takesRoad_17 : decode cX6_takesRoad 17 = .ok (.lload_n 3, 1) := by decide +kernel
theorem dX6_takesRoad_18 : decode cX6_takesRoad 18 = .ok (.lcmp, 1) := by decide +kernel
theorem dX6_takesRoad_19 : decode cX6_takesRoad 19 = .ok (.ifCond .eq 19, 3) := by decide +kernel
theorem dX6_takesRoad_22 : decode cX6_takesRoad 22 = .ok (.lload 5, 2) := by decide +kernel
theorem dX6_takesRoad_24 : decode cX6_takesRoad 24 = .ok (.lconst 0, 1) := by decide +kernel
theorem dX6_takesRoad_25 : decode cX6_takesRoad 25 = .ok (.ldc2_w 48, 3) := by decide +kernel
theorem dX6_takesRoad_28 : decode cX6_takesRoad 28 = .ok (.invokestatic 40, 3) := by decide +kernel
theorem dX6_takesRoad_31 : decode cX6_takesRoad 31 = .ok (.ifCond .eq 7, 3) := by decide +kernel
theorem dX6_takesRoad_34 : decode cX6_takesRoad 34 = .ok (.iconst 1, 1) := by decide +kernel
theorem dX6_takesRoad_35 : decode cX6_takesRoad 35 = .ok (.goto 4, 3) := by decide +kernel
theorem dX6_takesRoad_38 : decode cX6_takesRoad 38 = .ok (.iconst 0, 1) := by decide +kernel
theorem dX6_takesRoad_39 : decode cX6_takesRoad 39 = .ok (.ireturn, 1) := by decide +kernel
theorem dX6_settle_0 : decode cX6_settle 0 = .ok (.aload_n 0, 1) := by decide +kernel
theorem dX6_settle_1 : decode cX6_settle 1 = .ok (.getfield 21, 3) := by decide +kernel
theorem dX6_settle_4 : decode cX6_settle 4 = .ok (.aload_n 0, 1) := by decide +kernel
theorem dX6_settle_5 : decode cX6_settle 5 = .ok (.getfield 9, 3) := by decide +kernel
theorem dX6_settle_8 : decode cX6_settle 8 = .ok (.iload_n 1, 1) := by decide +kernel
theorem dX6_settle_9 : decode cX6_settle 9 = .ok (.iastore, 1) := by decide +kernel
theorem dX6_settle_10 : decode cX6_settle 10 = .ok (.aload_n 0, 1) := by decide +kernel
theorem dX6_settle_11 : decode cX6_settle 11 = .ok (.dup, 1) := by decide +kernel
theorem dX6_settle_12 : decode cX6_settle 12 = .ok (.getfield 9, 3) := by decide +kernel
theorem dX6_settle_15 : decode cX6_settle 15 = .ok (.iconst 1, 1) := by decide +kernel
theorem dX6_settle_16 : decode cX6_settle 16 = .ok (.iadd, 1) := by decide +kernel
theorem dX6_settle_17 : decode cX6_settle 17 = .ok (.putfield 9, 3) := by decide +kernel
theorem dX6_settle_20 : decode cX6_settle 20 = .ok (.aload_n 0, 1) := by decide +kernel
theorem dX6_settle_21 : decode cX6_settle 21 = .ok (.getfield 9, 3) := by decide +kernel
theorem dX6_settle_24 : decode cX6_settle 24 = .ok (.iconst 1, 1) := by decide +kernel
theorem dX6_settle_25 : decode cX6_settle 25 = .ok (.isub, 1) := by decide +kernel
theorem dX6_settle_26 : decode cX6_settle 26 = .ok (.ireturn, 1) := by decide +kernel
theorem dX6_stake_0 : decode cX6_stake 0 = .ok (.aload_n 0, 1) := by decide +kernel
theorem dX6_stake_1 : decode cX6_stake 1 = .ok (.getfield 28, 3) := by decide +kernel
theorem dX6_stake_4 : decode cX6_stake 4 = .ok (.aload_n 0, 1) := by decide +kernel
theorem dX6_stake_5 : decode cX6_stake 5 = .ok (.getfield 15, 3) := by decide +kernel
theorem dX6_stake_8 : decode cX6_stake 8 = .ok (.iload_n 1, 1) := by decide +kernel
theorem dX6_stake_9 : decode cX6_stake 9 = .ok (.iastore, 1) := by decide +kernel
theorem dX6_stake_10 : decode cX6_stake 10 = .ok (.aload_n 0, 1) := by decide +kernel
theorem dX6_stake_11 : decode cX6_stake 11 = .ok (.getfield 31, 3) := by decide +kernel
theorem dX6_stake_14 : decode cX6_stake 14 = .ok (.aload_n 0, 1) := by decide +kernel
theorem dX6_stake_15 : decode cX6_stake 15 = .ok (.getfield 15, 3) := by decide +kernel
theorem dX6_stake_18 : decode cX6_stake 18 = .ok (.iload_n 2, 1) := by decide +kernel
theorem dX6_stake_19 : decode cX6_stake 19 = .ok (.iastore, 1) := by decide +kernel
theorem dX6_stake_20 : decode cX6_stake 20 = .ok (.aload_n 0, 1) := by decide +kernel
theorem dX6_stake_21 : decode cX6_stake 21 = .ok (.getfield 34, 3) := by decide +kernel
theorem dX6_stake_24 : decode cX6_stake 24 = .ok (.aload_n 0, 1) := by decide +kernel
theorem dX6_stake_25 : decode cX6_stake 25 = .ok (.getfield 15, 3) := by decide +kernel
theorem dX6_stake_28 : decode cX6_stake 28 = .ok (.iload_n 3, 1) := by decide +kernel
theorem dX6_stake_29 : decode cX6_stake 29 = .ok (.iastore, 1) := by decide +kernel
theorem dX6_stake_30 : decode cX6_stake 30 = .ok (.aload_n 0, 1) := by decide +kernel
theorem dX6_stake_31 : decode cX6_stake 31 = .ok (.getfield 37, 3) := by decide +kernel
theorem dX6_stake_34 : decode cX6_stake 34 = .ok (.aload_n 0, 1) := by decide +kernel
theorem dX6_stake_35 : decode cX6_stake 35 = .ok (.getfield 15, 3) := by decide +kernel
theorem dX6_stake_38 : decode cX6_stake 38 = .ok (.bipush 20, 2) := by decide +kernel
theorem dX6_stake_40 : decode cX6_stake 40 = .ok (.iastore, 1) := by decide +kernel
theorem dX6_stake_41 : decode cX6_stake 41 = .ok (.aload_n 0, 1) := by decide +kernel
theorem dX6_stake_42 : decode cX6_stake 42 = .ok (.dup, 1) := by decide +kernel
theorem dX6_stake_43 : decode cX6_stake 43 = .ok (.getfield 15, 3) := by decide +kernel
theorem dX6_stake_46 : decode cX6_stake 46 = .ok (.iconst 1, 1) := by decide +kernel
theorem dX6_stake_47 : decode cX6_stake 47 = .ok (.iadd, 1) := by decide +kernel
theorem dX6_stake_48 : decode cX6_stake 48 = .ok (.putfield 15, 3) := by decide +kernel
theorem dX6_stake_51 : decode cX6_stake 51 = .ok (.aload_n 0, 1) := by decide +kernel
theorem dX6_stake_52 : decode cX6_stake 52 = .ok (.getfield 15, 3) := by decide +kernel
theorem dX6_stake_55 : decode cX6_stake 55 = .ok (.iconst 1, 1) := by decide +kernel
theorem dX6_stake_56 : decode cX6_stake 56 = .ok (.isub, 1) := by decide +kernel
theorem dX6_stake_57 : decode cX6_stake 57 = .ok (.ireturn, 1) := by decide +kernel
theorem dX6_lengthOf_0 : decode cX6_lengthOf 0 = .ok (.aload_n 0, 1) := by decide +kernel
theorem dX6_lengthOf_1 : decode cX6_lengthOf 1 = .ok (.getfield 25, 3) := by decide +kernel
theorem dX6_lengthOf_4 : decode cX6_lengthOf 4 = .ok (.iload_n 1, 1) := by decide +kernel
theorem dX6_lengthOf_5 : decode cX6_lengthOf 5 = .ok (.bipush 12, 2) := by decide +kernel
theorem dX6_lengthOf_7 : decode cX6_lengthOf 7 = .ok (.imul, 1) := by decide +kernel
theorem dX6_lengthOf_8 : decode cX6_lengthOf 8 = .ok (.iload_n 2, 1) := by decide +kernel
theorem dX6_lengthOf_9 : decode cX6_lengthOf 9 = .ok (.iadd, 1) := by decide +kernel
theorem dX6_lengthOf_10 : decode cX6_lengthOf 10 = .ok (.iaload, 1) := by decide +kernel
theorem dX6_lengthOf_11 : decode cX6_lengthOf 11 = .ok (.ireturn, 1) := by decide +kernel
theorem dX6_pave_0 : decode cX6_pave 0 = .ok (.aload_n 0, 1) := by decide +kernel
theorem dX6_pave_1 : decode cX6_pave 1 = .ok (.getfield 25, 3) := by decide +kernel
theorem dX6_pave_4 : decode cX6_pave 4 = .ok (.iload_n 1, 1) := by decide +kernel
theorem dX6_pave_5 : decode cX6_pave 5 = .ok (.bipush 12, 2) := by decide +kernel
theorem dX6_pave_7 : decode cX6_pave 7 = .ok (.imul, 1) := by decide +kernel
theorem dX6_pave_8 : decode cX6_pave 8 = .ok (.iload_n 2, 1) := by decide +kernel
theorem dX6_pave_9 : decode cX6_pave 9 = .ok (.iadd, 1) := by decide +kernel
theorem dX6_pave_10 : decode cX6_pave 10 = .ok (.iload_n 3, 1) := by decide +kernel
theorem dX6_pave_11 : decode cX6_pave 11 = .ok (.iastore, 1) := by decide +kernel
theorem dX6_pave_12 : decode cX6_pave 12 = .ok (.aload_n 0, 1) := by decide +kernel
theorem dX6_pave_13 : decode cX6_pave 13 = .ok (.getfield 25, 3) := by decide +kernel
theorem dX6_pave_16 : decode cX6_pave 16 = .ok (.iload_n 2, 1) := by decide +kernel
theorem dX6_pave_17 : decode cX6_pave 17 = .ok (.bipush 12, 2) := by decide +kernel
theorem dX6_pave_19 : decode cX6_pave 19 = .ok (.imul, 1) := by decide +kernel
theorem dX6_pave_20 : decode cX6_pave 20 = .ok (.iload_n 1, 1) := by decide +kernel
theorem dX6_pave_21 : decode cX6_pave 21 = .ok (.iadd, 1) := by decide +kernel
theorem dX6_pave_22 : decode cX6_pave 22 = .ok (.iload_n 3, 1) := by decide +kernel
theorem dX6_pave_23 : decode cX6_pave 23 = .ok (.iastore, 1) := by decide +kernel
theorem dX6_pave_24 : decode cX6_pave 24 = .ok (.return_, 1) := by decide +kernel
theorem dX6_roads_0 : decode cX6_roads 0 = .ok (.iconst 0, 1) := by decide +kernel
theorem dX6_roads_1 : decode cX6_roads 1 = .ok (.istore_n 1, 1) := by decide +kernel
theorem dX6_roads_2 : decode cX6_roads 2 = .ok (.iconst 0, 1) := by decide +kernel
theorem dX6_roads_3 : decode cX6_roads 3 = .ok (.istore_n 2, 1) := by decide +kernel
theorem dX6_roads_4 : decode cX6_roads 4 = .ok (.iload_n 2, 1) := by decide +kernel
theorem dX6_roads_5 : decode cX6_roads 5 = .ok (.aload_n 0, 1) := by decide +kernel
theorem dX6_roads_6 : decode cX6_roads 6 = .ok (.getfield 9, 3) := by decide +kernel
theorem dX6_roads_9 : decode cX6_roads 9 = .ok (.if_icmp .ge 39, 3) := by decide +kernel
theorem dX6_roads_12 : decode cX6_roads 12 = .ok (.iconst 0, 1) := by decide +kernel
theorem dX6_roads_13 : decode cX6_roads 13 = .ok (.istore_n 3, 1) := by decide +kernel
theorem dX6_roads_14 : decode cX6_roads 14 = .ok (.iload_n 3, 1) := by decide +kernel
theorem dX6_roads_15 : decode cX6_roads 15 = .ok (.iload_n 2, 1) := by decide +kernel
theorem dX6_roads_16 : decode cX6_roads 16 = .ok (.if_icmp .ge 26, 3) := by decide +kernel
theorem dX6_roads_19 : decode cX6_roads 19 = .ok (.iload_n 1, 1) := by decide +kernel
theorem dX6_roads_20 : decode cX6_roads 20 = .ok (.aload_n 0, 1) := by decide +kernel
theorem dX6_roads_21 : decode cX6_roads 21 = .ok (.iload_n 2, 1) := by decide +kernel
theorem dX6_roads_22 : decode cX6_roads 22 = .ok (.iload_n 3, 1) := by decide +kernel
theorem dX6_roads_23 : decode cX6_roads 23 = .ok (.invokevirtual 50, 3) := by decide +kernel
theorem dX6_roads_26 : decode cX6_roads 26 = .ok (.ifCond .le 7, 3) := by decide +kernel
theorem dX6_roads_29 : decode cX6_roads 29 = .ok (.iconst 1, 1) := by decide +kernel
theorem dX6_roads_30 : decode cX6_roads 30 = .ok (.goto 4, 3) := by decide +kernel
theorem dX6_roads_33 : decode cX6_roads 33 = .ok (.iconst 0, 1) := by decide +kernel
theorem dX6_roads_34 : decode cX6_roads 34 = .ok (.iadd, 1) := by decide +kernel
theorem dX6_roads_35 : decode cX6_roads 35 = .ok (.istore_n 1, 1) := by decide +kernel
theorem dX6_roads_36 : decode cX6_roads 36 = .ok (.iinc 3 1, 3) := by decide +kernel
theorem dX6_roads_39 : decode cX6_roads 39 = .ok (.goto (-25), 3) := by decide +kernel
theorem dX6_roads_42 : decode cX6_roads 42 = .ok (.iinc 2 1, 3) := by decide +kernel
theorem dX6_roads_45 : decode cX6_roads 45 = .ok (.goto (-41), 3) := by decide +kernel
theorem dX6_roads_48 : decode cX6_roads 48 = .ok (.iload_n 1, 1) := by decide +kernel
theorem dX6_roads_49 : decode cX6_roads 49 = .ok (.ireturn, 1) := by decide +kernel
theorem dX6_allLoaves_0 : decode cX6_allLoaves 0 = .ok (.iconst 0, 1) := by decide +kernel
theorem dX6_allLoaves_1 : decode cX6_allLoaves 1 = .ok (.istore_n 1, 1) := by decide +kernel
theorem dX6_allLoaves_2 : decode cX6_allLoaves 2 = .ok (.iconst 0, 1) := by decide +kernel
theorem dX6_allLoaves_3 : decode cX6_allLoaves 3 = .ok (.istore_n 2, 1) := by decide +kernel
theorem dX6_allLoaves_4 : decode cX6_allLoaves 4 = .ok (.iload_n 2, 1) := by decide +kernel
theorem dX6_allLoaves_5 : decode cX6_allLoaves 5 = .ok (.aload_n 0, 1) := by decide +kernel
theorem dX6_allLoaves_6 : decode cX6_allLoaves 6 = .ok (.getfield 9, 3) := by decide +kernel
theorem dX6_allLoaves_9 : decode cX6_allLoaves 9 = .ok (.if_icmp .ge 18, 3) := by decide +kernel
theorem dX6_allLoaves_12 : decode cX6_allLoaves 12 = .ok (.iload_n 1, 1) := by decide +kernel
theorem dX6_allLoaves_13 : decode cX6_allLoaves 13 = .ok (.aload_n 0, 1) := by decide +kernel
theorem dX6_allLoaves_14 : decode cX6_allLoaves 14 = .ok (.getfield 21, 3) := by decide +kernel
theorem dX6_allLoaves_17 : decode cX6_allLoaves 17 = .ok (.iload_n 2, 1) := by decide +kernel
theorem dX6_allLoaves_18 : decode cX6_allLoaves 18 = .ok (.iaload, 1) := by decide +kernel
theorem dX6_allLoaves_19 : decode cX6_allLoaves 19 = .ok (.iadd, 1) := by decide +kernel
theorem dX6_allLoaves_20 : decode cX6_allLoaves 20 = .ok (.istore_n 1, 1) := by decide +kernel
theorem dX6_allLoaves_21 : decode cX6_allLoaves 21 = .ok (.iinc 2 1, 3) := by decide +kernel
theorem dX6_allLoaves_24 : decode cX6_allLoaves 24 = .ok (.goto (-20), 3) := by decide +kernel
theorem dX6_allLoaves_27 : decode cX6_allLoaves 27 = .ok (.iload_n 1, 1) := by decide +kernel
theorem dX6_allLoaves_28 : decode cX6_allLoaves 28 = .ok (.ireturn, 1) := by decide +kernel
theorem dX6_placesOfKind_0 : decode cX6_placesOfKind 0 = .ok (.iconst 0, 1) := by decide +kernel
theorem dX6_placesOfKind_1 : decode cX6_placesOfKind 1 = .ok (.istore_n 2, 1) := by decide +kernel
theorem dX6_placesOfKind_2 : decode cX6_placesOfKind 2 = .ok (.iconst 0, 1) := by decide +kernel
theorem dX6_placesOfKind_3 : decode cX6_placesOfKind 3 = .ok (.istore_n 3, 1) := by decide +kernel
theorem dX6_placesOfKind_4 : decode cX6_placesOfKind 4 = .ok (.iload_n 3, 1) := by decide +kernel
theorem dX6_placesOfKind_5 : decode cX6_placesOfKind 5 = .ok (.aload_n 0, 1) := by decide +kernel
theorem dX6_placesOfKind_6 : decode cX6_placesOfKind 6 = .ok (.getfield 15, 3) := by decide +kernel
theorem dX6_placesOfKind_9 : decode cX6_placesOfKind 9 = .ok (.if_icmp .ge 29, 3) := by decide +kernel
theorem dX6_placesOfKind_12 : decode cX6_placesOfKind 12 = .ok (.iload_n 2, 1) := by decide +kernel
theorem dX6_placesOfKind_13 : decode cX6_placesOfKind 13 = .ok (.aload_n 0, 1) := by decide +kernel
theorem dX6_placesOfKind_14 : decode cX6_placesOfKind 14 = .ok (.getfield 31, 3) := by decide +kernel
theorem dX6_placesOfKind_17 : decode cX6_placesOfKind 17 = .ok (.iload_n 3, 1) := by decide +kernel
theorem dX6_placesOfKind_18 : decode cX6_placesOfKind 18 = .ok (.iaload, 1) := by decide +kernel
theorem dX6_placesOfKind_19 : decode cX6_placesOfKind 19 = .ok (.iload_n 1, 1) := by decide +kernel
theorem dX6_placesOfKind_20 : decode cX6_placesOfKind 20 = .ok (.if_icmp .ne 9, 3) := by decide +kernel
theorem dX6_placesOfKind_23 : decode cX6_placesOfKind 23 = .ok (.iconst 1, 1) := by decide +kernel
theorem dX6_placesOfKind_24 : decode cX6_placesOfKind 24 = .ok (.iload_n 3, 1) := by decide +kernel
theorem dX6_placesOfKind_25 : decode cX6_placesOfKind 25 = .ok (.ishl, 1) := by decide +kernel
theorem dX6_placesOfKind_26 : decode cX6_placesOfKind 26 = .ok (.goto 4, 3) := by decide +kernel
theorem dX6_placesOfKind_29 : decode cX6_placesOfKind 29 = .ok (.iconst 0, 1) := by decide +kernel
theorem dX6_placesOfKind_30 : decode cX6_placesOfKind 30 = .ok (.ior, 1) := by decide +kernel
theorem dX6_placesOfKind_31 : decode cX6_placesOfKind 31 = .ok (.istore_n 2, 1) := by decide +kernel
theorem dX6_placesOfKind_32 : decode cX6_placesOfKind 32 = .ok (.iinc 3 1, 3) := by decide +kernel
theorem dX6_placesOfKind_35 : decode cX6_placesOfKind 35 = .ok (.goto (-31), 3) := by decide +kernel
theorem dX6_placesOfKind_38 : decode cX6_placesOfKind 38 = .ok (.iload_n 2, 1) := by decide +kernel
theorem dX6_placesOfKind_39 : decode cX6_placesOfKind 39 = .ok (.ireturn, 1) := by decide +kernel
theorem dX6_ovenCost_0 : decode cX6_ovenCost 0 = .ok (.aload_n 0, 1) := by decide +kernel
theorem dX6_ovenCost_1 : decode cX6_ovenCost 1 = .ok (.getfield 31, 3) := by decide +kernel
theorem dX6_ovenCost_4 : decode cX6_ovenCost 4 = .ok (.iload_n 1, 1) := by decide +kernel
theorem dX6_ovenCost_5 : decode cX6_ovenCost 5 = .ok (.iaload, 1) := by decide +kernel
theorem dX6_ovenCost_6 : decode cX6_ovenCost 6 = .ok (.iconst 2, 1) := by decide +kernel
theorem dX6_ovenCost_7 : decode cX6_ovenCost 7 = .ok (.if_icmp .eq 13, 3) := by decide +kernel
theorem dX6_ovenCost_10 : decode cX6_ovenCost 10 = .ok (.aload_n 0, 1) := by decide +kernel
theorem dX6_ovenCost_11 : decode cX6_ovenCost 11 = .ok (.getfield 31, 3) := by decide +kernel
theorem dX6_ovenCost_14 : decode cX6_ovenCost 14 = .ok (.iload_n 1, 1) := by decide +kernel
theorem dX6_ovenCost_15 : decode cX6_ovenCost 15 = .ok (.iaload, 1) := by decide +kernel
theorem dX6_ovenCost_16 : decode cX6_ovenCost 16 = .ok (.iconst 3, 1) := by decide +kernel
theorem dX6_ovenCost_17 : decode cX6_ovenCost 17 = .ok (.if_icmp .ne 7, 3) := by decide +kernel
theorem dX6_ovenCost_20 : decode cX6_ovenCost 20 = .ok (.iconst 0, 1) := by decide +kernel
theorem dX6_ovenCost_21 : decode cX6_ovenCost 21 = .ok (.goto 9, 3) := by decide +kernel
theorem dX6_ovenCost_24 : decode cX6_ovenCost 24 = .ok (.aload_n 0, 1) := by decide +kernel
theorem dX6_ovenCost_25 : decode cX6_ovenCost 25 = .ok (.getfield 34, 3) := by decide +kernel
theorem dX6_ovenCost_28 : decode cX6_ovenCost 28 = .ok (.iload_n 1, 1) := by decide +kernel
theorem dX6_ovenCost_29 : decode cX6_ovenCost 29 = .ok (.iaload, 1) := by decide +kernel
theorem dX6_ovenCost_30 : decode cX6_ovenCost 30 = .ok (.ireturn, 1) := by decide +kernel
theorem dX6_copyFrom_0 : decode cX6_copyFrom 0 = .ok (.aload_n 0, 1) := by decide +kernel
theorem dX6_copyFrom_1 : decode cX6_copyFrom 1 = .ok (.aload_n 1, 1) := by decide +kernel
theorem dX6_copyFrom_2 : decode cX6_copyFrom 2 = .ok (.getfield 9, 3) := by decide +kernel
theorem dX6_copyFrom_5 : decode cX6_copyFrom 5 = .ok (.putfield 9, 3) := by decide +kernel
theorem dX6_copyFrom_8 : decode cX6_copyFrom 8 = .ok (.aload_n 0, 1) := by decide +kernel
theorem dX6_copyFrom_9 : decode cX6_copyFrom 9 = .ok (.aload_n 1, 1) := by decide +kernel
theorem dX6_copyFrom_10 : decode cX6_copyFrom 10 = .ok (.getfield 15, 3) := by decide +kernel
theorem dX6_copyFrom_13 : decode cX6_copyFrom 13 = .ok (.putfield 15, 3) := by decide +kernel
theorem dX6_copyFrom_16 : decode cX6_copyFrom 16 = .ok (.aload_n 0, 1) := by decide +kernel
theorem dX6_copyFrom_17 : decode cX6_copyFrom 17 = .ok (.aload_n 1, 1) := by decide +kernel
theorem dX6_copyFrom_18 : decode cX6_copyFrom 18 = .ok (.getfield 18, 3) := by decide +kernel
theorem dX6_copyFrom_21 : decode cX6_copyFrom 21 = .ok (.putfield 18, 3) := by decide +kernel
theorem dX6_copyFrom_24 : decode cX6_copyFrom 24 = .ok (.aload_n 1, 1) := by decide +kernel
theorem dX6_copyFrom_25 : decode cX6_copyFrom 25 = .ok (.getfield 21, 3) := by decide +kernel
theorem dX6_copyFrom_28 : decode cX6_copyFrom 28 = .ok (.iconst 0, 1) := by decide +kernel
theorem dX6_copyFrom_29 : decode cX6_copyFrom 29 = .ok (.aload_n 0, 1) := by decide +kernel
theorem dX6_copyFrom_30 : decode cX6_copyFrom 30 = .ok (.getfield 21, 3) := by decide +kernel
theorem dX6_copyFrom_33 : decode cX6_copyFrom 33 = .ok (.iconst 0, 1) := by decide +kernel
theorem dX6_copyFrom_34 : decode cX6_copyFrom 34 = .ok (.bipush 12, 2) := by decide +kernel
theorem dX6_copyFrom_36 : decode cX6_copyFrom 36 = .ok (.invokestatic 54, 3) := by decide +kernel
theorem dX6_copyFrom_39 : decode cX6_copyFrom 39 = .ok (.aload_n 1, 1) := by decide +kernel
theorem dX6_copyFrom_40 : decode cX6_copyFrom 40 = .ok (.getfield 25, 3) := by decide +kernel
theorem dX6_copyFrom_43 : decode cX6_copyFrom 43 = .ok (.iconst 0, 1) := by decide +kernel
theorem dX6_copyFrom_44 : decode cX6_copyFrom 44 = .ok (.aload_n 0, 1) := by decide +kernel
theorem dX6_copyFrom_45 : decode cX6_copyFrom 45 = .ok (.getfield 25, 3) := by decide +kernel
theorem dX6_copyFrom_48 : decode cX6_copyFrom 48 = .ok (.iconst 0, 1) := by decide +kernel
theorem dX6_copyFrom_49 : decode cX6_copyFrom 49 = .ok (.sipush 144, 3) := by decide +kernel
theorem dX6_copyFrom_52 : decode cX6_copyFrom 52 = .ok (.invokestatic 54, 3) := by decide +kernel
theorem dX6_copyFrom_55 : decode cX6_copyFrom 55 = .ok (.aload_n 1, 1) := by decide +kernel
theorem dX6_copyFrom_56 : decode cX6_copyFrom 56 = .ok (.getfield 28, 3) := by decide +kernel
theorem dX6_copyFrom_59 : decode cX6_copyFrom 59 = .ok (.iconst 0, 1) := by decide +kernel
theorem dX6_copyFrom_60 : decode cX6_copyFrom 60 = .ok (.aload_n 0, 1) := by decide +kernel
theorem dX6_copyFrom_61 : decode cX6_copyFrom 61 = .ok (.getfield 28, 3) := by decide +kernel
theorem dX6_copyFrom_64 : decode cX6_copyFrom 64 = .ok (.iconst 0, 1) := by decide +kernel
theorem dX6_copyFrom_65 : decode cX6_copyFrom 65 = .ok (.bipush 10, 2) := by decide +kernel
theorem dX6_copyFrom_67 : decode cX6_copyFrom 67 = .ok (.invokestatic 54, 3) := by decide +kernel
theorem dX6_copyFrom_70 : decode cX6_copyFrom 70 = .ok (.aload_n 1, 1) := by decide +kernel
theorem dX6_copyFrom_71 : decode cX6_copyFrom 71 = .ok (.getfield 31, 3) := by decide +kernel
theorem dX6_copyFrom_74 : decode cX6_copyFrom 74 = .ok (.iconst 0, 1) := by decide +kernel
theorem dX6_copyFrom_75 : decode cX6_copyFrom 75 = .ok (.aload_n 0, 1) := by decide +kernel
theorem dX6_copyFrom_76 : decode cX6_copyFrom 76 = .ok (.getfield 31, 3) := by decide +kernel
theorem dX6_copyFrom_79 : decode cX6_copyFrom 79 = .ok (.iconst 0, 1) := by decide +kernel
theorem dX6_copyFrom_80 : decode cX6_copyFrom 80 = .ok (.bipush 10, 2) := by decide +kernel
theorem dX6_copyFrom_82 : decode cX6_copyFrom 82 = .ok (.invokestatic 54, 3) := by decide +kernel
theorem dX6_copyFrom_85 : decode cX6_copyFrom 85 = .ok (.aload_n 1, 1) := by decide +kernel
theorem dX6_copyFrom_86 : decode cX6_copyFrom 86 = .ok (.getfield 34, 3) := by decide +kernel
theorem dX6_copyFrom_89 : decode cX6_copyFrom 89 = .ok (.iconst 0, 1) := by decide +kernel
theorem dX6_copyFrom_90 : decode cX6_copyFrom 90 = .ok (.aload_n 0, 1) := by decide +kernel
theorem dX6_copyFrom_91 : decode cX6_copyFrom 91 = .ok (.getfield 34, 3) := by decide +kernel
theorem dX6_copyFrom_94 : decode cX6_copyFrom 94 = .ok (.iconst 0, 1) := by decide +kernel
theorem dX6_copyFrom_95 : decode cX6_copyFrom 95 = .ok (.bipush 10, 2) := by decide +kernel
theorem dX6_copyFrom_97 : decode cX6_copyFrom 97 = .ok (.invokestatic 54, 3) := by decide +kernel
theorem dX6_copyFrom_100 : decode cX6_copyFrom 100 = .ok (.aload_n 1, 1) := by decide +kernel
theorem dX6_copyFrom_101 : decode cX6_copyFrom 101 = .ok (.getfield 37, 3) := by decide +kernel
theorem dX6_copyFrom_104 : decode cX6_copyFrom 104 = .ok (.iconst 0, 1) := by decide +kernel
theorem dX6_copyFrom_105 : decode cX6_copyFrom 105 = .ok (.aload_n 0, 1) := by decide +kernel
theorem dX6_copyFrom_106 : decode cX6_copyFrom 106 = .ok (.getfield 37, 3) := by decide +kernel
theorem dX6_copyFrom_109 : decode cX6_copyFrom 109 = .ok (.iconst 0, 1) := by decide +kernel
theorem dX6_copyFrom_110 : decode cX6_copyFrom 110 = .ok (.bipush 10, 2) := by decide +kernel
theorem dX6_copyFrom_112 : decode cX6_copyFrom 112 = .ok (.invokestatic 54, 3) := by decide +kernel
theorem dX6_copyFrom_115 : decode cX6_copyFrom 115 = .ok (.return_, 1) := by decide +kernel
theorem dX6_isLike_0 : decode cX6_isLike 0 = .ok (.aload_n 0, 1) := by decide +kernel
theorem dX6_isLike_1 : decode cX6_isLike 1 = .ok (.getfield 9, 3) := by decide +kernel
theorem dX6_isLike_4 : decode cX6_isLike 4 = .ok (.aload_n 1, 1) := by decide +kernel
theorem dX6_isLike_5 : decode cX6_isLike 5 = .ok (.getfield 9, 3) := by decide +kernel
theorem dX6_isLike_8 : decode cX6_isLike 8 = .ok (.if_icmp .ne 71, 3) := by decide +kernel
theorem dX6_isLike_11 : decode cX6_isLike 11 = .ok (.aload_n 0, 1) := by decide +kernel
theorem dX6_isLike_12 : decode cX6_isLike 12 = .ok (.getfield 15, 3) := by decide +kernel
theorem dX6_isLike_15 : decode cX6_isLike 15 = .ok (.aload_n 1, 1) := by decide +kernel
theorem dX6_isLike_16 : decode cX6_isLike 16 = .ok (.getfield 15, 3) := by decide +kernel
theorem dX6_isLike_19 : decode cX6_isLike 19 = .ok (.if_icmp .ne 60, 3) := by decide +kernel
theorem dX6_isLike_22 : decode cX6_isLike 22 = .ok (.aload_n 0, 1) := by decide +kernel
theorem dX6_isLike_23 : decode cX6_isLike 23 = .ok (.getfield 18, 3) := by decide +kernel
theorem dX6_isLike_26 : decode cX6_isLike 26 = .ok (.aload_n 1, 1) := by decide +kernel
theorem dX6_isLike_27 : decode cX6_isLike 27 = .ok (.getfield 18, 3) := by decide +kernel
theorem dX6_isLike_30 : decode cX6_isLike 30 = .ok (.if_icmp .ne 49, 3) := by decide +kernel
theorem dX6_isLike_33 : decode cX6_isLike 33 = .ok (.aload_n 0, 1) := by decide +kernel
theorem dX6_isLike_34 : decode cX6_isLike 34 = .ok (.getfield 21, 3) := by decide +kernel
theorem dX6_isLike_37 : decode cX6_isLike 37 = .ok (.aload_n 1, 1) := by decide +kernel
theorem dX6_isLike_38 : decode cX6_isLike 38 = .ok (.getfield 21, 3) := by decide +kernel
theorem dX6_isLike_41 : decode cX6_isLike 41 = .ok (.invokestatic 60, 3) := by decide +kernel
theorem dX6_isLike_44 : decode cX6_isLike 44 = .ok (.ifCond .eq 35, 3) := by decide +kernel
theorem dX6_isLike_47 : decode cX6_isLike 47 = .ok (.aload_n 0, 1) := by decide +kernel
theorem dX6_isLike_48 : decode cX6_isLike 48 = .ok (.getfield 25, 3) := by decide +kernel
theorem dX6_isLike_51 : decode cX6_isLike 51 = .ok (.aload_n 1, 1) := by decide +kernel
theorem dX6_isLike_52 : decode cX6_isLike 52 = .ok (.getfield 25, 3) := by decide +kernel
theorem dX6_isLike_55 : decode cX6_isLike 55 = .ok (.invokestatic 60, 3) := by decide +kernel
theorem dX6_isLike_58 : decode cX6_isLike 58 = .ok (.ifCond .eq 21, 3) := by decide +kernel
theorem dX6_isLike_61 : decode cX6_isLike 61 = .ok (.aload_n 0, 1) := by decide +kernel
theorem dX6_isLike_62 : decode cX6_isLike 62 = .ok (.getfield 37, 3) := by decide +kernel
theorem dX6_isLike_65 : decode cX6_isLike 65 = .ok (.aload_n 1, 1) := by decide +kernel
theorem dX6_isLike_66 : decode cX6_isLike 66 = .ok (.getfield 37, 3) := by decide +kernel
theorem dX6_isLike_69 : decode cX6_isLike 69 = .ok (.invokestatic 60, 3) := by decide +kernel
theorem dX6_isLike_72 : decode cX6_isLike 72 = .ok (.ifCond .eq 7, 3) := by decide +kernel
theorem dX6_isLike_75 : decode cX6_isLike 75 = .ok (.iconst 1, 1) := by decide +kernel
theorem dX6_isLike_76 : decode cX6_isLike 76 = .ok (.goto 4, 3) := by decide +kernel
theorem dX6_isLike_79 : decode cX6_isLike 79 = .ok (.iconst 0, 1) := by decide +kernel
theorem dX6_isLike_80 : decode cX6_isLike 80 = .ok (.ireturn, 1) := by decide +kernel
theorem dX6_sameRows_0 : decode cX6_sameRows 0 = .ok (.iconst 0, 1) := by decide +kernel
theorem dX6_sameRows_1 : decode cX6_sameRows 1 = .ok (.istore_n 2, 1) := by decide +kernel
theorem dX6_sameRows_2 : decode cX6_sameRows 2 = .ok (.iload_n 2, 1) := by decide +kernel
theorem dX6_sameRows_3 : decode cX6_sameRows 3 = .ok (.aload_n 0, 1) := by decide +kernel
theorem dX6_sameRows_4 : decode cX6_sameRows 4 = .ok (.arraylength, 1) := by decide +kernel
theorem dX6_sameRows_5 : decode cX6_sameRows 5 = .ok (.if_icmp .ge 26, 3) := by decide +kernel
theorem dX6_sameRows_8 : decode cX6_sameRows 8 = .ok (.iload_n 2, 1) := by decide +kernel
theorem dX6_sameRows_9 : decode cX6_sameRows 9 = .ok (.aload_n 1, 1) := by decide +kernel
theorem dX6_sameRows_10 : decode cX6_sameRows 10 = .ok (.arraylength, 1) := by decide +kernel
theorem dX6_sameRows_11 : decode cX6_sameRows 11 = .ok (.if_icmp .ge 20, 3) := by decide +kernel
theorem dX6_sameRows_14 : decode cX6_sameRows 14 = .ok (.aload_n 0, 1) := by decide +kernel
theorem dX6_sameRows_15 : decode cX6_sameRows 15 = .ok (.iload_n 2, 1) := by decide +kernel
theorem dX6_sameRows_16 : decode cX6_sameRows 16 = .ok (.iaload, 1) := by decide +kernel
theorem dX6_sameRows_17 : decode cX6_sameRows 17 = .ok (.aload_n 1, 1) := by decide +kernel
theorem dX6_sameRows_18 : decode cX6_sameRows 18 = .ok (.iload_n 2, 1) := by decide +kernel
theorem dX6_sameRows_19 : decode cX6_sameRows 19 = .ok (.iaload, 1) := by decide +kernel
theorem dX6_sameRows_20 : decode cX6_sameRows 20 = .ok (.if_icmp .eq 5, 3) := by decide +kernel
theorem dX6_sameRows_23 : decode cX6_sameRows 23 = .ok (.iconst 0, 1) := by decide +kernel
theorem dX6_sameRows_24 : decode cX6_sameRows 24 = .ok (.ireturn, 1) := by decide +kernel
theorem dX6_sameRows_25 : decode cX6_sameRows 25 = .ok (.iinc 2 1, 3) := by decide +kernel
theorem dX6_sameRows_28 : decode cX6_sameRows 28 = .ok (.goto (-26), 3) := by decide +kernel
theorem dX6_sameRows_31 : decode cX6_sameRows 31 = .ok (.aload_n 0, 1) := by decide +kernel
theorem dX6_sameRows_32 : decode cX6_sameRows 32 = .ok (.arraylength, 1) := by decide +kernel
theorem dX6_sameRows_33 : decode cX6_sameRows 33 = .ok (.aload_n 1, 1) := by decide +kernel
theorem dX6_sameRows_34 : decode cX6_sameRows 34 = .ok (.arraylength, 1) := by decide +kernel
theorem dX6_sameRows_35 : decode cX6_sameRows 35 = .ok (.if_icmp .ne 7, 3) := by decide +kernel
theorem dX6_sameRows_38 : decode cX6_sameRows 38 = .ok (.iconst 1, 1) := by decide +kernel
theorem dX6_sameRows_39 : decode cX6_sameRows 39 = .ok (.goto 4, 3) := by decide +kernel
theorem dX6_sameRows_42 : decode cX6_sameRows 42 = .ok (.iconst 0, 1) := by decide +kernel
theorem dX6_sameRows_43 : decode cX6_sameRows 43 = .ok (.ireturn, 1) := by decide +kernel
theorem dX7_init_0 : decode cX7_init 0 = .ok (.aload_n 0, 1) := by decide +kernel
theorem dX7_init_1 : decode cX7_init 1 = .ok (.invokespecial 3, 3) := by decide +kernel
theorem dX7_init_4 : decode cX7_init 4 = .ok (.aload_n 0, 1) := by decide +kernel
theorem dX7_init_5 : decode cX7_init 5 = .ok (.sipush 144, 3) := by decide +kernel
theorem dX7_init_8 : decode cX7_init 8 = .ok (.newarray .int, 2) := by decide +kernel
theorem dX7_init_10 : decode cX7_init 10 = .ok (.putfield 9, 3) := by decide +kernel
theorem dX7_init_13 : decode cX7_init 13 = .ok (.return_, 1) := by decide +kernel
theorem dX7_between_0 : decode cX7_between 0 = .ok (.aload_n 0, 1) := by decide +kernel
theorem dX7_between_1 : decode cX7_between 1 = .ok (.getfield 9, 3) := by decide +kernel
theorem dX7_between_4 : decode cX7_between 4 = .ok (.iload_n 1, 1) := by decide +kernel
theorem dX7_between_5 : decode cX7_between 5 = .ok (.bipush 12, 2) := by decide +kernel
theorem dX7_between_7 : decode cX7_between 7 = .ok (.imul, 1) := by decide +kernel
theorem dX7_between_8 : decode cX7_between 8 = .ok (.iload_n 2, 1) := by decide +kernel
theorem dX7_between_9 : decode cX7_between 9 = .ok (.iadd, 1) := by decide +kernel
theorem dX7_between_10 : decode cX7_between 10 = .ok (.iaload, 1) := by decide +kernel
theorem dX7_between_11 : decode cX7_between 11 = .ok (.ireturn, 1) := by decide +kernel
theorem dX7_measure_0 : decode cX7_measure 0 = .ok (.aload_n 0, 1) := by decide +kernel
theorem dX7_measure_1 : decode cX7_measure 1 = .ok (.aload_n 1, 1) := by decide +kernel
theorem dX7_measure_2 : decode cX7_measure 2 = .ok (.invokevirtual 15, 3) := by decide +kernel
theorem dX7_measure_5 : decode cX7_measure 5 = .ok (.iconst 0, 1) := by decide +kernel
theorem dX7_measure_6 : decode cX7_measure 6 = .ok (.istore_n 2, 1) := by decide +kernel
theorem dX7_measure_7 : decode cX7_measure 7 = .ok (.iload_n 2, 1) := by decide +kernel
theorem dX7_measure_8 : decode cX7_measure 8 = .ok (.aload_n 1, 1) := by decide +kernel
theorem dX7_measure_9 : decode cX7_measure 9 = .ok (.getfield 19, 3) := by decide +kernel
theorem dX7_measure_12 : decode cX7_measure 12 = .ok (.if_icmp .ge 35, 3) := by decide +kernel
theorem dX7_measure_15 : decode cX7_measure 15 = .ok (.iconst 0, 1) := by decide +kernel
theorem dX7_measure_16 : decode cX7_measure 16 = .ok (.istore_n 3, 1) := by decide +kernel
theorem dX7_measure_17 : decode cX7_measure 17 = .ok (.iload_n 3, 1) := by decide +kernel
theorem dX7_measure_18 : decode cX7_measure 18 = .ok (.aload_n 1, 1) := by decide +kernel
theorem dX7_measure_19 : decode cX7_measure 19 = .ok (.getfield 19, 3) := by decide +kernel
theorem dX7_measure_22 : decode cX7_measure 22 = .ok (.if_icmp .ge 19, 3) := by decide +kernel
theorem dX7_measure_25 : decode cX7_measure 25 = .ok (.aload_n 0, 1) := by decide +kernel
theorem dX7_measure_26 : decode cX7_measure 26 = .ok (.iload_n 3, 1) := by decide +kernel
theorem dX7_measure_27 : decode cX7_measure 27 = .ok (.iload_n 2, 1) := by decide +kernel
theorem dX7_measure_28 : decode cX7_measure 28 = .ok (.aload_n 1, 1) := by decide +kernel
theorem dX7_measure_29 : decode cX7_measure 29 = .ok (.getfield 19, 3) := by decide +kernel
theorem dX7_measure_32 : decode cX7_measure 32 = .ok (.invokevirtual 25, 3) := by decide +kernel
theorem dX7_measure_35 : decode cX7_measure 35 = .ok (.iinc 3 1, 3) := by decide +kernel
theorem dX7_measure_38 : decode cX7_measure 38 = .ok (.goto (-21), 3) := by decide +kernel
theorem dX7_measure_41 : decode cX7_measure 41 = .ok (.iinc 2 1, 3) := by decide +kernel
theorem dX7_measure_44 : decode cX7_measure 44 = .ok (.goto (-37), 3) := by decide +kernel
theorem dX7_measure_47 : decode cX7_measure 47 = .ok (.return_, 1) := by decide +kernel
theorem dX7_takeRoads_0 : decode cX7_takeRoads 0 = .ok (.iconst 0, 1) := by decide +kernel
theorem dX7_takeRoads_1 : decode cX7_takeRoads 1 = .ok (.istore_n 2, 1) := by decide +kernel
theorem dX7_takeRoads_2 : decode cX7_takeRoads 2 = .ok (.iload_n 2, 1) := by decide +kernel
theorem dX7_takeRoads_3 : decode cX7_takeRoads 3 = .ok (.aload_n 1, 1) := by decide +kernel
theorem dX7_takeRoads_4 : decode cX7_takeRoads 4 = .ok (.getfield 19, 3) := by decide +kernel
theorem dX7_takeRoads_7 : decode cX7_takeRoads 7 = .ok (.if_icmp .ge 68, 3) := by decide +kernel
theorem dX7_takeRoads_10 : decode cX7_takeRoads 10 = .ok (.iconst 0, 1) := by decide +kernel
theorem dX7_takeRoads_11 : decode cX7_takeRoads 11 = .ok (.istore_n 3, 1) := by decide +kernel
theorem dX7_takeRoads_12 : decode cX7_takeRoads 12 = .ok (.iload_n 3, 1) := by decide +kernel
theorem dX7_takeRoads_13 : decode cX7_takeRoads 13 = .ok (.aload_n 1, 1) := by decide +kernel
theorem dX7_takeRoads_14 : decode cX7_takeRoads 14 = .ok (.getfield 19, 3) := by decide +kernel
theorem dX7_takeRoads_17 : decode cX7_takeRoads 17 = .ok (.if_icmp .ge 40, 3) := by decide +kernel
theorem dX7_takeRoads_20 : decode cX7_takeRoads 20 = .ok (.aload_n 1, 1) := by decide +kernel
theorem dX7_takeRoads_21 : decode cX7_takeRoads 21 = .ok (.iload_n 2, 1) := by decide +kernel
theorem dX7_takeRoads_22 : decode cX7_takeRoads 22 = .ok (.iload_n 3, 1) := by decide +kernel
theorem dX7_takeRoads_23 : decode cX7_takeRoads 23 = .ok (.invokevirtual 29, 3) := by decide +kernel
theorem dX7_takeRoads_26 : decode cX7_takeRoads 26 = .ok (.istore 4, 2) := by decide +kernel
theorem dX7_takeRoads_28 : decode cX7_takeRoads 28 = .ok (.aload_n 0, 1) := by decide +kernel
theorem dX7_takeRoads_29 : decode cX7_takeRoads 29 = .ok (.getfield 9, 3) := by decide +kernel
theorem dX7_takeRoads_32 : decode cX7_takeRoads 32 = .ok (.iload_n 2, 1) := by decide +kernel
theorem dX7_takeRoads_33 : decode cX7_takeRoads 33 = .ok (.bipush 12, 2) := by decide +kernel
theorem dX7_takeRoads_35 : decode cX7_takeRoads 35 = .ok (.imul, 1) := by decide +kernel
theorem dX7_takeRoads_36 : decode cX7_takeRoads 36 = .ok (.iload_n 3, 1) := by decide +kernel
theorem dX7_takeRoads_37 : decode cX7_takeRoads 37 = .ok (.iadd, 1) := by decide +kernel
theorem dX7_takeRoads_38 : decode cX7_takeRoads 38 = .ok (.iload 4, 2) := by decide +kernel
theorem dX7_takeRoads_40 : decode cX7_takeRoads 40 = .ok (.ifCond .le 8, 3) := by decide +kernel
theorem dX7_takeRoads_43 : decode cX7_takeRoads 43 = .ok (.iload 4, 2) := by decide +kernel
theorem dX7_takeRoads_45 : decode cX7_takeRoads 45 = .ok (.goto 5, 3) := by decide +kernel
theorem dX7_takeRoads_48 : decode cX7_takeRoads 48 = .ok (.ldc 33, 2) := by decide +kernel
theorem dX7_takeRoads_50 : decode cX7_takeRoads 50 = .ok (.iastore, 1) := by decide +kernel
theorem dX7_takeRoads_51 : decode cX7_takeRoads 51 = .ok (.iinc 3 1, 3) := by decide +kernel
theorem dX7_takeRoads_54 : decode cX7_takeRoads 54 = .ok (.goto (-42), 3) := by decide +kernel
theorem dX7_takeRoads_57 : decode cX7_takeRoads 57 = .ok (.aload_n 0, 1) := by decide +kernel
theorem dX7_takeRoads_58 : decode cX7_takeRoads 58 = .ok (.getfield 9, 3) := by decide +kernel
theorem dX7_takeRoads_61 : decode cX7_takeRoads 61 = .ok (.iload_n 2, 1) := by decide +kernel
theorem dX7_takeRoads_62 : decode cX7_takeRoads 62 = .ok (.bipush 12, 2) := by decide +kernel
theorem dX7_takeRoads_64 : decode cX7_takeRoads 64 = .ok (.imul, 1) := by decide +kernel
theorem dX7_takeRoads_65 : decode cX7_takeRoads 65 = .ok (.iload_n 2, 1) := by decide +kernel
theorem dX7_takeRoads_66 : decode cX7_takeRoads 66 = .ok (.iadd, 1) := by decide +kernel
theorem dX7_takeRoads_67 : decode cX7_takeRoads 67 = .ok (.iconst 0, 1) := by decide +kernel
theorem dX7_takeRoads_68 : decode cX7_takeRoads 68 = .ok (.iastore, 1) := by decide +kernel
theorem dX7_takeRoads_69 : decode cX7_takeRoads 69 = .ok (.iinc 2 1, 3) := by decide +kernel
theorem dX7_takeRoads_72 : decode cX7_takeRoads 72 = .ok (.goto (-70), 3) := by decide +kernel
theorem dX7_takeRoads_75 : decode cX7_takeRoads 75 = .ok (.return_, 1) := by decide +kernel
theorem dX7_shorten_0 : decode cX7_shorten 0 = .ok (.aload_n 0, 1) := by decide +kernel
theorem dX7_shorten_1 : decode cX7_shorten 1 = .ok (.iload_n 1, 1) := by decide +kernel
theorem dX7_shorten_2 : decode cX7_shorten 2 = .ok (.iload_n 2, 1) := by decide +kernel
theorem dX7_shorten_3 : decode cX7_shorten 3 = .ok (.invokevirtual 34, 3) := by decide +kernel
theorem dX7_shorten_6 : decode cX7_shorten 6 = .ok (.istore 4, 2) := by decide +kernel
theorem dX7_shorten_8 : decode cX7_shorten 8 = .ok (.iload 4, 2) := by decide +kernel
theorem dX7_shorten_10 : decode cX7_shorten 10 = .ok (.ldc 33, 2) := by decide +kernel
theorem dX7_shorten_12 : decode cX7_shorten 12 = .ok (.if_icmp .ne 4, 3) := by decide +kernel
theorem dX7_shorten_15 : decode cX7_shorten 15 = .ok (.return_, 1) := by decide +kernel
theorem dX7_shorten_16 : decode cX7_shorten 16 = .ok (.iconst 0, 1) := by decide +kernel
theorem dX7_shorten_17 : decode cX7_shorten 17 = .ok (.istore 5, 2) := by decide +kernel
theorem dX7_shorten_19 : decode cX7_shorten 19 = .ok (.iload 5, 2) := by decide +kernel
theorem dX7_shorten_21 : decode cX7_shorten 21 = .ok (.iload_n 3, 1) := by decide +kernel
theorem dX7_shorten_22 : decode cX7_shorten 22 = .ok (.if_icmp .ge 47, 3) := by decide +kernel
theorem dX7_shorten_25 : decode cX7_shorten 25 = .ok (.iload 4, 2) := by decide +kernel
theorem dX7_shorten_27 : decode cX7_shorten 27 = .ok (.aload_n 0, 1) := by decide +kernel
theorem dX7_shorten_28 : decode cX7_shorten 28 = .ok (.iload_n 2, 1) := by decide +kernel
theorem dX7_shorten_29 : decode cX7_shorten 29 = .ok (.iload 5, 2) := by decide +kernel
theorem dX7_shorten_31 : decode cX7_shorten 31 = .ok (.invokevirtual 34, 3) := by decide +kernel
theorem dX7_shorten_34 : decode cX7_shorten 34 = .ok (.iadd, 1) := by decide +kernel
theorem dX7_shorten_35 : decode cX7_shorten 35 = .ok (.istore 6, 2) := by decide +kernel
theorem dX7_shorten_37 : decode cX7_shorten 37 = .ok (.iload 6, 2) := by decide +kernel
theorem dX7_shorten_39 : decode cX7_shorten 39 = .ok (.aload_n 0, 1) := by decide +kernel
theorem dX7_shorten_40 : decode cX7_shorten 40 = .ok (.iload_n 1, 1) := by decide +kernel
theorem dX7_shorten_41 : decode cX7_shorten 41 = .ok (.iload 5, 2) := by decide +kernel
theorem dX7_shorten_43 : decode cX7_shorten 43 = .ok (.invokevirtual 34, 3) := by decide +kernel
theorem dX7_shorten_46 : decode cX7_shorten 46 = .ok (.if_icmp .ge 17, 3) := by decide +kernel
theorem dX7_shorten_49 : decode cX7_shorten 49 = .ok (.aload_n 0, 1) := by decide +kernel
theorem dX7_shorten_50 : decode cX7_shorten 50 = .ok (.getfield 9, 3) := by decide +kernel
theorem dX7_shorten_53 : decode cX7_shorten 53 = .ok (.iload_n 1, 1) := by decide +kernel
theorem dX7_shorten_54 : decode cX7_shorten 54 = .ok (.bipush 12, 2) := by decide +kernel
theorem dX7_shorten_56 : decode cX7_shorten 56 = .ok (.imul, 1) := by decide +kernel
theorem dX7_shorten_57 : decode cX7_shorten 57 = .ok (.iload 5, 2) := by decide +kernel
theorem dX7_shorten_59 : decode cX7_shorten 59 = .ok (.iadd, 1) := by decide +kernel
theorem dX7_shorten_60 : decode cX7_shorten 60 = .ok (.iload 6, 2) := by decide +kernel
theorem dX7_shorten_62 : decode cX7_shorten 62 = .ok (.iastore, 1) := by decide +kernel
theorem dX7_shorten_63 : decode cX7_shorten 63 = .ok (.iinc 5 1, 3) := by decide +kernel
theorem dX7_shorten_66 : decode cX7_shorten 66 = .ok (.goto (-47), 3) := by decide +kernel
theorem dX7_shorten_69 : decode cX7_shorten 69 = .ok (.return_, 1) := by decide +kernel
theorem dX7_villageAt_0 : decode cX7_villageAt 0 = .ok (.iload_n 2, 1) := by decide +kernel
theorem dX7_villageAt_1 : decode cX7_villageAt 1 = .ok (.istore 5, 2) := by decide +kernel
theorem dX7_villageAt_3 : decode cX7_villageAt 3 = .ok (.iconst 0, 1) := by decide +kernel
theorem dX7_villageAt_4 : decode cX7_villageAt 4 = .ok (.istore 6, 2) := by decide +kernel
theorem dX7_villageAt_6 : decode cX7_villageAt 6 = .ok (.iload 6, 2) := by decide +kernel
theorem dX7_villageAt_8 : decode cX7_villageAt 8 = .ok (.iload 4, 2) := by decide +kernel
theorem dX7_villageAt_10 : decode cX7_villageAt 10 = .ok (.if_icmp .ge 47, 3) := by decide +kernel
theorem dX7_villageAt_13 : decode cX7_villageAt 13 = .ok (.iload 6, 2) := by decide +kernel
theorem dX7_villageAt_15 : decode cX7_villageAt 15 = .ok (.bipush 12, 2) := by decide +kernel
theorem dX7_villageAt_17 : decode cX7_villageAt 17 = .ok (.if_icmp .ge 40, 3) := by decide +kernel
theorem dX7_villageAt_20 : decode cX7_villageAt 20 = .ok (.iload 5, 2) := by decide +kernel
theorem dX7_villageAt_22 : decode cX7_villageAt 22 = .ok (.iload_n 3, 1) := by decide +kernel
theorem dX7_villageAt_23 : decode cX7_villageAt 23 = .ok (.if_icmp .ne 8, 3) := by decide +kernel
theorem dX7_villageAt_26 : decode cX7_villageAt 26 = .ok (.bipush (-4), 2) := by decide +kernel
theorem dX7_villageAt_28 : decode cX7_villageAt 28 = .ok (.goto 11, 3) := by decide +kernel
theorem dX7_villageAt_31 : decode cX7_villageAt 31 = .ok (.aload_n 0, 1) := by decide +kernel
theorem dX7_villageAt_32 : decode cX7_villageAt 32 = .ok (.aload_n 1, 1) := by decide +kernel
theorem dX7_villageAt_33 : decode cX7_villageAt 33 = .ok (.iload 5, 2) := by decide +kernel
theorem dX7_villageAt_35 : decode cX7_villageAt 35 = .ok (.iload_n 3, 1) := by decide +kernel
theorem dX7_villageAt_36 : decode cX7_villageAt 36 = .ok (.invokevirtual 37, 3) := by decide +kernel
theorem dX7_villageAt_39 : decode cX7_villageAt 39 = .ok (.istore 5, 2) := by decide +kernel
theorem dX7_villageAt_41 : decode cX7_villageAt 41 = .ok (.iload 5, 2) := by decide +kernel
theorem dX7_villageAt_43 : decode cX7_villageAt 43 = .ok (.bipush (-4), 2) := by decide +kernel
theorem dX7_villageAt_45 : decode cX7_villageAt 45 = .ok (.if_icmp .ne 6, 3) := by decide +kernel
theorem dX7_villageAt_48 : decode cX7_villageAt 48 = .ok (.bipush (-4), 2) := by decide +kernel
theorem dX7_villageAt_50 : decode cX7_villageAt 50 = .ok (.ireturn, 1) := by decide +kernel
theorem dX7_villageAt_51 : decode cX7_villageAt 51 = .ok (.iinc 6 1, 3) := by decide +kernel
theorem dX7_villageAt_54 : decode cX7_villageAt 54 = .ok (.goto (-48), 3) := by decide +kernel
theorem dX7_villageAt_57 : decode cX7_villageAt 57 = .ok (.iload 5, 2) := by decide +kernel
theorem dX7_villageAt_59 : decode cX7_villageAt 59 = .ok (.ireturn, 1) := by decide +kernel
theorem dX7_nextOf_0 : decode cX7_nextOf 0 = .ok (.iconst 0, 1) := by decide +kernel
theorem dX7_nextOf_1 : decode cX7_nextOf 1 = .ok (.istore 4, 2) := by decide +kernel
theorem dX7_nextOf_3 : decode cX7_nextOf 3 = .ok (.iload 4, 2) := by decide +kernel
theorem dX7_nextOf_5 : decode cX7_nextOf 5 = .ok (.aload_n 1, 1) := by decide +kernel
theorem dX7_nextOf_6 : decode cX7_nextOf 6 = .ok (.getfield 19, 3) := by decide +kernel
theorem dX7_nextOf_9 : decode cX7_nextOf 9 = .ok (.if_icmp .ge 45, 3) := by decide +kernel
theorem dX7_nextOf_12 : decode cX7_nextOf 12 = .ok (.aload_n 1, 1) := by decide +kernel
theorem dX7_nextOf_13 : decode cX7_nextOf 13 = .ok (.iload_n 2, 1) := by decide +kernel
theorem dX7_nextOf_14 : decode cX7_nextOf 14 = .ok (.iload 4, 2) := by decide +kernel
theorem dX7_nextOf_16 : decode cX7_nextOf 16 = .ok (.invokevirtual 29, 3) := by decide +kernel
theorem dX7_nextOf_19 : decode cX7_nextOf 19 = .ok (.istore 5, 2) := by decide +kernel
theorem dX7_nextOf_21 : decode cX7_nextOf 21 = .ok (.iload 5, 2) := by decide +kernel
theorem dX7_nextOf_23 : decode cX7_nextOf 23 = .ok (.ifCond .le 25, 3) := by decide +kernel
theorem dX7_nextOf_26 : decode cX7_nextOf 26 = .ok (.iload 5, 2) := by decide +kernel
theorem dX7_nextOf_28 : decode cX7_nextOf 28 = .ok (.aload_n 0, 1) := by decide +kernel
theorem dX7_nextOf_29 : decode cX7_nextOf 29 = .ok (.iload 4, 2) := by decide +kernel
theorem dX7_nextOf_31 : decode cX7_nextOf 31 = .ok (.iload_n 3, 1) := by decide +kernel
theorem dX7_nextOf_32 : decode cX7_nextOf 32 = .ok (.invokevirtual 34, 3) := by decide +kernel
theorem dX7_nextOf_35 : decode cX7_nextOf 35 = .ok (.iadd, 1) := by decide +kernel
theorem dX7_nextOf_36 : decode cX7_nextOf 36 = .ok (.aload_n 0, 1) := by decide +kernel
theorem dX7_nextOf_37 : decode cX7_nextOf 37 = .ok (.iload_n 2, 1) := by decide +kernel
theorem dX7_nextOf_38 : decode cX7_nextOf 38 = .ok (.iload_n 3, 1) := by decide +kernel
theorem dX7_nextOf_39 : decode cX7_nextOf 39 = .ok (.invokevirtual 34, 3) := by decide +kernel
theorem dX7_nextOf_42 : decode cX7_nextOf 42 = .ok (.if_icmp .ne 6, 3) := by decide +kernel
theorem dX7_nextOf_45 : decode cX7_nextOf 45 = .ok (.iload 4, 2) := by decide +kernel
theorem dX7_nextOf_47 : decode cX7_nextOf 47 = .ok (.ireturn, 1) := by decide +kernel
theorem dX7_nextOf_48 : decode cX7_nextOf 48 = .ok (.iinc 4 1, 3) := by decide +kernel
theorem dX7_nextOf_51 : decode cX7_nextOf 51 = .ok (.goto (-48), 3) := by decide +kernel
theorem dX7_nextOf_54 : decode cX7_nextOf 54 = .ok (.bipush (-4), 2) := by decide +kernel
theorem dX7_nextOf_56 : decode cX7_nextOf 56 = .ok (.ireturn, 1) := by decide +kernel
theorem dJ6_bitCount_0f7a4_0 : decode cJ6_bitCount_0f7a4 0 = .ok (.iload_n 0, 1) := by decide +kernel
theorem dJ6_bitCount_0f7a4_1 : decode cJ6_bitCount_0f7a4 1 = .ok (.iload_n 0, 1) := by decide +kernel
theorem dJ6_bitCount_0f7a4_2 : decode cJ6_bitCount_0f7a4 2 = .ok (.iconst 1, 1) := by decide +kernel
theorem dJ6_bitCount_0f7a4_3 : decode cJ6_bitCount_0f7a4 3 = .ok (.iushr, 1) := by decide +kernel
theorem dJ6_bitCount_0f7a4_4 : decode cJ6_bitCount_0f7a4 4 = .ok (.ldc_w 265, 3) := by decide +kernel
theorem dJ6_bitCount_0f7a4_7 : decode cJ6_bitCount_0f7a4 7 = .ok (.iand, 1) := by decide +kernel
theorem dJ6_bitCount_0f7a4_8 : decode cJ6_bitCount_0f7a4 8 = .ok (.isub, 1) := by decide +kernel
theorem dJ6_bitCount_0f7a4_9 : decode cJ6_bitCount_0f7a4 9 = .ok (.istore_n 0, 1) := by decide +kernel
theorem dJ6_bitCount_0f7a4_10 : decode cJ6_bitCount_0f7a4 10 = .ok (.iload_n 0, 1) := by decide +kernel
theorem dJ6_bitCount_0f7a4_11 : decode cJ6_bitCount_0f7a4 11 = .ok (.ldc_w 266, 3) := by decide +kernel
theorem dJ6_bitCount_0f7a4_14 : decode cJ6_bitCount_0f7a4 14 = .ok (.iand, 1) := by decide +kernel
theorem dJ6_bitCount_0f7a4_15 : decode cJ6_bitCount_0f7a4 15 = .ok (.iload_n 0, 1) := by decide +kernel
theorem dJ6_bitCount_0f7a4_16 : decode cJ6_bitCount_0f7a4 16 = .ok (.iconst 2, 1) := by decide +kernel
theorem dJ6_bitCount_0f7a4_17 : decode cJ6_bitCount_0f7a4 17 = .ok (.iushr, 1) := by decide +kernel
theorem dJ6_bitCount_0f7a4_18 : decode cJ6_bitCount_0f7a4 18 = .ok (.ldc_w 266, 3) := by decide +kernel
theorem dJ6_bitCount_0f7a4_21 : decode cJ6_bitCount_0f7a4 21 = .ok (.iand, 1) := by decide +kernel
theorem dJ6_bitCount_0f7a4_22 : decode cJ6_bitCount_0f7a4 22 = .ok (.iadd, 1) := by decide +kernel
theorem dJ6_bitCount_0f7a4_23 : decode cJ6_bitCount_0f7a4 23 = .ok (.istore_n 0, 1) := by decide +kernel
theorem dJ6_bitCount_0f7a4_24 : decode cJ6_bitCount_0f7a4 24 = .ok (.iload_n 0, 1) := by decide +kernel
theorem dJ6_bitCount_0f7a4_25 : decode cJ6_bitCount_0f7a4 25 = .ok (.iload_n 0, 1) := by decide +kernel
theorem dJ6_bitCount_0f7a4_26 : decode cJ6_bitCount_0f7a4 26 = .ok (.iconst 4, 1) := by decide +kernel
theorem dJ6_bitCount_0f7a4_27 : decode cJ6_bitCount_0f7a4 27 = .ok (.iushr, 1) := by decide +kernel
theorem dJ6_bitCount_0f7a4_28 : decode cJ6_bitCount_0f7a4 28 = .ok (.iadd, 1) := by decide +kernel
theorem dJ6_bitCount_0f7a4_29 : decode cJ6_bitCount_0f7a4 29 = .ok (.ldc_w 267, 3) := by decide +kernel
theorem dJ6_bitCount_0f7a4_32 : decode cJ6_bitCount_0f7a4 32 = .ok (.iand, 1) := by decide +kernel
theorem dJ6_bitCount_0f7a4_33 : decode cJ6_bitCount_0f7a4 33 = .ok (.istore_n 0, 1) := by decide +kernel
theorem dJ6_bitCount_0f7a4_34 : decode cJ6_bitCount_0f7a4 34 = .ok (.iload_n 0, 1) := by decide +kernel
theorem dJ6_bitCount_0f7a4_35 : decode cJ6_bitCount_0f7a4 35 = .ok (.iload_n 0, 1) := by decide +kernel
theorem dJ6_bitCount_0f7a4_36 : decode cJ6_bitCount_0f7a4 36 = .ok (.bipush 8, 2) := by decide +kernel
theorem dJ6_bitCount_0f7a4_38 : decode cJ6_bitCount_0f7a4 38 = .ok (.iushr, 1) := by decide +kernel
theorem dJ6_bitCount_0f7a4_39 : decode cJ6_bitCount_0f7a4 39 = .ok (.iadd, 1) := by decide +kernel
theorem dJ6_bitCount_0f7a4_40 : decode cJ6_bitCount_0f7a4 40 = .ok (.istore_n 0, 1) := by decide +kernel
theorem dJ6_bitCount_0f7a4_41 : decode cJ6_bitCount_0f7a4 41 = .ok (.iload_n 0, 1) := by decide +kernel
theorem dJ6_bitCount_0f7a4_42 : decode cJ6_bitCount_0f7a4 42 = .ok (.iload_n 0, 1) := by decide +kernel
theorem dJ6_bitCount_0f7a4_43 : decode cJ6_bitCount_0f7a4 43 = .ok (.bipush 16, 2) := by decide +kernel
theorem dJ6_bitCount_0f7a4_45 : decode cJ6_bitCount_0f7a4 45 = .ok (.iushr, 1) := by decide +kernel
theorem dJ6_bitCount_0f7a4_46 : decode cJ6_bitCount_0f7a4 46 = .ok (.iadd, 1) := by decide +kernel
theorem dJ6_bitCount_0f7a4_47 : decode cJ6_bitCount_0f7a4 47 = .ok (.istore_n 0, 1) := by decide +kernel
theorem dJ6_bitCount_0f7a4_48 : decode cJ6_bitCount_0f7a4 48 = .ok (.iload_n 0, 1) := by decide +kernel
theorem dJ6_bitCount_0f7a4_49 : decode cJ6_bitCount_0f7a4 49 = .ok (.bipush 63, 2) := by decide +kernel
theorem dJ6_bitCount_0f7a4_51 : decode cJ6_bitCount_0f7a4 51 = .ok (.iand, 1) := by decide +kernel
theorem dJ6_bitCount_0f7a4_52 : decode cJ6_bitCount_0f7a4 52 = .ok (.ireturn, 1) := by decide +kernel
theorem dJ9_max_7cf53_0 : decode cJ9_max_7cf53 0 = .ok (.iload_n 0, 1) := by decide +kernel
theorem dJ9_max_7cf53_1 : decode cJ9_max_7cf53 1 = .ok (.iload_n 1, 1) := by decide +kernel
theorem dJ9_max_7cf53_2 : decode cJ9_max_7cf53 2 = .ok (.if_icmp .lt 7, 3) := by decide +kernel
theorem dJ9_max_7cf53_5 : decode cJ9_max_7cf53 5 = .ok (.iload_n 0, 1) := by decide +kernel
theorem dJ9_max_7cf53_6 : decode cJ9_max_7cf53 6 = .ok (.goto 4, 3) := by decide +kernel
theorem dJ9_max_7cf53_9 : decode cJ9_max_7cf53 9 = .ok (.iload_n 1, 1) := by decide +kernel
theorem dJ9_max_7cf53_10 : decode cJ9_max_7cf53 10 = .ok (.ireturn, 1) := by decide +kernel
theorem dJ9_max_f86c9_0 : decode cJ9_max_f86c9 0 = .ok (.lload_n 0, 1) := by decide +kernel
theorem dJ9_max_f86c9_1 : decode cJ9_max_f86c9 1 = .ok (.lload_n 2, 1) := by decide +kernel
theorem dJ9_max_f86c9_2 : decode cJ9_max_f86c9 2 = .ok (.lcmp, 1) := by decide +kernel
theorem dJ9_max_f86c9_3 : decode cJ9_max_f86c9 3 = .ok (.ifCond .lt 7, 3) := by decide +kernel
theorem dJ9_max_f86c9_6 : decode cJ9_max_f86c9 6 = .ok (.lload_n 0, 1) := by decide +kernel
theorem dJ9_max_f86c9_7 : decode cJ9_max_f86c9 7 = .ok (.goto 4, 3) := by decide +kernel
theorem dJ9_max_f86c9_10 : decode cJ9_max_f86c9 10 = .ok (.lload_n 2, 1) := by decide +kernel
theorem dJ9_max_f86c9_11 : decode cJ9_max_f86c9 11 = .ok (.lreturn, 1) := by decide +kernel
theorem dJ9_min_7cf53_0 : decode cJ9_min_7cf53 0 = .ok (.iload_n 0, 1) := by decide +kernel
theorem dJ9_min_7cf53_1 : decode cJ9_min_7cf53 1 = .ok (.iload_n 1, 1) := by decide +kernel
theorem dJ9_min_7cf53_2 : decode cJ9_min_7cf53 2 = .ok (.if_icmp .gt 7, 3) := by decide +kernel
theorem dJ9_min_7cf53_5 : decode cJ9_min_7cf53 5 = .ok (.iload_n 0, 1) := by decide +kernel
theorem dJ9_min_7cf53_6 : decode cJ9_min_7cf53 6 = .ok (.goto 4, 3) := by decide +kernel
theorem dJ9_min_7cf53_9 : decode cJ9_min_7cf53 9 = .ok (.iload_n 1, 1) := by decide +kernel
theorem dJ9_min_7cf53_10 : decode cJ9_min_7cf53 10 = .ok (.ireturn, 1) := by decide +kernel
theorem dJ9_min_f86c9_0 : decode cJ9_min_f86c9 0 = .ok (.lload_n 0, 1) := by decide +kernel
theorem dJ9_min_f86c9_1 : decode cJ9_min_f86c9 1 = .ok (.lload_n 2, 1) := by decide +kernel
theorem dJ9_min_f86c9_2 : decode cJ9_min_f86c9 2 = .ok (.lcmp, 1) := by decide +kernel
theorem dJ9_min_f86c9_3 : decode cJ9_min_f86c9 3 = .ok (.ifCond .gt 7, 3) := by decide +kernel
theorem dJ9_min_f86c9_6 : decode cJ9_min_f86c9 6 = .ok (.lload_n 0, 1) := by decide +kernel
theorem dJ9_min_f86c9_7 : decode cJ9_min_f86c9 7 = .ok (.goto 4, 3) := by decide +kernel
theorem dJ9_min_f86c9_10 : decode cJ9_min_f86c9 10 = .ok (.lload_n 2, 1) := by decide +kernel
theorem dJ9_min_f86c9_11 : decode cJ9_min_f86c9 11 = .ok (.lreturn, 1) := by decide +kernel
end
section
theorem dX8_init_0 : decode cX8_init 0 = .ok (.aload_n 0, 1) := by decide +kernel
theorem dX8_init_1 : decode cX8_init 1 = .ok (.invokespecial 5, 3) := by decide +kernel
theorem dX8_init_4 : decode cX8_init 4 = .ok (.aload_n 0, 1) := by decide +kernel
theorem dX8_init_5 : decode cX8_init 5 = .ok (.new 11, 3) := by decide +kernel
theorem dX8_init_8 : decode cX8_init 8 = .ok (.dup, 1) := by decide +kernel
theorem dX8_init_9 : decode cX8_init 9 = .ok (.invokespecial 13, 3) := by decide +kernel
theorem dX8_init_12 : decode cX8_init 12 = .ok (.putfield 14, 3) := by decide +kernel
theorem dX8_init_15 : decode cX8_init 15 = .ok (.aload_n 0, 1) := by decide +kernel
theorem dX8_init_16 : decode cX8_init 16 = .ok (.new 18, 3) := by decide +kernel
theorem dX8_init_19 : decode cX8_init 19 = .ok (.dup, 1) := by decide +kernel
theorem dX8_init_20 : decode cX8_init 20 = .ok (.invokespecial 20, 3) := by decide +kernel
theorem dX8_init_23 : decode cX8_init 23 = .ok (.putfield 21, 3) := by decide +kernel
theorem dX8_init_26 : decode cX8_init 26 = .ok (.aload_n 0, 1) := by decide +kernel
theorem dX8_init_27 : decode cX8_init 27 = .ok (.iconst 4, 1) := by decide +kernel
theorem dX8_init_28 : decode cX8_init 28 = .ok (.anewarray 25, 3) := by decide +kernel
theorem dX8_init_31 : decode cX8_init 31 = .ok (.putfield 27, 3) := by decide +kernel
theorem dX8_init_34 : decode cX8_init 34 = .ok (.aload_n 0, 1) := by decide +kernel
theorem dX8_init_35 : decode cX8_init 35 = .ok (.new 31, 3) := by decide +kernel
theorem dX8_init_38 : decode cX8_init 38 = .ok (.dup, 1) := by decide +kernel
theorem dX8_init_39 : decode cX8_init 39 = .ok (.invokespecial 33, 3) := by decide +kernel
theorem dX8_init_42 : decode cX8_init 42 = .ok (.putfield 34, 3) := by decide +kernel
theorem dX8_init_45 : decode cX8_init 45 = .ok (.aload_n 0, 1) := by decide +kernel
theorem dX8_init_46 : decode cX8_init 46 = .ok (.new 38, 3) := by decide +kernel
theorem dX8_init_49 : decode cX8_init 49 = .ok (.dup, 1) := by decide +kernel
theorem dX8_init_50 : decode cX8_init 50 = .ok (.aload_n 0, 1) := by decide +kernel
theorem dX8_init_51 : decode cX8_init 51 = .ok (.getfield 14, 3) := by decide +kernel
theorem dX8_init_54 : decode cX8_init 54 = .ok (.invokespecial 40, 3) := by decide +kernel
theorem dX8_init_57 : decode cX8_init 57 = .ok (.putfield 43, 3) := by decide +kernel
theorem dX8_init_60 : decode cX8_init 60 = .ok (.aload_n 0, 1) := by decide +kernel
theorem dX8_init_61 : decode cX8_init 61 = .ok (.new 47, 3) := by decide +kernel
theorem dX8_init_64 : decode cX8_init 64 = .ok (.dup, 1) := by decide +kernel
theorem dX8_init_65 : decode cX8_init 65 = .ok (.invokespecial 49, 3) := by decide +kernel
theorem dX8_init_68 : decode cX8_init 68 = .ok (.putfield 50, 3) := by decide +kernel
theorem dX8_init_71 : decode cX8_init 71 = .ok (.aload_n 0, 1) := by decide +kernel
theorem dX8_init_72 : decode cX8_init 72 = .ok (.new 54, 3) := by decide +kernel
theorem dX8_init_75 : decode cX8_init 75 = .ok (.dup, 1) := by decide +kernel
theorem dX8_init_76 : decode cX8_init 76 = .ok (.aload_n 0, 1) := by decide +kernel
theorem dX8_init_77 : decode cX8_init 77 = .ok (.getfield 43, 3) := by decide +kernel
theorem dX8_init_80 : decode cX8_init 80 = .ok (.invokespecial 56, 3) := by decide +kernel
theorem dX8_init_83 : decode cX8_init 83 = .ok (.putfield 59, 3) := by decide +kernel
theorem dX8_init_86 : decode cX8_init 86 = .ok (.aload_n 0, 1) := by decide +kernel
theorem dX8_init_87 : decode cX8_init 87 = .ok (.new 63, 3) := by decide +kernel
theorem dX8_init_90 : decode cX8_init 90 = .ok (.dup, 1) := by decide +kernel
theorem dX8_init_91 : decode cX8_init 91 = .ok (.aload_n 0, 1) := by decide +kernel
theorem dX8_init_92 : decode cX8_init 92 = .ok (.getfield 14, 3) := by decide +kernel
theorem dX8_init_95 : decode cX8_init 95 = .ok (.aload_n 0, 1) := by decide +kernel
theorem dX8_init_96 : decode cX8_init 96 = .ok (.getfield 43, 3) := by decide +kernel
theorem dX8_init_99 : decode cX8_init 99 = .ok (.invokespecial 65, 3) := by decide +kernel
theorem dX8_init_102 : decode cX8_init 102 = .ok (.putfield 68, 3) := by decide +kernel
theorem dX8_init_105 : decode cX8_init 105 = .ok (.aload_n 0, 1) := by decide +kernel
theorem dX8_init_106 : decode cX8_init 106 = .ok (.iconst 0, 1) := by decide +kernel
theorem dX8_init_107 : decode cX8_init 107 = .ok (.putfield 72, 3) := by decide +kernel
theorem dX8_init_110 : decode cX8_init 110 = .ok (.iconst 0, 1) := by decide +kernel
theorem dX8_init_111 : decode cX8_init 111 = .ok (.istore_n 1, 1) := by decide +kernel
theorem dX8_init_112 : decode cX8_init 112 = .ok (.iload_n 1, 1) := by decide +kernel
theorem dX8_init_113 : decode cX8_init 113 = .ok (.iconst 4, 1) := by decide +kernel
theorem dX8_init_114 : decode cX8_init 114 = .ok (.if_icmp .ge 22, 3) := by decide +kernel
theorem dX8_init_117 : decode cX8_init 117 = .ok (.aload_n 0, 1) := by decide +kernel
theorem dX8_init_118 : decode cX8_init 118 = .ok (.getfield 27, 3) := by decide +kernel
theorem dX8_init_121 : decode cX8_init 121 = .ok (.iload_n 1, 1) := by decide +kernel
theorem dX8_init_122 : decode cX8_init 122 = .ok (.new 25, 3) := by decide +kernel
theorem dX8_init_125 : decode cX8_init 125 = .ok (.dup, 1) := by decide +kernel
theorem dX8_init_126 : decode cX8_init 126 = .ok (.invokespecial 76, 3) := by decide +kernel
theorem dX8_init_129 : decode cX8_init 129 = .ok (.aastore, 1) := by decide +kernel
theorem dX8_init_130 : decode cX8_init 130 = .ok (.iinc 1 1, 3) := by decide +kernel
theorem dX8_init_133 : decode cX8_init 133 = .ok (.goto (-21), 3) := by decide +kernel
theorem dX8_init_136 : decode cX8_init 136 = .ok (.return_, 1) := by decide +kernel
theorem dX8_village_0 : decode cX8_village 0 = .ok (.iload_n 1, 1) := by decide +kernel
theorem dX8_village_1 : decode cX8_village 1 = .ok (.i2l, 1) := by decide +kernel
theorem dX8_village_2 : decode cX8_village 2 = .ok (.lconst 0, 1) := by decide +kernel
theorem dX8_village_3 : decode cX8_village 3 = .ok (.ldc2_w 77, 3) := by decide +kernel
theorem dX8_village_6 : decode cX8_village 6 = .ok (.invokestatic 79, 3) := by decide +kernel
theorem dX8_village_9 : decode cX8_village 9 = .ok (.ifCond .ne 5, 3) := by decide +kernel
theorem dX8_village_12 : decode cX8_village 12 = .ok (.iconst (-1), 1) := by decide +kernel
theorem dX8_village_13 : decode cX8_village 13 = .ok (.ireturn, 1) := by decide +kernel
theorem dX8_village_14 : decode cX8_village 14 = .ok (.aload_n 0, 1) := by decide +kernel
theorem dX8_village_15 : decode cX8_village 15 = .ok (.getfield 14, 3) := by decide +kernel
theorem dX8_village_18 : decode cX8_village 18 = .ok (.getfield 83, 3) := by decide +kernel
theorem dX8_village_21 : decode cX8_village 21 = .ok (.bipush 12, 2) := by decide +kernel
theorem dX8_village_23 : decode cX8_village 23 = .ok (.if_icmp .lt 6, 3) := by decide +kernel
theorem dX8_village_26 : decode cX8_village 26 = .ok (.bipush (-3), 2) := by decide +kernel
theorem dX8_village_28 : decode cX8_village 28 = .ok (.ireturn, 1) := by decide +kernel
theorem dX8_village_29 : decode cX8_village 29 = .ok (.aload_n 0, 1) := by decide +kernel
theorem dX8_village_30 : decode cX8_village 30 = .ok (.getfield 21, 3) := by decide +kernel
theorem dX8_village_33 : decode cX8_village 33 = .ok (.aload_n 0, 1) := by decide +kernel
theorem dX8_village_34 : decode cX8_village 34 = .ok (.getfield 14, 3) := by decide +kernel
theorem dX8_village_37 : decode cX8_village 37 = .ok (.invokevirtual 87, 3) := by decide +kernel
theorem dX8_village_40 : decode cX8_village 40 = .ok (.aload_n 0, 1) := by decide +kernel
theorem dX8_village_41 : decode cX8_village 41 = .ok (.getfield 14, 3) := by decide +kernel
theorem dX8_village_44 : decode cX8_village 44 = .ok (.iload_n 1, 1) := by decide +kernel
theorem dX8_village_45 : decode cX8_village 45 = .ok (.invokevirtual 90, 3) := by decide +kernel
theorem dX8_village_48 : decode cX8_village 48 = .ok (.istore_n 2, 1) := by decide +kernel
theorem dX8_village_49 : decode cX8_village 49 = .ok (.aload_n 0, 1) := by decide +kernel
theorem dX8_village_50 : decode cX8_village 50 = .ok (.invokevirtual 94, 3) := by decide +kernel
theorem dX8_village_53 : decode cX8_village 53 = .ok (.iload_n 2, 1) := by decide +kernel
theorem dX8_village_54 : decode cX8_village 54 = .ok (.ireturn, 1) := by decide +kernel
theorem dX8_loaves_0 : decode cX8_loaves 0 = .ok (.aload_n 0, 1) := by decide +kernel
theorem dX8_loaves_1 : decode cX8_loaves 1 = .ok (.getfield 14, 3) := by decide +kernel
theorem dX8_loaves_4 : decode cX8_loaves 4 = .ok (.iload_n 1, 1) := by decide +kernel
theorem dX8_loaves_5 : decode cX8_loaves 5 = .ok (.i2l, 1) := by decide +kernel
theorem dX8_loaves_6 : decode cX8_loaves 6 = .ok (.invokevirtual 97, 3) := by decide +kernel
theorem dX8_loaves_9 : decode cX8_loaves 9 = .ok (.ifCond .eq 15, 3) := by decide +kernel
theorem dX8_loaves_12 : decode cX8_loaves 12 = .ok (.iload_n 2, 1) := by decide +kernel
theorem dX8_loaves_13 : decode cX8_loaves 13 = .ok (.i2l, 1) := by decide +kernel
theorem dX8_loaves_14 : decode cX8_loaves 14 = .ok (.lconst 0, 1) := by decide +kernel
theorem dX8_loaves_15 : decode cX8_loaves 15 = .ok (.ldc2_w 77, 3) := by decide +kernel
theorem dX8_loaves_18 : decode cX8_loaves 18 = .ok (.invokestatic 79, 3) := by decide +kernel
theorem dX8_loaves_21 : decode cX8_loaves 21 = .ok (.ifCond .ne 5, 3) := by decide +kernel
theorem dX8_loaves_24 : decode cX8_loaves 24 = .ok (.iconst (-1), 1) := by decide +kernel
theorem dX8_loaves_25 : decode cX8_loaves 25 = .ok (.ireturn, 1) := by decide +kernel
theorem dX8_loaves_26 : decode cX8_loaves 26 = .ok (.aload_n 0, 1) := by decide +kernel
theorem dX8_loaves_27 : decode cX8_loaves 27 = .ok (.getfield 14, 3) := by decide +kernel
theorem dX8_loaves_30 : decode cX8_loaves 30 = .ok (.getfield 101, 3) := by decide +kernel
theorem dX8_loaves_33 : decode cX8_loaves 33 = .ok (.iload_n 1, 1) := by decide +kernel
theorem dX8_loaves_34 : decode cX8_loaves 34 = .ok (.iaload, 1) := by decide +kernel
theorem dX8_loaves_35 : decode cX8_loaves 35 = .ok (.istore_n 3, 1) := by decide +kernel
theorem dX8_loaves_36 : decode cX8_loaves 36 = .ok (.aload_n 0, 1) := by decide +kernel
theorem dX8_loaves_37 : decode cX8_loaves 37 = .ok (.getfield 21, 3) := by decide +kernel
theorem dX8_loaves_40 : decode cX8_loaves 40 = .ok (.aload_n 0, 1) := by decide +kernel
theorem dX8_loaves_41 : decode cX8_loaves 41 = .ok (.getfield 14, 3) := by decide +kernel
theorem dX8_loaves_44 : decode cX8_loaves 44 = .ok (.invokevirtual 87, 3) := by decide +kernel
theorem dX8_loaves_47 : decode cX8_loaves 47 = .ok (.aload_n 0, 1) := by decide +kernel
theorem dX8_loaves_48 : decode cX8_loaves 48 = .ok (.getfield 14, 3) := by decide +kernel
theorem dX8_loaves_51 : decode cX8_loaves 51 = .ok (.getfield 101, 3) := by decide +kernel
theorem dX8_loaves_54 : decode cX8_loaves 54 = .ok (.iload_n 1, 1) := by decide +kernel
theorem dX8_loaves_55 : decode cX8_loaves 55 = .ok (.iload_n 2, 1) := by decide +kernel
theorem dX8_loaves_56 : decode cX8_loaves 56 = .ok (.iastore, 1) := by decide +kernel
theorem dX8_loaves_57 : decode cX8_loaves 57 = .ok (.aload_n 0, 1) := by decide +kernel
theorem dX8_loaves_58 : decode cX8_loaves 58 = .ok (.invokevirtual 94, 3) := by decide +kernel
theorem dX8_loaves_61 : decode cX8_loaves 61 = .ok (.iload_n 3, 1) := by decide +kernel
theorem dX8_loaves_62 : decode cX8_loaves 62 = .ok (.ireturn, 1) := by decide +kernel
theorem dX8_road_0 : decode cX8_road 0 = .ok (.aload_n 0, 1) := by decide +kernel
theorem dX8_road_1 : decode cX8_road 1 = .ok (.getfield 14, 3) := by decide +kernel
theorem dX8_road_4 : decode cX8_road 4 = .ok (.iload_n 1, 1) := by decide +kernel
theorem dX8_road_5 : decode cX8_road 5 = .ok (.i2l, 1) := by decide +kernel
theorem dX8_road_6 : decode cX8_road 6 = .ok (.iload_n 2, 1) := by decide +kernel
theorem dX8_road_7 : decode cX8_road 7 = .ok (.i2l, 1) := by decide +kernel
theorem dX8_road_8 : decode cX8_road 8 = .ok (.iload_n 3, 1) := by decide +kernel
theorem dX8_road_9 : decode cX8_road 9 = .ok (.i2l, 1) := by decide +kernel
theorem dX8_road_10 : decode cX8_road 10 = .ok (.invokevirtual 105, 3) := by decide +kernel
theorem dX8_road_13 : decode cX8_road 13 = .ok (.ifCond .ne 5, 3) := by decide +kernel
theorem dX8_road_16 : decode cX8_road 16 = .ok (.iconst (-1), 1) := by decide +kernel
theorem dX8_road_17 : decode cX8_road 17 = .ok (.ireturn, 1) := by decide +kernel
theorem dX8_road_18 : decode cX8_road 18 = .ok (.aload_n 0, 1) := by decide +kernel
theorem dX8_road_19 : decode cX8_road 19 = .ok (.getfield 14, 3) := by decide +kernel
theorem dX8_road_22 : decode cX8_road 22 = .ok (.iload_n 1, 1) := by decide +kernel
theorem dX8_road_23 : decode cX8_road 23 = .ok (.iload_n 2, 1) := by decide +kernel
theorem dX8_road_24 : decode cX8_road 24 = .ok (.invokevirtual 108, 3) := by decide +kernel
theorem dX8_road_27 : decode cX8_road 27 = .ok (.istore 4, 2) := by decide +kernel
theorem dX8_road_29 : decode cX8_road 29 = .ok (.aload_n 0, 1) := by decide +kernel
theorem dX8_road_30 : decode cX8_road 30 = .ok (.getfield 21, 3) := by decide +kernel
theorem dX8_road_33 : decode cX8_road 33 = .ok (.aload_n 0, 1) := by decide +kernel
theorem dX8_road_34 : decode cX8_road 34 = .ok (.getfield 14, 3) := by decide +kernel
theorem dX8_road_37 : decode cX8_road 37 = .ok (.invokevirtual 87, 3) := by decide +kernel
theorem dX8_road_40 : decode cX8_road 40 = .ok (.aload_n 0, 1) := by decide +kernel
theorem dX8_road_41 : decode cX8_road 41 = .ok (.getfield 14, 3) := by decide +kernel
theorem dX8_road_44 : decode cX8_road 44 = .ok (.iload_n 1, 1) := by decide +kernel
theorem dX8_road_45 : decode cX8_road 45 = .ok (.iload_n 2, 1) := by decide +kernel
theorem dX8_road_46 : decode cX8_road 46 = .ok (.iload_n 3, 1) := by decide +kernel
theorem dX8_road_47 : decode cX8_road 47 = .ok (.invokevirtual 112, 3) := by decide +kernel
theorem dX8_road_50 : decode cX8_road 50 = .ok (.aload_n 0, 1) := by decide +kernel
theorem dX8_road_51 : decode cX8_road 51 = .ok (.invokevirtual 94, 3) := by decide +kernel
theorem dX8_road_54 : decode cX8_road 54 = .ok (.iload 4, 2) := by decide +kernel
theorem dX8_road_56 : decode cX8_road 56 = .ok (.ireturn, 1) := by decide +kernel
theorem dX8_place_0 : decode cX8_place 0 = .ok (.aload_n 0, 1) := by decide +kernel
theorem dX8_place_1 : decode cX8_place 1 = .ok (.getfield 14, 3) := by decide +kernel
theorem dX8_place_4 : decode cX8_place 4 = .ok (.iload_n 1, 1) := by decide +kernel
theorem dX8_place_5 : decode cX8_place 5 = .ok (.i2l, 1) := by decide +kernel
theorem dX8_place_6 : decode cX8_place 6 = .ok (.invokevirtual 97, 3) := by decide +kernel
theorem dX8_place_9 : decode cX8_place 9 = .ok (.ifCond .eq 27, 3) := by decide +kernel
theorem dX8_place_12 : decode cX8_place 12 = .ok (.iload_n 2, 1) := by decide +kernel
theorem dX8_place_13 : decode cX8_place 13 = .ok (.i2l, 1) := by decide +kernel
theorem dX8_place_14 : decode cX8_place 14 = .ok (.lconst 0, 1) := by decide +kernel
theorem dX8_place_15 : decode cX8_place 15 = .ok (.ldc2_w 116, 3) := by decide +kernel
theorem dX8_place_18 : decode cX8_place 18 = .ok (.invokestatic 79, 3) := by decide +kernel
theorem dX8_place_21 : decode cX8_place 21 = .ok (.ifCond .eq 15, 3) := by decide +kernel
theorem dX8_place_24 : decode cX8_place 24 = .ok (.iload_n 3, 1) := by decide +kernel
theorem dX8_place_25 : decode cX8_place 25 = .ok (.i2l, 1) := by decide +kernel
theorem dX8_place_26 : decode cX8_place 26 = .ok (.lconst 0, 1) := by decide +kernel
theorem dX8_place_27 : decode cX8_place 27 = .ok (.ldc2_w 118, 3) := by decide +kernel
theorem dX8_place_30 : decode cX8_place 30 = .ok (.invokestatic 79, 3) := by decide +kernel
theorem dX8_place_33 : decode cX8_place 33 = .ok (.ifCond .ne 5, 3) := by decide +kernel
theorem dX8_place_36 : decode cX8_place 36 = .ok (.iconst (-1), 1) := by decide +kernel
theorem dX8_place_37 : decode cX8_place 37 = .ok (.ireturn, 1) := by decide +kernel
theorem dX8_place_38 : decode cX8_place 38 = .ok (.aload_n 0, 1) := by decide +kernel
theorem dX8_place_39 : decode cX8_place 39 = .ok (.getfield 14, 3) := by decide +kernel
theorem dX8_place_42 : decode cX8_place 42 = .ok (.getfield 120, 3) := by decide +kernel
theorem dX8_place_45 : decode cX8_place 45 = .ok (.bipush 10, 2) := by decide +kernel
theorem dX8_place_47 : decode cX8_place 47 = .ok (.if_icmp .lt 6, 3) := by decide +kernel
theorem dX8_place_50 : decode cX8_place 50 = .ok (.bipush (-3), 2) := by decide +kernel
theorem dX8_place_52 : decode cX8_place 52 = .ok (.ireturn, 1) := by decide +kernel
theorem dX8_place_53 : decode cX8_place 53 = .ok (.aload_n 0, 1) := by decide +kernel
theorem dX8_place_54 : decode cX8_place 54 = .ok (.getfield 21, 3) := by decide +kernel
theorem dX8_place_57 : decode cX8_place 57 = .ok (.aload_n 0, 1) := by decide +kernel
theorem dX8_place_58 : decode cX8_place 58 = .ok (.getfield 14, 3) := by decide +kernel
theorem dX8_place_61 : decode cX8_place 61 = .ok (.invokevirtual 87, 3) := by decide +kernel
theorem dX8_place_64 : decode cX8_place 64 = .ok (.aload_n 0, 1) := by decide +kernel
theorem dX8_place_65 : decode cX8_place 65 = .ok (.getfield 14, 3) := by decide +kernel
theorem dX8_place_68 : decode cX8_place 68 = .ok (.iload_n 1, 1) := by decide +kernel
theorem dX8_place_69 : decode cX8_place 69 = .ok (.iload_n 2, 1) := by decide +kernel
theorem dX8_place_70 : decode cX8_place 70 = .ok (.iload_n 3, 1) := by decide +kernel
theorem dX8_place_71 : decode cX8_place 71 = .ok (.invokevirtual 123, 3) := by decide +kernel
theorem dX8_place_74 : decode cX8_place 74 = .ok (.istore 4, 2) := by decide +kernel
theorem dX8_place_76 : decode cX8_place 76 = .ok (.aload_n 0, 1) := by decide +kernel
theorem dX8_place_77 : decode cX8_place 77 = .ok (.invokevirtual 94, 3) := by decide +kernel
theorem dX8_place_80 : decode cX8_place 80 = .ok (.iload 4, 2) := by decide +kernel
theorem dX8_place_82 : decode cX8_place 82 = .ok (.ireturn, 1) := by decide +kernel
theorem dX8_reach_0 : decode cX8_reach 0 = .ok (.aload_n 0, 1) := by decide +kernel
theorem dX8_reach_1 : decode cX8_reach 1 = .ok (.getfield 14, 3) := by decide +kernel
theorem dX8_reach_4 : decode cX8_reach 4 = .ok (.iload_n 1, 1) := by decide +kernel
theorem dX8_reach_5 : decode cX8_reach 5 = .ok (.invokevirtual 127, 3) := by decide +kernel
theorem dX8_reach_8 : decode cX8_reach 8 = .ok (.ifCond .eq 15, 3) := by decide +kernel
theorem dX8_reach_11 : decode cX8_reach 11 = .ok (.iload_n 2, 1) := by decide +kernel
theorem dX8_reach_12 : decode cX8_reach 12 = .ok (.i2l, 1) := by decide +kernel
theorem dX8_reach_13 : decode cX8_reach 13 = .ok (.lconst 0, 1) := by decide +kernel
theorem dX8_reach_14 : decode cX8_reach 14 = .ok (.ldc2_w 131, 3) := by decide +kernel
theorem dX8_reach_17 : decode cX8_reach 17 = .ok (.invokestatic 79, 3) := by decide +kernel
theorem dX8_reach_20 : decode cX8_reach 20 = .ok (.ifCond .ne 5, 3) := by decide +kernel
theorem dX8_reach_23 : decode cX8_reach 23 = .ok (.iconst (-1), 1) := by decide +kernel
theorem dX8_reach_24 : decode cX8_reach 24 = .ok (.ireturn, 1) := by decide +kernel
theorem dX8_reach_25 : decode cX8_reach 25 = .ok (.aload_n 0, 1) := by decide +kernel
theorem dX8_reach_26 : decode cX8_reach 26 = .ok (.getfield 14, 3) := by decide +kernel
theorem dX8_reach_29 : decode cX8_reach 29 = .ok (.getfield 133, 3) := by decide +kernel
theorem dX8_reach_32 : decode cX8_reach 32 = .ok (.iload_n 1, 1) := by decide +kernel
theorem dX8_reach_33 : decode cX8_reach 33 = .ok (.iaload, 1) := by decide +kernel
theorem dX8_reach_34 : decode cX8_reach 34 = .ok (.iconst 4, 1) := by decide +kernel
theorem dX8_reach_35 : decode cX8_reach 35 = .ok (.if_icmp .eq 6, 3) := by decide +kernel
theorem dX8_reach_38 : decode cX8_reach 38 = .ok (.bipush (-2), 2) := by decide +kernel
theorem dX8_reach_40 : decode cX8_reach 40 = .ok (.ireturn, 1) := by decide +kernel
theorem dX8_reach_41 : decode cX8_reach 41 = .ok (.aload_n 0, 1) := by decide +kernel
theorem dX8_reach_42 : decode cX8_reach 42 = .ok (.getfield 14, 3) := by decide +kernel
theorem dX8_reach_45 : decode cX8_reach 45 = .ok (.getfield 136, 3) := by decide +kernel
theorem dX8_reach_48 : decode cX8_reach 48 = .ok (.iload_n 1, 1) := by decide +kernel
theorem dX8_reach_49 : decode cX8_reach 49 = .ok (.iaload, 1) := by decide +kernel
theorem dX8_reach_50 : decode cX8_reach 50 = .ok (.istore_n 3, 1) := by decide +kernel
theorem dX8_reach_51 : decode cX8_reach 51 = .ok (.aload_n 0, 1) := by decide +kernel
theorem dX8_reach_52 : decode cX8_reach 52 = .ok (.getfield 21, 3) := by decide +kernel
theorem dX8_reach_55 : decode cX8_reach 55 = .ok (.aload_n 0, 1) := by decide +kernel
theorem dX8_reach_56 : decode cX8_reach 56 = .ok (.getfield 14, 3) := by decide +kernel
theorem dX8_reach_59 : decode cX8_reach 59 = .ok (.invokevirtual 87, 3) := by decide +kernel
theorem dX8_reach_62 : decode cX8_reach 62 = .ok (.aload_n 0, 1) := by decide +kernel
theorem dX8_reach_63 : decode cX8_reach 63 = .ok (.getfield 14, 3) := by decide +kernel
theorem dX8_reach_66 : decode cX8_reach 66 = .ok (.getfield 136, 3) := by decide +kernel
theorem dX8_reach_69 : decode cX8_reach 69 = .ok (.iload_n 1, 1) := by decide +kernel
theorem dX8_reach_70 : decode cX8_reach 70 = .ok (.iload_n 2, 1) := by decide +kernel
theorem dX8_reach_71 : decode cX8_reach 71 = .ok (.iastore, 1) := by decide +kernel
theorem dX8_reach_72 : decode cX8_reach 72 = .ok (.aload_n 0, 1) := by decide +kernel
theorem dX8_reach_73 : decode cX8_reach 73 = .ok (.invokevirtual 94, 3) := by decide +kernel
theorem dX8_reach_76 : decode cX8_reach 76 = .ok (.iload_n 3, 1) := by decide +kernel
theorem dX8_reach_77 : decode cX8_reach 77 = .ok (.ireturn, 1) := by decide +kernel
theorem dX8_number_0 : decode cX8_number 0 = .ok (.iload_n 1, 1) := by decide +kernel
theorem dX8_number_1 : decode cX8_number 1 = .ok (.i2l, 1) := by decide +kernel
theorem dX8_number_2 : decode cX8_number 2 = .ok (.lconst 0, 1) := by decide +kernel
theorem dX8_number_3 : decode cX8_number 3 = .ok (.ldc2_w 139, 3) := by decide +kernel
theorem dX8_number_6 : decode cX8_number 6 = .ok (.invokestatic 79, 3) := by decide +kernel
theorem dX8_number_9 : decode cX8_number 9 = .ok (.ifCond .ne 5, 3) := by decide +kernel
theorem dX8_number_12 : decode cX8_number 12 = .ok (.iconst (-1), 1) := by decide +kernel
theorem dX8_number_13 : decode cX8_number 13 = .ok (.ireturn, 1) := by decide +kernel
theorem dX8_number_14 : decode cX8_number 14 = .ok (.aload_n 0, 1) := by decide +kernel
theorem dX8_number_15 : decode cX8_number 15 = .ok (.getfield 14, 3) := by decide +kernel
theorem dX8_number_18 : decode cX8_number 18 = .ok (.getfield 141, 3) := by decide +kernel
theorem dX8_number_21 : decode cX8_number 21 = .ok (.istore_n 2, 1) := by decide +kernel
theorem dX8_number_22 : decode cX8_number 22 = .ok (.aload_n 0, 1) := by decide +kernel
theorem dX8_number_23 : decode cX8_number 23 = .ok (.getfield 21, 3) := by decide +kernel
theorem dX8_number_26 : decode cX8_number 26 = .ok (.aload_n 0, 1) := by decide +kernel
theorem dX8_number_27 : decode cX8_number 27 = .ok (.getfield 14, 3) := by decide +kernel
theorem dX8_number_30 : decode cX8_number 30 = .ok (.invokevirtual 87, 3) := by decide +kernel
theorem dX8_number_33 : decode cX8_number 33 = .ok (.aload_n 0, 1) := by decide +kernel
theorem dX8_number_34 : decode cX8_number 34 = .ok (.getfield 14, 3) := by decide +kernel
theorem dX8_number_37 : decode cX8_number 37 = .ok (.iload_n 1, 1) := by decide +kernel
theorem dX8_number_38 : decode cX8_number 38 = .ok (.putfield 141, 3) := by decide +kernel
theorem dX8_number_41 : decode cX8_number 41 = .ok (.aload_n 0, 1) := by decide +kernel
theorem dX8_number_42 : decode cX8_number 42 = .ok (.invokevirtual 94, 3) := by decide +kernel
theorem dX8_number_45 : decode cX8_number 45 = .ok (.iload_n 2, 1) := by decide +kernel
theorem dX8_number_46 : decode cX8_number 46 = .ok (.ireturn, 1) := by decide +kernel
theorem dX8_map_0 : decode cX8_map 0 = .ok (.iload_n 1, 1) := by decide +kernel
theorem dX8_map_1 : decode cX8_map 1 = .ok (.invokestatic 144, 3) := by decide +kernel
theorem dX8_map_4 : decode cX8_map 4 = .ok (.ifCond .eq 16, 3) := by decide +kernel
theorem dX8_map_7 : decode cX8_map 7 = .ok (.iload_n 2, 1) := by decide +kernel
theorem dX8_map_8 : decode cX8_map 8 = .ok (.invokestatic 147, 3) := by decide +kernel
theorem dX8_map_11 : decode cX8_map 11 = .ok (.ifCond .eq 9, 3) := by decide +kernel
theorem dX8_map_14 : decode cX8_map 14 = .ok (.iload_n 3, 1) := by decide +kernel
theorem dX8_map_15 : decode cX8_map 15 = .ok (.bipush 60, 2) := by decide +kernel
theorem dX8_map_17 : decode cX8_map 17 = .ok (.if_icmp .le 5, 3) := by decide +kernel
theorem dX8_map_20 : decode cX8_map 20 = .ok (.iconst (-1), 1) := by decide +kernel
theorem dX8_map_21 : decode cX8_map 21 = .ok (.ireturn, 1) := by decide +kernel
theorem dX8_map_22 : decode cX8_map 22 = .ok (.iload_n 3, 1) := by decide +kernel
theorem dX8_map_23 : decode cX8_map 23 = .ok (.ifCond .ge 6, 3) := by decide +kernel
theorem dX8_map_26 : decode cX8_map 26 = .ok (.bipush (-14), 2) := by decide +kernel
theorem dX8_map_28 : decode cX8_map 28 = .ok (.ireturn, 1) := by decide +kernel
theorem dX8_map_29 : decode cX8_map 29 = .ok (.aload_n 0, 1) := by decide +kernel
theorem dX8_map_30 : decode cX8_map 30 = .ok (.getfield 27, 3) := by decide +kernel
theorem dX8_map_33 : decode cX8_map 33 = .ok (.iload_n 1, 1) := by decide +kernel
theorem dX8_map_34 : decode cX8_map 34 = .ok (.aaload, 1) := by decide +kernel
theorem dX8_map_35 : decode cX8_map 35 = .ok (.iload_n 2, 1) := by decide +kernel
theorem dX8_map_36 : decode cX8_map 36 = .ok (.iload_n 3, 1) := by decide +kernel
theorem dX8_map_37 : decode cX8_map 37 = .ok (.invokevirtual 150, 3) := by decide +kernel
theorem dX8_map_40 : decode cX8_map 40 = .ok (.iconst 1, 1) := by decide +kernel
theorem dX8_map_41 : decode cX8_map 41 = .ok (.ireturn, 1) := by decide +kernel
theorem dX8_lay_0 : decode cX8_lay 0 = .ok (.iload_n 1, 1) := by decide +kernel
theorem dX8_lay_1 : decode cX8_lay 1 = .ok (.invokestatic 144, 3) := by decide +kernel
theorem dX8_lay_4 : decode cX8_lay 4 = .ok (.ifCond .ne 5, 3) := by decide +kernel
theorem dX8_lay_7 : decode cX8_lay 7 = .ok (.iconst (-1), 1) := by decide +kernel
theorem dX8_lay_8 : decode cX8_lay 8 = .ok (.ireturn, 1) := by decide +kernel
theorem dX8_lay_9 : decode cX8_lay 9 = .ok (.aload_n 0, 1) := by decide +kernel
theorem dX8_lay_10 : decode cX8_lay 10 = .ok (.getfield 27, 3) := by decide +kernel
theorem dX8_lay_13 : decode cX8_lay 13 = .ok (.iload_n 1, 1) := by decide +kernel
theorem dX8_lay_14 : decode cX8_lay 14 = .ok (.aaload, 1) := by decide +kernel
theorem dX8_lay_15 : decode cX8_lay 15 = .ok (.getfield 154, 3) := by decide +kernel
theorem dX8_lay_18 : decode cX8_lay 18 = .ok (.iconst (-1), 1) := by decide +kernel
theorem dX8_lay_19 : decode cX8_lay 19 = .ok (.if_icmp .ne 6, 3) := by decide +kernel
theorem dX8_lay_22 : decode cX8_lay 22 = .ok (.bipush (-11), 2) := by decide +kernel
theorem dX8_lay_24 : decode cX8_lay 24 = .ok (.ireturn, 1) := by decide +kernel
theorem dX8_lay_25 : decode cX8_lay 25 = .ok (.iload_n 2, 1) := by decide +kernel
theorem dX8_lay_26 : decode cX8_lay 26 = .ok (.i2l, 1) := by decide +kernel
theorem dX8_lay_27 : decode cX8_lay 27 = .ok (.lconst 0, 1) := by decide +kernel
theorem dX8_lay_28 : decode cX8_lay 28 = .ok (.aload_n 0, 1) := by decide +kernel
theorem dX8_lay_29 : decode cX8_lay 29 = .ok (.getfield 27, 3) := by decide +kernel
theorem dX8_lay_32 : decode cX8_lay 32 = .ok (.iload_n 1, 1) := by decide +kernel
theorem dX8_lay_33 : decode cX8_lay 33 = .ok (.aaload, 1) := by decide +kernel
theorem dX8_lay_34 : decode cX8_lay 34 = .ok (.getfield 157, 3) := by decide +kernel
theorem dX8_lay_37 : decode cX8_lay 37 = .ok (.iconst 1, 1) := by decide +kernel
theorem dX8_lay_38 : decode cX8_lay 38 = .ok (.isub, 1) := by decide +kernel
theorem dX8_lay_39 : decode cX8_lay 39 = .ok (.i2l, 1) := by decide +kernel
theorem dX8_lay_40 : decode cX8_lay 40 = .ok (.invokestatic 79, 3) := by decide +kernel
theorem dX8_lay_43 : decode cX8_lay 43 = .ok (.ifCond .ne 6, 3) := by decide +kernel
theorem dX8_lay_46 : decode cX8_lay 46 = .ok (.bipush (-12), 2) := by decide +kernel
theorem dX8_lay_48 : decode cX8_lay 48 = .ok (.ireturn, 1) := by decide +kernel
theorem dX8_lay_49 : decode cX8_lay 49 = .ok (.aload_n 0, 1) := by decide +kernel
theorem dX8_lay_50 : decode cX8_lay 50 = .ok (.getfield 27, 3) := by decide +kernel
theorem dX8_lay_53 : decode cX8_lay 53 = .ok (.iload_n 1, 1) := by decide +kernel
theorem dX8_lay_54 : decode cX8_lay 54 = .ok (.aaload, 1) := by decide +kernel
theorem dX8_lay_55 : decode cX8_lay 55 = .ok (.iload_n 2, 1) := by decide +kernel
theorem dX8_lay_56 : decode cX8_lay 56 = .ok (.lload_n 3, 1) := by decide +kernel
theorem dX8_lay_57 : decode cX8_lay 57 = .ok (.invokevirtual 160, 3) := by decide +kernel
theorem dX8_lay_60 : decode cX8_lay 60 = .ok (.iconst 1, 1) := by decide +kernel
theorem dX8_lay_61 : decode cX8_lay 61 = .ok (.ireturn, 1) := by decide +kernel
theorem dX8_draw_0 : decode cX8_draw 0 = .ok (.iload_n 1, 1) := by decide +kernel
theorem dX8_draw_1 : decode cX8_draw 1 = .ok (.invokestatic 144, 3) := by decide +kernel
theorem dX8_draw_4 : decode cX8_draw 4 = .ok (.ifCond .eq 14, 3) := by decide +kernel
theorem dX8_draw_7 : decode cX8_draw 7 = .ok (.iload_n 2, 1) := by decide +kernel
theorem dX8_draw_8 : decode cX8_draw 8 = .ok (.invokestatic 147, 3) := by decide +kernel
theorem dX8_draw_11 : decode cX8_draw 11 = .ok (.ifCond .eq 7, 3) := by decide +kernel
theorem dX8_draw_14 : decode cX8_draw 14 = .ok (.iload_n 3, 1) := by decide +kernel
theorem dX8_draw_15 : decode cX8_draw 15 = .ok (.ifCond .ge 5, 3) := by decide +kernel
theorem dX8_draw_18 : decode cX8_draw 18 = .ok (.iconst (-1), 1) := by decide +kernel
theorem dX8_draw_19 : decode cX8_draw 19 = .ok (.ireturn, 1) := by decide +kernel
theorem dX8_draw_20 : decode cX8_draw 20 = .ok (.aload_n 0, 1) := by decide +kernel
theorem dX8_draw_21 : decode cX8_draw 21 = .ok (.aload_n 0, 1) := by decide +kernel
theorem dX8_draw_22 : decode cX8_draw 22 = .ok (.getfield 27, 3) := by decide +kernel
theorem dX8_draw_25 : decode cX8_draw 25 = .ok (.iload_n 1, 1) := by decide +kernel
theorem dX8_draw_26 : decode cX8_draw 26 = .ok (.aaload, 1) := by decide +kernel
theorem dX8_draw_27 : decode cX8_draw 27 = .ok (.iload_n 2, 1) := by decide +kernel
theorem dX8_draw_28 : decode cX8_draw 28 = .ok (.iload_n 3, 1) := by decide +kernel
theorem dX8_draw_29 : decode cX8_draw 29 = .ok (.invokevirtual 164, 3) := by decide +kernel
theorem dX8_draw_32 : decode cX8_draw 32 = .ok (.istore 4, 2) := by decide +kernel
theorem dX8_draw_34 : decode cX8_draw 34 = .ok (.iload 4, 2) := by decide +kernel
theorem dX8_draw_36 : decode cX8_draw 36 = .ok (.ifCond .ge 6, 3) := by decide +kernel
theorem dX8_draw_39 : decode cX8_draw 39 = .ok (.iload 4, 2) := by decide +kernel
theorem dX8_draw_41 : decode cX8_draw 41 = .ok (.ireturn, 1) := by decide +kernel
theorem dX8_draw_42 : decode cX8_draw 42 = .ok (.aload_n 0, 1) := by decide +kernel
theorem dX8_draw_43 : decode cX8_draw 43 = .ok (.getfield 21, 3) := by decide +kernel
theorem dX8_draw_46 : decode cX8_draw 46 = .ok (.aload_n 0, 1) := by decide +kernel
theorem dX8_draw_47 : decode cX8_draw 47 = .ok (.getfield 14, 3) := by decide +kernel
theorem dX8_draw_50 : decode cX8_draw 50 = .ok (.invokevirtual 87, 3) := by decide +kernel
theorem dX8_draw_53 : decode cX8_draw 53 = .ok (.aload_n 0, 1) := by decide +kernel
theorem dX8_draw_54 : decode cX8_draw 54 = .ok (.aload_n 0, 1) := by decide +kernel
theorem dX8_draw_55 : decode cX8_draw 55 = .ok (.getfield 27, 3) := by decide +kernel
theorem dX8_draw_58 : decode cX8_draw 58 = .ok (.iload_n 1, 1) := by decide +kernel
theorem dX8_draw_59 : decode cX8_draw 59 = .ok (.aaload, 1) := by decide +kernel
theorem dX8_draw_60 : decode cX8_draw 60 = .ok (.iload_n 3, 1) := by decide +kernel
theorem dX8_draw_61 : decode cX8_draw 61 = .ok (.invokevirtual 168, 3) := by decide +kernel
theorem dX8_draw_64 : decode cX8_draw 64 = .ok (.aload_n 0, 1) := by decide +kernel
theorem dX8_draw_65 : decode cX8_draw 65 = .ok (.invokevirtual 94, 3) := by decide +kernel
theorem dX8_draw_68 : decode cX8_draw 68 = .ok (.iload_n 3, 1) := by decide +kernel
theorem dX8_draw_69 : decode cX8_draw 69 = .ok (.ireturn, 1) := by decide +kernel
theorem dX8_apart_0 : decode cX8_apart 0 = .ok (.aload_n 0, 1) := by decide +kernel
theorem dX8_apart_1 : decode cX8_apart 1 = .ok (.getfield 14, 3) := by decide +kernel
theorem dX8_apart_4 : decode cX8_apart 4 = .ok (.iload_n 1, 1) := by decide +kernel
theorem dX8_apart_5 : decode cX8_apart 5 = .ok (.i2l, 1) := by decide +kernel
theorem dX8_apart_6 : decode cX8_apart 6 = .ok (.invokevirtual 97, 3) := by decide +kernel
theorem dX8_apart_9 : decode cX8_apart 9 = .ok (.ifCond .eq 15, 3) := by decide +kernel
theorem dX8_apart_12 : decode cX8_apart 12 = .ok (.aload_n 0, 1) := by decide +kernel
theorem dX8_apart_13 : decode cX8_apart 13 = .ok (.getfield 14, 3) := by decide +kernel
theorem dX8_apart_16 : decode cX8_apart 16 = .ok (.iload_n 2, 1) := by decide +kernel
theorem dX8_apart_17 : decode cX8_apart 17 = .ok (.i2l, 1) := by decide +kernel
theorem dX8_apart_18 : decode cX8_apart 18 = .ok (.invokevirtual 97, 3) := by decide +kernel
theorem dX8_apart_21 : decode cX8_apart 21 = .ok (.ifCond .ne 5, 3) := by decide +kernel
theorem dX8_apart_24 : decode cX8_apart 24 = .ok (.iconst (-1), 1) := by decide +kernel
theorem dX8_apart_25 : decode cX8_apart 25 = .ok (.ireturn, 1) := by decide +kernel
theorem dX8_apart_26 : decode cX8_apart 26 = .ok (.aload_n 0, 1) := by decide +kernel
theorem dX8_apart_27 : decode cX8_apart 27 = .ok (.getfield 34, 3) := by decide +kernel
theorem dX8_apart_30 : decode cX8_apart 30 = .ok (.iload_n 1, 1) := by decide +kernel
theorem dX8_apart_31 : decode cX8_apart 31 = .ok (.iload_n 2, 1) := by decide +kernel
theorem dX8_apart_32 : decode cX8_apart 32 = .ok (.invokevirtual 172, 3) := by decide +kernel
theorem dX8_apart_35 : decode cX8_apart 35 = .ok (.istore_n 3, 1) := by decide +kernel
theorem dX8_apart_36 : decode cX8_apart 36 = .ok (.iload_n 3, 1) := by decide +kernel
theorem dX8_apart_37 : decode cX8_apart 37 = .ok (.ldc 175, 2) := by decide +kernel
theorem dX8_apart_39 : decode cX8_apart 39 = .ok (.if_icmp .ne 8, 3) := by decide +kernel
theorem dX8_apart_42 : decode cX8_apart 42 = .ok (.bipush (-4), 2) := by decide +kernel
theorem dX8_apart_44 : decode cX8_apart 44 = .ok (.goto 4, 3) := by decide +kernel
theorem dX8_apart_47 : decode cX8_apart 47 = .ok (.iload_n 3, 1) := by decide +kernel
theorem dX8_apart_48 : decode cX8_apart 48 = .ok (.ireturn, 1) := by decide +kernel
theorem dX8_way_0 : decode cX8_way 0 = .ok (.aload_n 0, 1) := by decide +kernel
theorem dX8_way_1 : decode cX8_way 1 = .ok (.getfield 14, 3) := by decide +kernel
theorem dX8_way_4 : decode cX8_way 4 = .ok (.iload_n 1, 1) := by decide +kernel
theorem dX8_way_5 : decode cX8_way 5 = .ok (.i2l, 1) := by decide +kernel
theorem dX8_way_6 : decode cX8_way 6 = .ok (.invokevirtual 97, 3) := by decide +kernel
theorem dX8_way_9 : decode cX8_way 9 = .ok (.ifCond .eq 19, 3) := by decide +kernel
theorem dX8_way_12 : decode cX8_way 12 = .ok (.aload_n 0, 1) := by decide +kernel
theorem dX8_way_13 : decode cX8_way 13 = .ok (.getfield 14, 3) := by decide +kernel
theorem dX8_way_16 : decode cX8_way 16 = .ok (.iload_n 2, 1) := by decide +kernel
theorem dX8_way_17 : decode cX8_way 17 = .ok (.i2l, 1) := by decide +kernel
theorem dX8_way_18 : decode cX8_way 18 = .ok (.invokevirtual 97, 3) := by decide +kernel
theorem dX8_way_21 : decode cX8_way 21 = .ok (.ifCond .eq 7, 3) := by decide +kernel
theorem dX8_way_24 : decode cX8_way 24 = .ok (.iload_n 3, 1) := by decide +kernel
theorem dX8_way_25 : decode cX8_way 25 = .ok (.ifCond .ge 5, 3) := by decide +kernel
theorem dX8_way_28 : decode cX8_way 28 = .ok (.iconst (-1), 1) := by decide +kernel
theorem dX8_way_29 : decode cX8_way 29 = .ok (.ireturn, 1) := by decide +kernel
theorem dX8_way_30 : decode cX8_way 30 = .ok (.aload_n 0, 1) := by decide +kernel
theorem dX8_way_31 : decode cX8_way 31 = .ok (.getfield 34, 3) := by decide +kernel
theorem dX8_way_34 : decode cX8_way 34 = .ok (.iload_n 1, 1) := by decide +kernel
theorem dX8_way_35 : decode cX8_way 35 = .ok (.iload_n 2, 1) := by decide +kernel
theorem dX8_way_36 : decode cX8_way 36 = .ok (.invokevirtual 172, 3) := by decide +kernel
theorem dX8_way_39 : decode cX8_way 39 = .ok (.ldc 175, 2) := by decide +kernel
theorem dX8_way_41 : decode cX8_way 41 = .ok (.if_icmp .ne 8, 3) := by decide +kernel
theorem dX8_way_44 : decode cX8_way 44 = .ok (.bipush (-4), 2) := by decide +kernel
theorem dX8_way_46 : decode cX8_way 46 = .ok (.goto 17, 3) := by decide +kernel
theorem dX8_way_49 : decode cX8_way 49 = .ok (.aload_n 0, 1) := by decide +kernel
theorem dX8_way_50 : decode cX8_way 50 = .ok (.getfield 34, 3) := by decide +kernel
theorem dX8_way_53 : decode cX8_way 53 = .ok (.aload_n 0, 1) := by decide +kernel
theorem dX8_way_54 : decode cX8_way 54 = .ok (.getfield 14, 3) := by decide +kernel
theorem dX8_way_57 : decode cX8_way 57 = .ok (.iload_n 1, 1) := by decide +kernel
theorem dX8_way_58 : decode cX8_way 58 = .ok (.iload_n 2, 1) := by decide +kernel
theorem dX8_way_59 : decode cX8_way 59 = .ok (.iload_n 3, 1) := by decide +kernel
theorem dX8_way_60 : decode cX8_way 60 = .ok (.invokevirtual 176, 3) := by decide +kernel
theorem dX8_way_63 : decode cX8_way 63 = .ok (.ireturn, 1) := by decide +kernel
theorem dX8_allowed_0 : decode cX8_allowed 0 = .ok (.aload_n 0, 1) := by decide +kernel
theorem dX8_allowed_1 : decode cX8_allowed 1 = .ok (.getfield 43, 3) := by decide +kernel
theorem dX8_allowed_4 : decode cX8_allowed 4 = .ok (.iload_n 1, 1) := by decide +kernel
theorem dX8_allowed_5 : decode cX8_allowed 5 = .ok (.invokevirtual 180, 3) := by decide +kernel
theorem dX8_allowed_8 : decode cX8_allowed 8 = .ok (.ifCond .ne 5, 3) := by decide +kernel
theorem dX8_allowed_11 : decode cX8_allowed 11 = .ok (.iconst (-1), 1) := by decide +kernel
theorem dX8_allowed_12 : decode cX8_allowed 12 = .ok (.ireturn, 1) := by decide +kernel
theorem dX8_allowed_13 : decode cX8_allowed 13 = .ok (.aload_n 0, 1) := by decide +kernel
theorem dX8_allowed_14 : decode cX8_allowed 14 = .ok (.getfield 43, 3) := by decide +kernel
theorem dX8_allowed_17 : decode cX8_allowed 17 = .ok (.iload_n 1, 1) := by decide +kernel
theorem dX8_allowed_18 : decode cX8_allowed 18 = .ok (.invokevirtual 183, 3) := by decide +kernel
theorem dX8_allowed_21 : decode cX8_allowed 21 = .ok (.ifCond .eq 7, 3) := by decide +kernel
theorem dX8_allowed_24 : decode cX8_allowed 24 = .ok (.iconst 1, 1) := by decide +kernel
theorem dX8_allowed_25 : decode cX8_allowed 25 = .ok (.goto 4, 3) := by decide +kernel
theorem dX8_allowed_28 : decode cX8_allowed 28 = .ok (.iconst 0, 1) := by decide +kernel
theorem dX8_allowed_29 : decode cX8_allowed 29 = .ok (.ireturn, 1) := by decide +kernel
theorem dX8_cost_0 : decode cX8_cost 0 = .ok (.aload_n 0, 1) := by decide +kernel
theorem dX8_cost_1 : decode cX8_cost 1 = .ok (.getfield 43, 3) := by decide +kernel
theorem dX8_cost_4 : decode cX8_cost 4 = .ok (.iload_n 1, 1) := by decide +kernel
theorem dX8_cost_5 : decode cX8_cost 5 = .ok (.invokevirtual 180, 3) := by decide +kernel
theorem dX8_cost_8 : decode cX8_cost 8 = .ok (.ifCond .ne 7, 3) := by decide +kernel
theorem dX8_cost_11 : decode cX8_cost 11 = .ok (.ldc2_w 186, 3) := by decide +kernel
theorem dX8_cost_14 : decode cX8_cost 14 = .ok (.lreturn, 1) := by decide +kernel
theorem dX8_cost_15 : decode cX8_cost 15 = .ok (.aload_n 0, 1) := by decide +kernel
theorem dX8_cost_16 : decode cX8_cost 16 = .ok (.getfield 43, 3) := by decide +kernel
theorem dX8_cost_19 : decode cX8_cost 19 = .ok (.iload_n 1, 1) := by decide +kernel
theorem dX8_cost_20 : decode cX8_cost 20 = .ok (.invokevirtual 188, 3) := by decide +kernel
theorem dX8_cost_23 : decode cX8_cost 23 = .ok (.lstore_n 2, 1) := by decide +kernel
theorem dX8_cost_24 : decode cX8_cost 24 = .ok (.lload_n 2, 1) := by decide +kernel
theorem dX8_cost_25 : decode cX8_cost 25 = .ok (.ldc2_w 192, 3) := by decide +kernel
theorem dX8_cost_28 : decode cX8_cost 28 = .ok (.lcmp, 1) := by decide +kernel
theorem dX8_cost_29 : decode cX8_cost 29 = .ok (.ifCond .ge 7, 3) := by decide +kernel
theorem dX8_cost_32 : decode cX8_cost 32 = .ok (.lload_n 2, 1) := by decide +kernel
theorem dX8_cost_33 : decode cX8_cost 33 = .ok (.goto 6, 3) := by decide +kernel
theorem dX8_cost_36 : decode cX8_cost 36 = .ok (.ldc2_w 194, 3) := by decide +kernel
theorem dX8_cost_39 : decode cX8_cost 39 = .ok (.lreturn, 1) := by decide +kernel
theorem dX8_served_0 : decode cX8_served 0 = .ok (.aload_n 0, 1) := by decide +kernel
theorem dX8_served_1 : decode cX8_served 1 = .ok (.getfield 43, 3) := by decide +kernel
theorem dX8_served_4 : decode cX8_served 4 = .ok (.iload_n 1, 1) := by decide +kernel
theorem dX8_served_5 : decode cX8_served 5 = .ok (.invokevirtual 180, 3) := by decide +kernel
theorem dX8_served_8 : decode cX8_served 8 = .ok (.ifCond .eq 15, 3) := by decide +kernel
theorem dX8_served_11 : decode cX8_served 11 = .ok (.aload_n 0, 1) := by decide +kernel
theorem dX8_served_12 : decode cX8_served 12 = .ok (.getfield 14, 3) := by decide +kernel
theorem dX8_served_15 : decode cX8_served 15 = .ok (.iload_n 2, 1) := by decide +kernel
theorem dX8_served_16 : decode cX8_served 16 = .ok (.i2l, 1) := by decide +kernel
theorem dX8_served_17 : decode cX8_served 17 = .ok (.invokevirtual 97, 3) := by decide +kernel
theorem dX8_served_20 : decode cX8_served 20 = .ok (.ifCond .ne 5, 3) := by decide +kernel
theorem dX8_served_23 : decode cX8_served 23 = .ok (.iconst (-1), 1) := by decide +kernel
theorem dX8_served_24 : decode cX8_served 24 = .ok (.ireturn, 1) := by decide +kernel
theorem dX8_served_25 : decode cX8_served 25 = .ok (.aload_n 0, 1) := by decide +kernel
theorem dX8_served_26 : decode cX8_served 26 = .ok (.getfield 43, 3) := by decide +kernel
theorem dX8_served_29 : decode cX8_served 29 = .ok (.iload_n 1, 1) := by decide +kernel
theorem dX8_served_30 : decode cX8_served 30 = .ok (.iload_n 2, 1) := by decide +kernel
theorem dX8_served_31 : decode cX8_served 31 = .ok (.invokevirtual 196, 3) := by decide +kernel
theorem dX8_served_34 : decode cX8_served 34 = .ok (.ireturn, 1) := by decide +kernel
theorem dX8_share_0 : decode cX8_share 0 = .ok (.aload_n 0, 1) := by decide +kernel
theorem dX8_share_1 : decode cX8_share 1 = .ok (.getfield 43, 3) := by decide +kernel
theorem dX8_share_4 : decode cX8_share 4 = .ok (.iload_n 1, 1) := by decide +kernel
theorem dX8_share_5 : decode cX8_share 5 = .ok (.invokevirtual 180, 3) := by decide +kernel
theorem dX8_share_8 : decode cX8_share 8 = .ok (.ifCond .eq 26, 3) := by decide +kernel
theorem dX8_share_11 : decode cX8_share 11 = .ok (.aload_n 0, 1) := by decide +kernel
theorem dX8_share_12 : decode cX8_share 12 = .ok (.getfield 14, 3) := by decide +kernel
theorem dX8_share_15 : decode cX8_share 15 = .ok (.iload_n 2, 1) := by decide +kernel
theorem dX8_share_16 : decode cX8_share 16 = .ok (.invokevirtual 127, 3) := by decide +kernel
theorem dX8_share_19 : decode cX8_share 19 = .ok (.ifCond .eq 15, 3) := by decide +kernel
theorem dX8_share_22 : decode cX8_share 22 = .ok (.iload_n 3, 1) := by decide +kernel
theorem dX8_share_23 : decode cX8_share 23 = .ok (.i2l, 1) := by decide +kernel
theorem dX8_share_24 : decode cX8_share 24 = .ok (.lconst 0, 1) := by decide +kernel
theorem dX8_share_25 : decode cX8_share 25 = .ok (.ldc2_w 199, 3) := by decide +kernel
theorem dX8_share_28 : decode cX8_share 28 = .ok (.invokestatic 79, 3) := by decide +kernel
theorem dX8_share_31 : decode cX8_share 31 = .ok (.ifCond .ne 5, 3) := by decide +kernel
theorem dX8_share_34 : decode cX8_share 34 = .ok (.iconst (-1), 1) := by decide +kernel
theorem dX8_share_35 : decode cX8_share 35 = .ok (.ireturn, 1) := by decide +kernel
theorem dX8_share_36 : decode cX8_share 36 = .ok (.iload_n 1, 1) := by decide +kernel
theorem dX8_share_37 : decode cX8_share 37 = .ok (.iload_n 2, 1) := by decide +kernel
theorem dX8_share_38 : decode cX8_share 38 = .ok (.invokestatic 201, 3) := by decide +kernel
theorem dX8_share_41 : decode cX8_share 41 = .ok (.ifCond .ne 6, 3) := by decide +kernel
theorem dX8_share_44 : decode cX8_share 44 = .ok (.bipush (-2), 2) := by decide +kernel
theorem dX8_share_46 : decode cX8_share 46 = .ok (.ireturn, 1) := by decide +kernel
theorem dX8_share_47 : decode cX8_share 47 = .ok (.iload_n 3, 1) := by decide +kernel
theorem dX8_share_48 : decode cX8_share 48 = .ok (.lookupswitch 48 #[(0, 28), (1, 38)], 28) := by decide +kernel
theorem dX8_share_76 : decode cX8_share 76 = .ok (.aload_n 0, 1) := by decide +kernel
theorem dX8_share_77 : decode cX8_share 77 = .ok (.getfield 43, 3) := by decide +kernel
theorem dX8_share_80 : decode cX8_share 80 = .ok (.iload_n 1, 1) := by decide +kernel
theorem dX8_share_81 : decode cX8_share 81 = .ok (.iload_n 2, 1) := by decide +kernel
theorem dX8_share_82 : decode cX8_share 82 = .ok (.invokevirtual 205, 3) := by decide +kernel
theorem dX8_share_85 : decode cX8_share 85 = .ok (.ireturn, 1) := by decide +kernel
theorem dX8_share_86 : decode cX8_share 86 = .ok (.aload_n 0, 1) := by decide +kernel
theorem dX8_share_87 : decode cX8_share 87 = .ok (.getfield 43, 3) := by decide +kernel
theorem dX8_share_90 : decode cX8_share 90 = .ok (.iload_n 1, 1) := by decide +kernel
theorem dX8_share_91 : decode cX8_share 91 = .ok (.iload_n 2, 1) := by decide +kernel
theorem dX8_share_92 : decode cX8_share 92 = .ok (.invokevirtual 208, 3) := by decide +kernel
theorem dX8_share_95 : decode cX8_share 95 = .ok (.ireturn, 1) := by decide +kernel
theorem dX8_share_96 : decode cX8_share 96 = .ok (.aload_n 0, 1) := by decide +kernel
theorem dX8_share_97 : decode cX8_share 97 = .ok (.getfield 43, 3) := by decide +kernel
theorem dX8_share_100 : decode cX8_share 100 = .ok (.iload_n 1, 1) := by decide +kernel
theorem dX8_share_101 : decode cX8_share 101 = .ok (.iload_n 2, 1) := by decide +kernel
theorem dX8_share_102 : decode cX8_share 102 = .ok (.invokevirtual 211, 3) := by decide +kernel
theorem dX8_share_105 : decode cX8_share 105 = .ok (.ireturn, 1) := by decide +kernel
theorem dX8_least_0 : decode cX8_least 0 = .ok (.aload_n 0, 1) := by decide +kernel
theorem dX8_least_1 : decode cX8_least 1 = .ok (.invokevirtual 214, 3) := by decide +kernel
theorem dX8_least_4 : decode cX8_least 4 = .ok (.aload_n 0, 1) := by decide +kernel
theorem dX8_least_5 : decode cX8_least 5 = .ok (.getfield 50, 3) := by decide +kernel
theorem dX8_least_8 : decode cX8_least 8 = .ok (.getfield 217, 3) := by decide +kernel
theorem dX8_least_11 : decode cX8_least 11 = .ok (.ifCond .ne 9, 3) := by decide +kernel
theorem dX8_least_14 : decode cX8_least 14 = .ok (.ldc2_w 194, 3) := by decide +kernel
theorem dX8_least_17 : decode cX8_least 17 = .ok (.goto 10, 3) := by decide +kernel
theorem dX8_least_20 : decode cX8_least 20 = .ok (.aload_n 0, 1) := by decide +kernel
theorem dX8_least_21 : decode cX8_least 21 = .ok (.getfield 50, 3) := by decide +kernel
theorem dX8_least_24 : decode cX8_least 24 = .ok (.getfield 220, 3) := by decide +kernel
theorem dX8_least_27 : decode cX8_least 27 = .ok (.lreturn, 1) := by decide +kernel
theorem dX8_best_0 : decode cX8_best 0 = .ok (.aload_n 0, 1) := by decide +kernel
theorem dX8_best_1 : decode cX8_best 1 = .ok (.invokevirtual 214, 3) := by decide +kernel
theorem dX8_best_4 : decode cX8_best 4 = .ok (.aload_n 0, 1) := by decide +kernel
theorem dX8_best_5 : decode cX8_best 5 = .ok (.getfield 50, 3) := by decide +kernel
theorem dX8_best_8 : decode cX8_best 8 = .ok (.getfield 224, 3) := by decide +kernel
theorem dX8_best_11 : decode cX8_best 11 = .ok (.ireturn, 1) := by decide +kernel
theorem dX8_many_0 : decode cX8_many 0 = .ok (.aload_n 0, 1) := by decide +kernel
theorem dX8_many_1 : decode cX8_many 1 = .ok (.invokevirtual 214, 3) := by decide +kernel
theorem dX8_many_4 : decode cX8_many 4 = .ok (.aload_n 0, 1) := by decide +kernel
theorem dX8_many_5 : decode cX8_many 5 = .ok (.getfield 50, 3) := by decide +kernel
theorem dX8_many_8 : decode cX8_many 8 = .ok (.getfield 217, 3) := by decide +kernel
theorem dX8_many_11 : decode cX8_many 11 = .ok (.ireturn, 1) := by decide +kernel
theorem dX8_every_0 : decode cX8_every 0 = .ok (.aload_n 0, 1) := by decide +kernel
theorem dX8_every_1 : decode cX8_every 1 = .ok (.getfield 14, 3) := by decide +kernel
theorem dX8_every_4 : decode cX8_every 4 = .ok (.iload_n 1, 1) := by decide +kernel
theorem dX8_every_5 : decode cX8_every 5 = .ok (.invokevirtual 127, 3) := by decide +kernel
theorem dX8_every_8 : decode cX8_every 8 = .ok (.ifCond .ne 5, 3) := by decide +kernel
theorem dX8_every_11 : decode cX8_every 11 = .ok (.iconst (-1), 1) := by decide +kernel
theorem dX8_every_12 : decode cX8_every 12 = .ok (.ireturn, 1) := by decide +kernel
theorem dX8_every_13 : decode cX8_every 13 = .ok (.aload_n 0, 1) := by decide +kernel
theorem dX8_every_14 : decode cX8_every 14 = .ok (.invokevirtual 214, 3) := by decide +kernel
theorem dX8_every_17 : decode cX8_every 17 = .ok (.aload_n 0, 1) := by decide +kernel
theorem dX8_every_18 : decode cX8_every 18 = .ok (.getfield 50, 3) := by decide +kernel
theorem dX8_every_21 : decode cX8_every 21 = .ok (.getfield 217, 3) := by decide +kernel
theorem dX8_every_24 : decode cX8_every 24 = .ok (.ifCond .ne 6, 3) := by decide +kernel
theorem dX8_every_27 : decode cX8_every 27 = .ok (.bipush (-4), 2) := by decide +kernel
theorem dX8_every_29 : decode cX8_every 29 = .ok (.ireturn, 1) := by decide +kernel
theorem dX8_every_30 : decode cX8_every 30 = .ok (.aload_n 0, 1) := by decide +kernel
theorem dX8_every_31 : decode cX8_every 31 = .ok (.getfield 50, 3) := by decide +kernel
theorem dX8_every_34 : decode cX8_every 34 = .ok (.getfield 227, 3) := by decide +kernel
theorem dX8_every_37 : decode cX8_every 37 = .ok (.iload_n 1, 1) := by decide +kernel
theorem dX8_every_38 : decode cX8_every 38 = .ok (.invokestatic 201, 3) := by decide +kernel
theorem dX8_every_41 : decode cX8_every 41 = .ok (.ifCond .eq 5, 3) := by decide +kernel
theorem dX8_every_44 : decode cX8_every 44 = .ok (.iconst 1, 1) := by decide +kernel
theorem dX8_every_45 : decode cX8_every 45 = .ok (.ireturn, 1) := by decide +kernel
theorem dX8_every_46 : decode cX8_every 46 = .ok (.aload_n 0, 1) := by decide +kernel
theorem dX8_every_47 : decode cX8_every 47 = .ok (.getfield 50, 3) := by decide +kernel
theorem dX8_every_50 : decode cX8_every 50 = .ok (.getfield 230, 3) := by decide +kernel
theorem dX8_every_53 : decode cX8_every 53 = .ok (.iload_n 1, 1) := by decide +kernel
theorem dX8_every_54 : decode cX8_every 54 = .ok (.invokestatic 201, 3) := by decide +kernel
theorem dX8_every_57 : decode cX8_every 57 = .ok (.ifCond .eq 7, 3) := by decide +kernel
theorem dX8_every_60 : decode cX8_every 60 = .ok (.iconst 0, 1) := by decide +kernel
theorem dX8_every_61 : decode cX8_every 61 = .ok (.goto 5, 3) := by decide +kernel
theorem dX8_every_64 : decode cX8_every 64 = .ok (.bipush (-5), 2) := by decide +kernel
theorem dX8_every_66 : decode cX8_every 66 = .ok (.ireturn, 1) := by decide +kernel
theorem dX8_second_0 : decode cX8_second 0 = .ok (.aload_n 0, 1) := by decide +kernel
theorem dX8_second_1 : decode cX8_second 1 = .ok (.getfield 43, 3) := by decide +kernel
theorem dX8_second_4 : decode cX8_second 4 = .ok (.iload_n 1, 1) := by decide +kernel
theorem dX8_second_5 : decode cX8_second 5 = .ok (.invokevirtual 180, 3) := by decide +kernel
theorem dX8_second_8 : decode cX8_second 8 = .ok (.ifCond .ne 5, 3) := by decide +kernel
theorem dX8_second_11 : decode cX8_second 11 = .ok (.iconst (-1), 1) := by decide +kernel
theorem dX8_second_12 : decode cX8_second 12 = .ok (.ireturn, 1) := by decide +kernel
theorem dX8_second_13 : decode cX8_second 13 = .ok (.aload_n 0, 1) := by decide +kernel
theorem dX8_second_14 : decode cX8_second 14 = .ok (.invokevirtual 214, 3) := by decide +kernel
theorem dX8_second_17 : decode cX8_second 17 = .ok (.aload_n 0, 1) := by decide +kernel
theorem dX8_second_18 : decode cX8_second 18 = .ok (.getfield 50, 3) := by decide +kernel
theorem dX8_second_21 : decode cX8_second 21 = .ok (.getfield 224, 3) := by decide +kernel
theorem dX8_second_24 : decode cX8_second 24 = .ok (.iload_n 1, 1) := by decide +kernel
theorem dX8_second_25 : decode cX8_second 25 = .ok (.if_icmp .ne 13, 3) := by decide +kernel
theorem dX8_second_28 : decode cX8_second 28 = .ok (.aload_n 0, 1) := by decide +kernel
theorem dX8_second_29 : decode cX8_second 29 = .ok (.getfield 50, 3) := by decide +kernel
theorem dX8_second_32 : decode cX8_second 32 = .ok (.getfield 233, 3) := by decide +kernel
theorem dX8_second_35 : decode cX8_second 35 = .ok (.goto 10, 3) := by decide +kernel
theorem dX8_second_38 : decode cX8_second 38 = .ok (.aload_n 0, 1) := by decide +kernel
theorem dX8_second_39 : decode cX8_second 39 = .ok (.getfield 50, 3) := by decide +kernel
theorem dX8_second_42 : decode cX8_second 42 = .ok (.getfield 224, 3) := by decide +kernel
theorem dX8_second_45 : decode cX8_second 45 = .ok (.ireturn, 1) := by decide +kernel
theorem dX8_lose_0 : decode cX8_lose 0 = .ok (.aload_n 0, 1) := by decide +kernel
theorem dX8_lose_1 : decode cX8_lose 1 = .ok (.getfield 14, 3) := by decide +kernel
theorem dX8_lose_4 : decode cX8_lose 4 = .ok (.iload_n 1, 1) := by decide +kernel
theorem dX8_lose_5 : decode cX8_lose 5 = .ok (.invokevirtual 127, 3) := by decide +kernel
theorem dX8_lose_8 : decode cX8_lose 8 = .ok (.ifCond .ne 7, 3) := by decide +kernel
theorem dX8_lose_11 : decode cX8_lose 11 = .ok (.ldc2_w 186, 3) := by decide +kernel
theorem dX8_lose_14 : decode cX8_lose 14 = .ok (.lreturn, 1) := by decide +kernel
theorem dX8_lose_15 : decode cX8_lose 15 = .ok (.aload_n 0, 1) := by decide +kernel
theorem dX8_lose_16 : decode cX8_lose 16 = .ok (.getfield 14, 3) := by decide +kernel
theorem dX8_lose_19 : decode cX8_lose 19 = .ok (.getfield 133, 3) := by decide +kernel
theorem dX8_lose_22 : decode cX8_lose 22 = .ok (.iload_n 1, 1) := by decide +kernel
theorem dX8_lose_23 : decode cX8_lose 23 = .ok (.iaload, 1) := by decide +kernel
theorem dX8_lose_24 : decode cX8_lose 24 = .ok (.iconst 3, 1) := by decide +kernel
theorem dX8_lose_25 : decode cX8_lose 25 = .ok (.if_icmp .ne 7, 3) := by decide +kernel
theorem dX8_lose_28 : decode cX8_lose 28 = .ok (.ldc2_w 236, 3) := by decide +kernel
theorem dX8_lose_31 : decode cX8_lose 31 = .ok (.lreturn, 1) := by decide +kernel
theorem dX8_lose_32 : decode cX8_lose 32 = .ok (.aload_n 0, 1) := by decide +kernel
theorem dX8_lose_33 : decode cX8_lose 33 = .ok (.invokevirtual 214, 3) := by decide +kernel
theorem dX8_lose_36 : decode cX8_lose 36 = .ok (.aload_n 0, 1) := by decide +kernel
theorem dX8_lose_37 : decode cX8_lose 37 = .ok (.getfield 50, 3) := by decide +kernel
theorem dX8_lose_40 : decode cX8_lose 40 = .ok (.getfield 238, 3) := by decide +kernel
theorem dX8_lose_43 : decode cX8_lose 43 = .ok (.iload_n 1, 1) := by decide +kernel
theorem dX8_lose_44 : decode cX8_lose 44 = .ok (.laload, 1) := by decide +kernel
theorem dX8_lose_45 : decode cX8_lose 45 = .ok (.lstore_n 2, 1) := by decide +kernel
theorem dX8_lose_46 : decode cX8_lose 46 = .ok (.lload_n 2, 1) := by decide +kernel
theorem dX8_lose_47 : decode cX8_lose 47 = .ok (.ldc2_w 242, 3) := by decide +kernel
theorem dX8_lose_50 : decode cX8_lose 50 = .ok (.lcmp, 1) := by decide +kernel
theorem dX8_lose_51 : decode cX8_lose 51 = .ok (.ifCond .ne 9, 3) := by decide +kernel
theorem dX8_lose_54 : decode cX8_lose 54 = .ok (.ldc2_w 194, 3) := by decide +kernel
theorem dX8_lose_57 : decode cX8_lose 57 = .ok (.goto 4, 3) := by decide +kernel
theorem dX8_lose_60 : decode cX8_lose 60 = .ok (.lload_n 2, 1) := by decide +kernel
theorem dX8_lose_61 : decode cX8_lose 61 = .ok (.lreturn, 1) := by decide +kernel
theorem dX8_worst_0 : decode cX8_worst 0 = .ok (.aload_n 0, 1) := by decide +kernel
theorem dX8_worst_1 : decode cX8_worst 1 = .ok (.invokevirtual 214, 3) := by decide +kernel
theorem dX8_worst_4 : decode cX8_worst 4 = .ok (.aload_n 0, 1) := by decide +kernel
theorem dX8_worst_5 : decode cX8_worst 5 = .ok (.getfield 50, 3) := by decide +kernel
theorem dX8_worst_8 : decode cX8_worst 8 = .ok (.getfield 217, 3) := by decide +kernel
theorem dX8_worst_11 : decode cX8_worst 11 = .ok (.ifCond .ne 8, 3) := by decide +kernel
theorem dX8_worst_14 : decode cX8_worst 14 = .ok (.bipush (-4), 2) := by decide +kernel
theorem dX8_worst_16 : decode cX8_worst 16 = .ok (.goto 14, 3) := by decide +kernel
theorem dX8_worst_19 : decode cX8_worst 19 = .ok (.aload_n 0, 1) := by decide +kernel
theorem dX8_worst_20 : decode cX8_worst 20 = .ok (.getfield 50, 3) := by decide +kernel
theorem dX8_worst_23 : decode cX8_worst 23 = .ok (.aload_n 0, 1) := by decide +kernel
theorem dX8_worst_24 : decode cX8_worst 24 = .ok (.getfield 14, 3) := by decide +kernel
theorem dX8_worst_27 : decode cX8_worst 27 = .ok (.invokevirtual 244, 3) := by decide +kernel
theorem dX8_worst_30 : decode cX8_worst 30 = .ok (.ireturn, 1) := by decide +kernel
theorem dX8_farthest_0 : decode cX8_farthest 0 = .ok (.aload_n 0, 1) := by decide +kernel
theorem dX8_farthest_1 : decode cX8_farthest 1 = .ok (.invokevirtual 214, 3) := by decide +kernel
theorem dX8_farthest_4 : decode cX8_farthest 4 = .ok (.aload_n 0, 1) := by decide +kernel
theorem dX8_farthest_5 : decode cX8_farthest 5 = .ok (.getfield 50, 3) := by decide +kernel
theorem dX8_farthest_8 : decode cX8_farthest 8 = .ok (.getfield 248, 3) := by decide +kernel
theorem dX8_farthest_11 : decode cX8_farthest 11 = .ok (.bipush (-4), 2) := by decide +kernel
theorem dX8_farthest_13 : decode cX8_farthest 13 = .ok (.if_icmp .ne 8, 3) := by decide +kernel
theorem dX8_farthest_16 : decode cX8_farthest 16 = .ok (.bipush (-4), 2) := by decide +kernel
theorem dX8_farthest_18 : decode cX8_farthest 18 = .ok (.goto 10, 3) := by decide +kernel
theorem dX8_farthest_21 : decode cX8_farthest 21 = .ok (.aload_n 0, 1) := by decide +kernel
theorem dX8_farthest_22 : decode cX8_farthest 22 = .ok (.getfield 50, 3) := by decide +kernel
theorem dX8_farthest_25 : decode cX8_farthest 25 = .ok (.getfield 251, 3) := by decide +kernel
theorem dX8_farthest_28 : decode cX8_farthest 28 = .ok (.ireturn, 1) := by decide +kernel
theorem dX8_nearest_0 : decode cX8_nearest 0 = .ok (.aload_n 0, 1) := by decide +kernel
theorem dX8_nearest_1 : decode cX8_nearest 1 = .ok (.invokevirtual 214, 3) := by decide +kernel
theorem dX8_nearest_4 : decode cX8_nearest 4 = .ok (.aload_n 0, 1) := by decide +kernel
theorem dX8_nearest_5 : decode cX8_nearest 5 = .ok (.getfield 50, 3) := by decide +kernel
theorem dX8_nearest_8 : decode cX8_nearest 8 = .ok (.getfield 248, 3) := by decide +kernel
theorem dX8_nearest_11 : decode cX8_nearest 11 = .ok (.ireturn, 1) := by decide +kernel
theorem dX8_added_0 : decode cX8_added 0 = .ok (.aload_n 0, 1) := by decide +kernel
theorem dX8_added_1 : decode cX8_added 1 = .ok (.getfield 43, 3) := by decide +kernel
theorem dX8_added_4 : decode cX8_added 4 = .ok (.aload_n 0, 1) := by decide +kernel
theorem dX8_added_5 : decode cX8_added 5 = .ok (.getfield 43, 3) := by decide +kernel
theorem dX8_added_8 : decode cX8_added 8 = .ok (.getfield 254, 3) := by decide +kernel
theorem dX8_added_11 : decode cX8_added 11 = .ok (.invokevirtual 183, 3) := by decide +kernel
theorem dX8_added_14 : decode cX8_added 14 = .ok (.ifCond .ne 6, 3) := by decide +kernel
theorem dX8_added_17 : decode cX8_added 17 = .ok (.bipush (-2), 2) := by decide +kernel
theorem dX8_added_19 : decode cX8_added 19 = .ok (.ireturn, 1) := by decide +kernel
theorem dX8_added_20 : decode cX8_added 20 = .ok (.aload_n 0, 1) := by decide +kernel
theorem dX8_added_21 : decode cX8_added 21 = .ok (.getfield 59, 3) := by decide +kernel
theorem dX8_added_24 : decode cX8_added 24 = .ok (.invokevirtual 257, 3) := by decide +kernel
theorem dX8_added_27 : decode cX8_added 27 = .ok (.ireturn, 1) := by decide +kernel
theorem dX8_changed_0 : decode cX8_changed 0 = .ok (.aload_n 0, 1) := by decide +kernel
theorem dX8_changed_1 : decode cX8_changed 1 = .ok (.getfield 43, 3) := by decide +kernel
theorem dX8_changed_4 : decode cX8_changed 4 = .ok (.iload_n 1, 1) := by decide +kernel
theorem dX8_changed_5 : decode cX8_changed 5 = .ok (.invokevirtual 180, 3) := by decide +kernel
theorem dX8_changed_8 : decode cX8_changed 8 = .ok (.ifCond .ne 5, 3) := by decide +kernel
theorem dX8_changed_11 : decode cX8_changed 11 = .ok (.iconst (-1), 1) := by decide +kernel
theorem dX8_changed_12 : decode cX8_changed 12 = .ok (.ireturn, 1) := by decide +kernel
theorem dX8_changed_13 : decode cX8_changed 13 = .ok (.aload_n 0, 1) := by decide +kernel
theorem dX8_changed_14 : decode cX8_changed 14 = .ok (.getfield 43, 3) := by decide +kernel
theorem dX8_changed_17 : decode cX8_changed 17 = .ok (.iload_n 1, 1) := by decide +kernel
theorem dX8_changed_18 : decode cX8_changed 18 = .ok (.invokevirtual 183, 3) := by decide +kernel
theorem dX8_changed_21 : decode cX8_changed 21 = .ok (.ifCond .ne 6, 3) := by decide +kernel
theorem dX8_changed_24 : decode cX8_changed 24 = .ok (.bipush (-2), 2) := by decide +kernel
theorem dX8_changed_26 : decode cX8_changed 26 = .ok (.ireturn, 1) := by decide +kernel
theorem dX8_changed_27 : decode cX8_changed 27 = .ok (.aload_n 0, 1) := by decide +kernel
theorem dX8_changed_28 : decode cX8_changed 28 = .ok (.getfield 59, 3) := by decide +kernel
theorem dX8_changed_31 : decode cX8_changed 31 = .ok (.iload_n 1, 1) := by decide +kernel
theorem dX8_changed_32 : decode cX8_changed 32 = .ok (.invokevirtual 261, 3) := by decide +kernel
theorem dX8_changed_35 : decode cX8_changed 35 = .ok (.ireturn, 1) := by decide +kernel
theorem dX8_moves_0 : decode cX8_moves 0 = .ok (.aload_n 0, 1) := by decide +kernel
theorem dX8_moves_1 : decode cX8_moves 1 = .ok (.getfield 59, 3) := by decide +kernel
theorem dX8_moves_4 : decode cX8_moves 4 = .ok (.getfield 264, 3) := by decide +kernel
theorem dX8_moves_7 : decode cX8_moves 7 = .ok (.ireturn, 1) := by decide +kernel
theorem dX8_price_0 : decode cX8_price 0 = .ok (.aload_n 0, 1) := by decide +kernel
theorem dX8_price_1 : decode cX8_price 1 = .ok (.getfield 14, 3) := by decide +kernel
theorem dX8_price_4 : decode cX8_price 4 = .ok (.iload_n 1, 1) := by decide +kernel
theorem dX8_price_5 : decode cX8_price 5 = .ok (.i2l, 1) := by decide +kernel
theorem dX8_price_6 : decode cX8_price 6 = .ok (.invokevirtual 97, 3) := by decide +kernel
theorem dX8_price_9 : decode cX8_price 9 = .ok (.ifCond .eq 15, 3) := by decide +kernel
theorem dX8_price_12 : decode cX8_price 12 = .ok (.iload_n 2, 1) := by decide +kernel
theorem dX8_price_13 : decode cX8_price 13 = .ok (.i2l, 1) := by decide +kernel
theorem dX8_price_14 : decode cX8_price 14 = .ok (.lconst 0, 1) := by decide +kernel
theorem dX8_price_15 : decode cX8_price 15 = .ok (.ldc2_w 267, 3) := by decide +kernel
theorem dX8_price_18 : decode cX8_price 18 = .ok (.invokestatic 79, 3) := by decide +kernel
theorem dX8_price_21 : decode cX8_price 21 = .ok (.ifCond .ne 5, 3) := by decide +kernel
theorem dX8_price_24 : decode cX8_price 24 = .ok (.iconst (-1), 1) := by decide +kernel
theorem dX8_price_25 : decode cX8_price 25 = .ok (.ireturn, 1) := by decide +kernel
theorem dX8_price_26 : decode cX8_price 26 = .ok (.aload_n 0, 1) := by decide +kernel
theorem dX8_price_27 : decode cX8_price 27 = .ok (.getfield 68, 3) := by decide +kernel
theorem dX8_price_30 : decode cX8_price 30 = .ok (.getfield 269, 3) := by decide +kernel
theorem dX8_price_33 : decode cX8_price 33 = .ok (.iload_n 1, 1) := by decide +kernel
theorem dX8_price_34 : decode cX8_price 34 = .ok (.iload_n 2, 1) := by decide +kernel
theorem dX8_price_35 : decode cX8_price 35 = .ok (.i2l, 1) := by decide +kernel
theorem dX8_price_36 : decode cX8_price 36 = .ok (.lastore, 1) := by decide +kernel
theorem dX8_price_37 : decode cX8_price 37 = .ok (.iconst 1, 1) := by decide +kernel
theorem dX8_price_38 : decode cX8_price 38 = .ok (.ireturn, 1) := by decide +kernel
theorem dX8_priced_0 : decode cX8_priced 0 = .ok (.aload_n 0, 1) := by decide +kernel
theorem dX8_priced_1 : decode cX8_priced 1 = .ok (.getfield 14, 3) := by decide +kernel
theorem dX8_priced_4 : decode cX8_priced 4 = .ok (.iload_n 1, 1) := by decide +kernel
theorem dX8_priced_5 : decode cX8_priced 5 = .ok (.i2l, 1) := by decide +kernel
theorem dX8_priced_6 : decode cX8_priced 6 = .ok (.invokevirtual 97, 3) := by decide +kernel
theorem dX8_priced_9 : decode cX8_priced 9 = .ok (.ifCond .eq 15, 3) := by decide +kernel
theorem dX8_priced_12 : decode cX8_priced 12 = .ok (.aload_n 0, 1) := by decide +kernel
theorem dX8_priced_13 : decode cX8_priced 13 = .ok (.getfield 68, 3) := by decide +kernel
theorem dX8_priced_16 : decode cX8_priced 16 = .ok (.getfield 269, 3) := by decide +kernel
theorem dX8_priced_19 : decode cX8_priced 19 = .ok (.iload_n 1, 1) := by decide +kernel
theorem dX8_priced_20 : decode cX8_priced 20 = .ok (.laload, 1) := by decide +kernel
theorem dX8_priced_21 : decode cX8_priced 21 = .ok (.goto 4, 3) := by decide +kernel
theorem dX8_priced_24 : decode cX8_priced 24 = .ok (.lconst 0, 1) := by decide +kernel
theorem dX8_priced_25 : decode cX8_priced 25 = .ok (.lreturn, 1) := by decide +kernel
theorem dX8_gives_0 : decode cX8_gives 0 = .ok (.aload_n 0, 1) := by decide +kernel
theorem dX8_gives_1 : decode cX8_gives 1 = .ok (.getfield 14, 3) := by decide +kernel
theorem dX8_gives_4 : decode cX8_gives 4 = .ok (.iload_n 1, 1) := by decide +kernel
theorem dX8_gives_5 : decode cX8_gives 5 = .ok (.invokevirtual 127, 3) := by decide +kernel
theorem dX8_gives_8 : decode cX8_gives 8 = .ok (.ifCond .eq 15, 3) := by decide +kernel
theorem dX8_gives_11 : decode cX8_gives 11 = .ok (.aload_n 0, 1) := by decide +kernel
theorem dX8_gives_12 : decode cX8_gives 12 = .ok (.getfield 14, 3) := by decide +kernel
theorem dX8_gives_15 : decode cX8_gives 15 = .ok (.iload_n 2, 1) := by decide +kernel
theorem dX8_gives_16 : decode cX8_gives 16 = .ok (.i2l, 1) := by decide +kernel
theorem dX8_gives_17 : decode cX8_gives 17 = .ok (.invokevirtual 97, 3) := by decide +kernel
theorem dX8_gives_20 : decode cX8_gives 20 = .ok (.ifCond .ne 7, 3) := by decide +kernel
theorem dX8_gives_23 : decode cX8_gives 23 = .ok (.ldc2_w 186, 3) := by decide +kernel
theorem dX8_gives_26 : decode cX8_gives 26 = .ok (.lreturn, 1) := by decide +kernel
theorem dX8_gives_27 : decode cX8_gives 27 = .ok (.aload_n 0, 1) := by decide +kernel
theorem dX8_gives_28 : decode cX8_gives 28 = .ok (.getfield 68, 3) := by decide +kernel
theorem dX8_gives_31 : decode cX8_gives 31 = .ok (.iload_n 1, 1) := by decide +kernel
theorem dX8_gives_32 : decode cX8_gives 32 = .ok (.iload_n 2, 1) := by decide +kernel
theorem dX8_gives_33 : decode cX8_gives 33 = .ok (.invokevirtual 272, 3) := by decide +kernel
theorem dX8_gives_36 : decode cX8_gives 36 = .ok (.lreturn, 1) := by decide +kernel
theorem dX8_worth_0 : decode cX8_worth 0 = .ok (.aload_n 0, 1) := by decide +kernel
theorem dX8_worth_1 : decode cX8_worth 1 = .ok (.getfield 14, 3) := by decide +kernel
theorem dX8_worth_4 : decode cX8_worth 4 = .ok (.iload_n 1, 1) := by decide +kernel
theorem dX8_worth_5 : decode cX8_worth 5 = .ok (.invokevirtual 127, 3) := by decide +kernel
theorem dX8_worth_8 : decode cX8_worth 8 = .ok (.ifCond .eq 14, 3) := by decide +kernel
theorem dX8_worth_11 : decode cX8_worth 11 = .ok (.aload_n 0, 1) := by decide +kernel
theorem dX8_worth_12 : decode cX8_worth 12 = .ok (.getfield 68, 3) := by decide +kernel
theorem dX8_worth_15 : decode cX8_worth 15 = .ok (.iload_n 1, 1) := by decide +kernel
theorem dX8_worth_16 : decode cX8_worth 16 = .ok (.invokevirtual 276, 3) := by decide +kernel
theorem dX8_worth_19 : decode cX8_worth 19 = .ok (.goto 4, 3) := by decide +kernel
theorem dX8_worth_22 : decode cX8_worth 22 = .ok (.lconst 0, 1) := by decide +kernel
theorem dX8_worth_23 : decode cX8_worth 23 = .ok (.lreturn, 1) := by decide +kernel
theorem dX8_bound_0 : decode cX8_bound 0 = .ok (.aload_n 0, 1) := by decide +kernel
theorem dX8_bound_1 : decode cX8_bound 1 = .ok (.getfield 68, 3) := by decide +kernel
theorem dX8_bound_4 : decode cX8_bound 4 = .ok (.invokevirtual 279, 3) := by decide +kernel
theorem dX8_bound_7 : decode cX8_bound 7 = .ok (.aload_n 0, 1) := by decide +kernel
theorem dX8_bound_8 : decode cX8_bound 8 = .ok (.getfield 68, 3) := by decide +kernel
theorem dX8_bound_11 : decode cX8_bound 11 = .ok (.getfield 282, 3) := by decide +kernel
theorem dX8_bound_14 : decode cX8_bound 14 = .ok (.bipush (-4), 2) := by decide +kernel
theorem dX8_bound_16 : decode cX8_bound 16 = .ok (.if_icmp .ne 9, 3) := by decide +kernel
theorem dX8_bound_19 : decode cX8_bound 19 = .ok (.ldc2_w 194, 3) := by decide +kernel
theorem dX8_bound_22 : decode cX8_bound 22 = .ok (.goto 10, 3) := by decide +kernel
theorem dX8_bound_25 : decode cX8_bound 25 = .ok (.aload_n 0, 1) := by decide +kernel
theorem dX8_bound_26 : decode cX8_bound 26 = .ok (.getfield 68, 3) := by decide +kernel
theorem dX8_bound_29 : decode cX8_bound 29 = .ok (.invokevirtual 285, 3) := by decide +kernel
theorem dX8_bound_32 : decode cX8_bound 32 = .ok (.lreturn, 1) := by decide +kernel
theorem dX8_climb_0 : decode cX8_climb 0 = .ok (.iload_n 1, 1) := by decide +kernel
theorem dX8_climb_1 : decode cX8_climb 1 = .ok (.i2l, 1) := by decide +kernel
theorem dX8_climb_2 : decode cX8_climb 2 = .ok (.lconst 0, 1) := by decide +kernel
theorem dX8_climb_3 : decode cX8_climb 3 = .ok (.ldc2_w 289, 3) := by decide +kernel
theorem dX8_climb_6 : decode cX8_climb 6 = .ok (.invokestatic 79, 3) := by decide +kernel
theorem dX8_climb_9 : decode cX8_climb 9 = .ok (.ifCond .eq 15, 3) := by decide +kernel
theorem dX8_climb_12 : decode cX8_climb 12 = .ok (.iload_n 2, 1) := by decide +kernel
theorem dX8_climb_13 : decode cX8_climb 13 = .ok (.i2l, 1) := by decide +kernel
theorem dX8_climb_14 : decode cX8_climb 14 = .ok (.lconst 1, 1) := by decide +kernel
theorem dX8_climb_15 : decode cX8_climb 15 = .ok (.ldc2_w 118, 3) := by decide +kernel
theorem dX8_climb_18 : decode cX8_climb 18 = .ok (.invokestatic 79, 3) := by decide +kernel
theorem dX8_climb_21 : decode cX8_climb 21 = .ok (.ifCond .ne 5, 3) := by decide +kernel
theorem dX8_climb_24 : decode cX8_climb 24 = .ok (.iconst (-1), 1) := by decide +kernel
theorem dX8_climb_25 : decode cX8_climb 25 = .ok (.ireturn, 1) := by decide +kernel
theorem dX8_climb_26 : decode cX8_climb 26 = .ok (.aload_n 0, 1) := by decide +kernel
theorem dX8_climb_27 : decode cX8_climb 27 = .ok (.getfield 68, 3) := by decide +kernel
theorem dX8_climb_30 : decode cX8_climb 30 = .ok (.invokevirtual 279, 3) := by decide +kernel
theorem dX8_climb_33 : decode cX8_climb 33 = .ok (.aload_n 0, 1) := by decide +kernel
theorem dX8_climb_34 : decode cX8_climb 34 = .ok (.getfield 68, 3) := by decide +kernel
theorem dX8_climb_37 : decode cX8_climb 37 = .ok (.getfield 282, 3) := by decide +kernel
theorem dX8_climb_40 : decode cX8_climb 40 = .ok (.bipush (-4), 2) := by decide +kernel
theorem dX8_climb_42 : decode cX8_climb 42 = .ok (.if_icmp .ne 6, 3) := by decide +kernel
theorem dX8_climb_45 : decode cX8_climb 45 = .ok (.bipush (-2), 2) := by decide +kernel
theorem dX8_climb_47 : decode cX8_climb 47 = .ok (.ireturn, 1) := by decide +kernel
theorem dX8_climb_48 : decode cX8_climb 48 = .ok (.aload_n 0, 1) := by decide +kernel
theorem dX8_climb_49 : decode cX8_climb 49 = .ok (.getfield 68, 3) := by decide +kernel
theorem dX8_climb_52 : decode cX8_climb 52 = .ok (.iload_n 1, 1) := by decide +kernel
theorem dX8_climb_53 : decode cX8_climb 53 = .ok (.iload_n 2, 1) := by decide +kernel
theorem dX8_climb_54 : decode cX8_climb 54 = .ok (.invokevirtual 291, 3) := by decide +kernel
theorem dX8_climb_57 : decode cX8_climb 57 = .ok (.ireturn, 1) := by decide +kernel
theorem dX8_highest_0 : decode cX8_highest 0 = .ok (.aload_n 0, 1) := by decide +kernel
theorem dX8_highest_1 : decode cX8_highest 1 = .ok (.getfield 68, 3) := by decide +kernel
theorem dX8_highest_4 : decode cX8_highest 4 = .ok (.getfield 294, 3) := by decide +kernel
theorem dX8_highest_7 : decode cX8_highest 7 = .ok (.lreturn, 1) := by decide +kernel
theorem dX8_undo_0 : decode cX8_undo 0 = .ok (.aload_n 0, 1) := by decide +kernel
theorem dX8_undo_1 : decode cX8_undo 1 = .ok (.getfield 21, 3) := by decide +kernel
theorem dX8_undo_4 : decode cX8_undo 4 = .ok (.getfield 297, 3) := by decide +kernel
theorem dX8_undo_7 : decode cX8_undo 7 = .ok (.ifCond .ne 6, 3) := by decide +kernel
theorem dX8_undo_10 : decode cX8_undo 10 = .ok (.bipush (-4), 2) := by decide +kernel
theorem dX8_undo_12 : decode cX8_undo 12 = .ok (.ireturn, 1) := by decide +kernel
theorem dX8_undo_13 : decode cX8_undo 13 = .ok (.aload_n 0, 1) := by decide +kernel
theorem dX8_undo_14 : decode cX8_undo 14 = .ok (.getfield 21, 3) := by decide +kernel
theorem dX8_undo_17 : decode cX8_undo 17 = .ok (.aload_n 0, 1) := by decide +kernel
theorem dX8_undo_18 : decode cX8_undo 18 = .ok (.getfield 14, 3) := by decide +kernel
theorem dX8_undo_21 : decode cX8_undo 21 = .ok (.invokevirtual 300, 3) := by decide +kernel
theorem dX8_undo_24 : decode cX8_undo 24 = .ok (.aload_n 0, 1) := by decide +kernel
theorem dX8_undo_25 : decode cX8_undo 25 = .ok (.getfield 68, 3) := by decide +kernel
theorem dX8_undo_28 : decode cX8_undo 28 = .ok (.aload_n 0, 1) := by decide +kernel
theorem dX8_undo_29 : decode cX8_undo 29 = .ok (.getfield 14, 3) := by decide +kernel
theorem dX8_undo_32 : decode cX8_undo 32 = .ok (.getfield 83, 3) := by decide +kernel
theorem dX8_undo_35 : decode cX8_undo 35 = .ok (.invokevirtual 303, 3) := by decide +kernel
theorem dX8_undo_38 : decode cX8_undo 38 = .ok (.aload_n 0, 1) := by decide +kernel
theorem dX8_undo_39 : decode cX8_undo 39 = .ok (.invokevirtual 307, 3) := by decide +kernel
theorem dX8_undo_42 : decode cX8_undo 42 = .ok (.aload_n 0, 1) := by decide +kernel
theorem dX8_undo_43 : decode cX8_undo 43 = .ok (.getfield 21, 3) := by decide +kernel
theorem dX8_undo_46 : decode cX8_undo 46 = .ok (.getfield 297, 3) := by decide +kernel
theorem dX8_undo_49 : decode cX8_undo 49 = .ok (.ireturn, 1) := by decide +kernel
theorem dX8_count_0 : decode cX8_count 0 = .ok (.iload_n 1, 1) := by decide +kernel
theorem dX8_count_1 : decode cX8_count 1 = .ok (.tableswitch 90 0 5 #[39, 47, 55, 63, 71, 79], 39) := by decide +kernel
theorem dX8_count_40 : decode cX8_count 40 = .ok (.aload_n 0, 1) := by decide +kernel
theorem dX8_count_41 : decode cX8_count 41 = .ok (.getfield 14, 3) := by decide +kernel
theorem dX8_count_44 : decode cX8_count 44 = .ok (.getfield 83, 3) := by decide +kernel
theorem dX8_count_47 : decode cX8_count 47 = .ok (.ireturn, 1) := by decide +kernel
theorem dX8_count_48 : decode cX8_count 48 = .ok (.aload_n 0, 1) := by decide +kernel
theorem dX8_count_49 : decode cX8_count 49 = .ok (.getfield 14, 3) := by decide +kernel
theorem dX8_count_52 : decode cX8_count 52 = .ok (.getfield 120, 3) := by decide +kernel
theorem dX8_count_55 : decode cX8_count 55 = .ok (.ireturn, 1) := by decide +kernel
theorem dX8_count_56 : decode cX8_count 56 = .ok (.aload_n 0, 1) := by decide +kernel
theorem dX8_count_57 : decode cX8_count 57 = .ok (.getfield 14, 3) := by decide +kernel
theorem dX8_count_60 : decode cX8_count 60 = .ok (.invokevirtual 310, 3) := by decide +kernel
theorem dX8_count_63 : decode cX8_count 63 = .ok (.ireturn, 1) := by decide +kernel
theorem dX8_count_64 : decode cX8_count 64 = .ok (.aload_n 0, 1) := by decide +kernel
theorem dX8_count_65 : decode cX8_count 65 = .ok (.getfield 14, 3) := by decide +kernel
theorem dX8_count_68 : decode cX8_count 68 = .ok (.getfield 141, 3) := by decide +kernel
theorem dX8_count_71 : decode cX8_count 71 = .ok (.ireturn, 1) := by decide +kernel
theorem dX8_count_72 : decode cX8_count 72 = .ok (.aload_n 0, 1) := by decide +kernel
theorem dX8_count_73 : decode cX8_count 73 = .ok (.getfield 14, 3) := by decide +kernel
theorem dX8_count_76 : decode cX8_count 76 = .ok (.invokevirtual 313, 3) := by decide +kernel
theorem dX8_count_79 : decode cX8_count 79 = .ok (.ireturn, 1) := by decide +kernel
theorem dX8_count_80 : decode cX8_count 80 = .ok (.aload_n 0, 1) := by decide +kernel
theorem dX8_count_81 : decode cX8_count 81 = .ok (.getfield 43, 3) := by decide +kernel
theorem dX8_count_84 : decode cX8_count 84 = .ok (.getfield 254, 3) := by decide +kernel
theorem dX8_count_87 : decode cX8_count 87 = .ok (.invokestatic 316, 3) := by decide +kernel
theorem dX8_count_90 : decode cX8_count 90 = .ok (.ireturn, 1) := by decide +kernel
theorem dX8_count_91 : decode cX8_count 91 = .ok (.iconst (-1), 1) := by decide +kernel
theorem dX8_count_92 : decode cX8_count 92 = .ok (.ireturn, 1) := by decide +kernel
theorem dX8_isWithin_0 : decode cX8_isWithin 0 = .ok (.lload_n 0, 1) := by decide +kernel
theorem dX8_isWithin_1 : decode cX8_isWithin 1 = .ok (.lload_n 2, 1) := by decide +kernel
theorem dX8_isWithin_2 : decode cX8_isWithin 2 = .ok (.lcmp, 1) := by decide +kernel
theorem dX8_isWithin_3 : decode cX8_isWithin 3 = .ok (.ifCond .lt 14, 3) := by decide +kernel
theorem dX8_isWithin_6 : decode cX8_isWithin 6 = .ok (.lload_n 0, 1) := by decide +kernel
theorem dX8_isWithin_7 : decode cX8_isWithin 7 = .ok (.lload 4, 2) := by decide +kernel
theorem dX8_isWithin_9 : decode cX8_isWithin 9 = .ok (.lcmp, 1) := by decide +kernel
theorem dX8_isWithin_10 : decode cX8_isWithin 10 = .ok (.ifCond .gt 7, 3) := by decide +kernel
theorem dX8_isWithin_13 : decode cX8_isWithin 13 = .ok (.iconst 1, 1) := by decide +kernel
theorem dX8_isWithin_14 : decode cX8_isWithin 14 = .ok (.goto 4, 3) := by decide +kernel
theorem dX8_isWithin_17 : decode cX8_isWithin 17 = .ok (.iconst 0, 1) := by decide +kernel
theorem dX8_isWithin_18 : decode cX8_isWithin 18 = .ok (.ireturn, 1) := by decide +kernel
theorem dX8_isMap_0 : decode cX8_isMap 0 = .ok (.iload_n 0, 1) := by decide +kernel
theorem dX8_isMap_1 : decode cX8_isMap 1 = .ok (.i2l, 1) := by decide +kernel
theorem dX8_isMap_2 : decode cX8_isMap 2 = .ok (.lconst 0, 1) := by decide +kernel
theorem dX8_isMap_3 : decode cX8_isMap 3 = .ok (.ldc2_w 321, 3) := by decide +kernel
theorem dX8_isMap_6 : decode cX8_isMap 6 = .ok (.invokestatic 79, 3) := by decide +kernel
theorem dX8_isMap_9 : decode cX8_isMap 9 = .ok (.ireturn, 1) := by decide +kernel
theorem dX8_isLane_0 : decode cX8_isLane 0 = .ok (.iload_n 0, 1) := by decide +kernel
theorem dX8_isLane_1 : decode cX8_isLane 1 = .ok (.i2l, 1) := by decide +kernel
theorem dX8_isLane_2 : decode cX8_isLane 2 = .ok (.lconst 0, 1) := by decide +kernel
theorem dX8_isLane_3 : decode cX8_isLane 3 = .ok (.ldc2_w 199, 3) := by decide +kernel
theorem dX8_isLane_6 : decode cX8_isLane 6 = .ok (.invokestatic 79, 3) := by decide +kernel
theorem dX8_isLane_9 : decode cX8_isLane 9 = .ok (.ireturn, 1) := by decide +kernel
theorem dX8_isIn_0 : decode cX8_isIn 0 = .ok (.iload_n 0, 1) := by decide +kernel
theorem dX8_isIn_1 : decode cX8_isIn 1 = .ok (.iconst 1, 1) := by decide +kernel
theorem dX8_isIn_2 : decode cX8_isIn 2 = .ok (.iload_n 1, 1) := by decide +kernel
theorem dX8_isIn_3 : decode cX8_isIn 3 = .ok (.ishl, 1) := by decide +kernel
theorem dX8_isIn_4 : decode cX8_isIn 4 = .ok (.iand, 1) := by decide +kernel
theorem dX8_isIn_5 : decode cX8_isIn 5 = .ok (.ifCond .eq 7, 3) := by decide +kernel
theorem dX8_isIn_8 : decode cX8_isIn 8 = .ok (.iconst 1, 1) := by decide +kernel
theorem dX8_isIn_9 : decode cX8_isIn 9 = .ok (.goto 4, 3) := by decide +kernel
theorem dX8_isIn_12 : decode cX8_isIn 12 = .ok (.iconst 0, 1) := by decide +kernel
theorem dX8_isIn_13 : decode cX8_isIn 13 = .ok (.ireturn, 1) := by decide +kernel
theorem dX8_keepChange_0 : decode cX8_keepChange 0 = .ok (.aload_n 0, 1) := by decide +kernel
theorem dX8_keepChange_1 : decode cX8_keepChange 1 = .ok (.getfield 21, 3) := by decide +kernel
theorem dX8_keepChange_4 : decode cX8_keepChange 4 = .ok (.aload_n 0, 1) := by decide +kernel
theorem dX8_keepChange_5 : decode cX8_keepChange 5 = .ok (.getfield 14, 3) := by decide +kernel
theorem dX8_keepChange_8 : decode cX8_keepChange 8 = .ok (.invokevirtual 323, 3) := by decide +kernel
theorem dX8_keepChange_11 : decode cX8_keepChange 11 = .ok (.ifCond .eq 7, 3) := by decide +kernel
theorem dX8_keepChange_14 : decode cX8_keepChange 14 = .ok (.aload_n 0, 1) := by decide +kernel
theorem dX8_keepChange_15 : decode cX8_keepChange 15 = .ok (.invokevirtual 307, 3) := by decide +kernel
theorem dX8_keepChange_18 : decode cX8_keepChange 18 = .ok (.return_, 1) := by decide +kernel
theorem dX8_workOut_0 : decode cX8_workOut 0 = .ok (.aload_n 0, 1) := by decide +kernel
theorem dX8_workOut_1 : decode cX8_workOut 1 = .ok (.getfield 34, 3) := by decide +kernel
theorem dX8_workOut_4 : decode cX8_workOut 4 = .ok (.aload_n 0, 1) := by decide +kernel
theorem dX8_workOut_5 : decode cX8_workOut 5 = .ok (.getfield 14, 3) := by decide +kernel
theorem dX8_workOut_8 : decode cX8_workOut 8 = .ok (.invokevirtual 327, 3) := by decide +kernel
theorem dX8_workOut_11 : decode cX8_workOut 11 = .ok (.aload_n 0, 1) := by decide +kernel
theorem dX8_workOut_12 : decode cX8_workOut 12 = .ok (.getfield 43, 3) := by decide +kernel
theorem dX8_workOut_15 : decode cX8_workOut 15 = .ok (.aload_n 0, 1) := by decide +kernel
theorem dX8_workOut_16 : decode cX8_workOut 16 = .ok (.getfield 34, 3) := by decide +kernel
theorem dX8_workOut_19 : decode cX8_workOut 19 = .ok (.invokevirtual 330, 3) := by decide +kernel
theorem dX8_workOut_22 : decode cX8_workOut 22 = .ok (.aload_n 0, 1) := by decide +kernel
theorem dX8_workOut_23 : decode cX8_workOut 23 = .ok (.iconst 0, 1) := by decide +kernel
theorem dX8_workOut_24 : decode cX8_workOut 24 = .ok (.putfield 72, 3) := by decide +kernel
theorem dX8_workOut_27 : decode cX8_workOut 27 = .ok (.return_, 1) := by decide +kernel
theorem dX8_surveyChoices_0 : decode cX8_surveyChoices 0 = .ok (.aload_n 0, 1) := by decide +kernel
theorem dX8_surveyChoices_1 : decode cX8_surveyChoices 1 = .ok (.getfield 72, 3) := by decide +kernel
theorem dX8_surveyChoices_4 : decode cX8_surveyChoices 4 = .ok (.ifCond .ne 19, 3) := by decide +kernel
theorem dX8_surveyChoices_7 : decode cX8_surveyChoices 7 = .ok (.aload_n 0, 1) := by decide +kernel
theorem dX8_surveyChoices_8 : decode cX8_surveyChoices 8 = .ok (.getfield 50, 3) := by decide +kernel
theorem dX8_surveyChoices_11 : decode cX8_surveyChoices 11 = .ok (.aload_n 0, 1) := by decide +kernel
theorem dX8_surveyChoices_12 : decode cX8_surveyChoices 12 = .ok (.getfield 43, 3) := by decide +kernel
theorem dX8_surveyChoices_15 : decode cX8_surveyChoices 15 = .ok (.invokevirtual 334, 3) := by decide +kernel
theorem dX8_surveyChoices_18 : decode cX8_surveyChoices 18 = .ok (.aload_n 0, 1) := by decide +kernel
theorem dX8_surveyChoices_19 : decode cX8_surveyChoices 19 = .ok (.iconst 1, 1) := by decide +kernel
theorem dX8_surveyChoices_20 : decode cX8_surveyChoices 20 = .ok (.putfield 72, 3) := by decide +kernel
theorem dX8_surveyChoices_23 : decode cX8_surveyChoices 23 = .ok (.return_, 1) := by decide +kernel
theorem dX8_refusalToDraw_0 : decode cX8_refusalToDraw 0 = .ok (.aload_n 1, 1) := by decide +kernel
theorem dX8_refusalToDraw_1 : decode cX8_refusalToDraw 1 = .ok (.getfield 154, 3) := by decide +kernel
theorem dX8_refusalToDraw_4 : decode cX8_refusalToDraw 4 = .ok (.iconst (-1), 1) := by decide +kernel
theorem dX8_refusalToDraw_5 : decode cX8_refusalToDraw 5 = .ok (.if_icmp .ne 6, 3) := by decide +kernel
theorem dX8_refusalToDraw_8 : decode cX8_refusalToDraw 8 = .ok (.bipush (-11), 2) := by decide +kernel
theorem dX8_refusalToDraw_10 : decode cX8_refusalToDraw 10 = .ok (.ireturn, 1) := by decide +kernel
theorem dX8_refusalToDraw_11 : decode cX8_refusalToDraw 11 = .ok (.aload_n 1, 1) := by decide +kernel
theorem dX8_refusalToDraw_12 : decode cX8_refusalToDraw 12 = .ok (.getfield 154, 3) := by decide +kernel
theorem dX8_refusalToDraw_15 : decode cX8_refusalToDraw 15 = .ok (.iload_n 2, 1) := by decide +kernel
theorem dX8_refusalToDraw_16 : decode cX8_refusalToDraw 16 = .ok (.if_icmp .eq 6, 3) := by decide +kernel
theorem dX8_refusalToDraw_19 : decode cX8_refusalToDraw 19 = .ok (.bipush (-13), 2) := by decide +kernel
theorem dX8_refusalToDraw_21 : decode cX8_refusalToDraw 21 = .ok (.ireturn, 1) := by decide +kernel
theorem dX8_refusalToDraw_22 : decode cX8_refusalToDraw 22 = .ok (.iconst 0, 1) := by decide +kernel
theorem dX8_refusalToDraw_23 : decode cX8_refusalToDraw 23 = .ok (.istore 4, 2) := by decide +kernel
theorem dX8_refusalToDraw_25 : decode cX8_refusalToDraw 25 = .ok (.iload 4, 2) := by decide +kernel
theorem dX8_refusalToDraw_27 : decode cX8_refusalToDraw 27 = .ok (.iload_n 3, 1) := by decide +kernel
theorem dX8_refusalToDraw_28 : decode cX8_refusalToDraw 28 = .ok (.if_icmp .ge 65, 3) := by decide +kernel
theorem dX8_refusalToDraw_31 : decode cX8_refusalToDraw 31 = .ok (.aload_n 1, 1) := by decide +kernel
theorem dX8_refusalToDraw_32 : decode cX8_refusalToDraw 32 = .ok (.iload 4, 2) := by decide +kernel
theorem dX8_refusalToDraw_34 : decode cX8_refusalToDraw 34 = .ok (.invokevirtual 337, 3) := by decide +kernel
theorem dX8_refusalToDraw_37 : decode cX8_refusalToDraw 37 = .ok (.ifCond .ne 6, 3) := by decide +kernel
theorem dX8_refusalToDraw_40 : decode cX8_refusalToDraw 40 = .ok (.bipush (-12), 2) := by decide +kernel
theorem dX8_refusalToDraw_42 : decode cX8_refusalToDraw 42 = .ok (.ireturn, 1) := by decide +kernel
theorem dX8_refusalToDraw_43 : decode cX8_refusalToDraw 43 = .ok (.iload 4, 2) := by decide +kernel
theorem dX8_refusalToDraw_45 : decode cX8_refusalToDraw 45 = .ok (.iconst 3, 1) := by decide +kernel
theorem dX8_refusalToDraw_46 : decode cX8_refusalToDraw 46 = .ok (.imul, 1) := by decide +kernel
theorem dX8_refusalToDraw_47 : decode cX8_refusalToDraw 47 = .ok (.istore 5, 2) := by decide +kernel
theorem dX8_refusalToDraw_49 : decode cX8_refusalToDraw 49 = .ok (.aload_n 0, 1) := by decide +kernel
theorem dX8_refusalToDraw_50 : decode cX8_refusalToDraw 50 = .ok (.getfield 14, 3) := by decide +kernel
theorem dX8_refusalToDraw_53 : decode cX8_refusalToDraw 53 = .ok (.aload_n 1, 1) := by decide +kernel
theorem dX8_refusalToDraw_54 : decode cX8_refusalToDraw 54 = .ok (.getfield 340, 3) := by decide +kernel
theorem dX8_refusalToDraw_57 : decode cX8_refusalToDraw 57 = .ok (.iload 5, 2) := by decide +kernel
theorem dX8_refusalToDraw_59 : decode cX8_refusalToDraw 59 = .ok (.laload, 1) := by decide +kernel
theorem dX8_refusalToDraw_60 : decode cX8_refusalToDraw 60 = .ok (.aload_n 1, 1) := by decide +kernel
theorem dX8_refusalToDraw_61 : decode cX8_refusalToDraw 61 = .ok (.getfield 340, 3) := by decide +kernel
theorem dX8_refusalToDraw_64 : decode cX8_refusalToDraw 64 = .ok (.iload 5, 2) := by decide +kernel
theorem dX8_refusalToDraw_66 : decode cX8_refusalToDraw 66 = .ok (.iconst 1, 1) := by decide +kernel
theorem dX8_refusalToDraw_67 : decode cX8_refusalToDraw 67 = .ok (.iadd, 1) := by decide +kernel
theorem dX8_refusalToDraw_68 : decode cX8_refusalToDraw 68 = .ok (.laload, 1) := by decide +kernel
theorem dX8_refusalToDraw_69 : decode cX8_refusalToDraw 69 = .ok (.aload_n 1, 1) := by decide +kernel
theorem dX8_refusalToDraw_70 : decode cX8_refusalToDraw 70 = .ok (.getfield 340, 3) := by decide +kernel
theorem dX8_refusalToDraw_73 : decode cX8_refusalToDraw 73 = .ok (.iload 5, 2) := by decide +kernel
theorem dX8_refusalToDraw_75 : decode cX8_refusalToDraw 75 = .ok (.iconst 2, 1) := by decide +kernel
theorem dX8_refusalToDraw_76 : decode cX8_refusalToDraw 76 = .ok (.iadd, 1) := by decide +kernel
theorem dX8_refusalToDraw_77 : decode cX8_refusalToDraw 77 = .ok (.laload, 1) := by decide +kernel
theorem dX8_refusalToDraw_78 : decode cX8_refusalToDraw 78 = .ok (.invokevirtual 105, 3) := by decide +kernel
theorem dX8_refusalToDraw_81 : decode cX8_refusalToDraw 81 = .ok (.ifCond .ne 6, 3) := by decide +kernel
theorem dX8_refusalToDraw_84 : decode cX8_refusalToDraw 84 = .ok (.bipush (-21), 2) := by decide +kernel
theorem dX8_refusalToDraw_86 : decode cX8_refusalToDraw 86 = .ok (.ireturn, 1) := by decide +kernel
theorem dX8_refusalToDraw_87 : decode cX8_refusalToDraw 87 = .ok (.iinc 4 1, 3) := by decide +kernel
theorem dX8_refusalToDraw_90 : decode cX8_refusalToDraw 90 = .ok (.goto (-65), 3) := by decide +kernel
theorem dX8_refusalToDraw_93 : decode cX8_refusalToDraw 93 = .ok (.iconst 0, 1) := by decide +kernel
theorem dX8_refusalToDraw_94 : decode cX8_refusalToDraw 94 = .ok (.ireturn, 1) := by decide +kernel
theorem dX8_paveFrom_0 : decode cX8_paveFrom 0 = .ok (.iconst 0, 1) := by decide +kernel
theorem dX8_paveFrom_1 : decode cX8_paveFrom 1 = .ok (.istore_n 3, 1) := by decide +kernel
theorem dX8_paveFrom_2 : decode cX8_paveFrom 2 = .ok (.iload_n 3, 1) := by decide +kernel
theorem dX8_paveFrom_3 : decode cX8_paveFrom 3 = .ok (.iload_n 2, 1) := by decide +kernel
theorem dX8_paveFrom_4 : decode cX8_paveFrom 4 = .ok (.if_icmp .ge 57, 3) := by decide +kernel
theorem dX8_paveFrom_7 : decode cX8_paveFrom 7 = .ok (.aload_n 1, 1) := by decide +kernel
theorem dX8_paveFrom_8 : decode cX8_paveFrom 8 = .ok (.iload_n 3, 1) := by decide +kernel
theorem dX8_paveFrom_9 : decode cX8_paveFrom 9 = .ok (.invokevirtual 337, 3) := by decide +kernel
theorem dX8_paveFrom_12 : decode cX8_paveFrom 12 = .ok (.ifCond .eq 49, 3) := by decide +kernel
theorem dX8_paveFrom_15 : decode cX8_paveFrom 15 = .ok (.iload_n 3, 1) := by decide +kernel
theorem dX8_paveFrom_16 : decode cX8_paveFrom 16 = .ok (.iconst 3, 1) := by decide +kernel
theorem dX8_paveFrom_17 : decode cX8_paveFrom 17 = .ok (.imul, 1) := by decide +kernel
theorem dX8_paveFrom_18 : decode cX8_paveFrom 18 = .ok (.istore 4, 2) := by decide +kernel
theorem dX8_paveFrom_20 : decode cX8_paveFrom 20 = .ok (.aload_n 0, 1) := by decide +kernel
theorem dX8_paveFrom_21 : decode cX8_paveFrom 21 = .ok (.getfield 14, 3) := by decide +kernel
theorem dX8_paveFrom_24 : decode cX8_paveFrom 24 = .ok (.aload_n 1, 1) := by decide +kernel
theorem dX8_paveFrom_25 : decode cX8_paveFrom 25 = .ok (.getfield 340, 3) := by decide +kernel
theorem dX8_paveFrom_28 : decode cX8_paveFrom 28 = .ok (.iload 4, 2) := by decide +kernel
theorem dX8_paveFrom_30 : decode cX8_paveFrom 30 = .ok (.laload, 1) := by decide +kernel
theorem dX8_paveFrom_31 : decode cX8_paveFrom 31 = .ok (.l2i, 1) := by decide +kernel
theorem dX8_paveFrom_32 : decode cX8_paveFrom 32 = .ok (.aload_n 1, 1) := by decide +kernel
theorem dX8_paveFrom_33 : decode cX8_paveFrom 33 = .ok (.getfield 340, 3) := by decide +kernel
theorem dX8_paveFrom_36 : decode cX8_paveFrom 36 = .ok (.iload 4, 2) := by decide +kernel
theorem dX8_paveFrom_38 : decode cX8_paveFrom 38 = .ok (.iconst 1, 1) := by decide +kernel
theorem dX8_paveFrom_39 : decode cX8_paveFrom 39 = .ok (.iadd, 1) := by decide +kernel
theorem dX8_paveFrom_40 : decode cX8_paveFrom 40 = .ok (.laload, 1) := by decide +kernel
theorem dX8_paveFrom_41 : decode cX8_paveFrom 41 = .ok (.l2i, 1) := by decide +kernel
theorem dX8_paveFrom_42 : decode cX8_paveFrom 42 = .ok (.aload_n 1, 1) := by decide +kernel
theorem dX8_paveFrom_43 : decode cX8_paveFrom 43 = .ok (.getfield 340, 3) := by decide +kernel
theorem dX8_paveFrom_46 : decode cX8_paveFrom 46 = .ok (.iload 4, 2) := by decide +kernel
theorem dX8_paveFrom_48 : decode cX8_paveFrom 48 = .ok (.iconst 2, 1) := by decide +kernel
theorem dX8_paveFrom_49 : decode cX8_paveFrom 49 = .ok (.iadd, 1) := by decide +kernel
theorem dX8_paveFrom_50 : decode cX8_paveFrom 50 = .ok (.laload, 1) := by decide +kernel
theorem dX8_paveFrom_51 : decode cX8_paveFrom 51 = .ok (.l2i, 1) := by decide +kernel
theorem dX8_paveFrom_52 : decode cX8_paveFrom 52 = .ok (.invokevirtual 112, 3) := by decide +kernel
theorem dX8_paveFrom_55 : decode cX8_paveFrom 55 = .ok (.iinc 3 1, 3) := by decide +kernel
theorem dX8_paveFrom_58 : decode cX8_paveFrom 58 = .ok (.goto (-56), 3) := by decide +kernel
theorem dX8_paveFrom_61 : decode cX8_paveFrom 61 = .ok (.return_, 1) := by decide +kernel
end
section
theorem dX9_init_0 : decode cX9_init 0 = .ok (.aload_n 0, 1) := by decide +kernel
theorem dX9_init_1 : decode cX9_init 1 = .ok (.invokespecial 1, 3) := by decide +kernel
theorem dX9_init_4 : decode cX9_init 4 = .ok (.aload_n 0, 1) := by decide +kernel
theorem dX9_init_5 : decode cX9_init 5 = .ok (.bipush 12, 2) := by decide +kernel
theorem dX9_init_7 : decode cX9_init 7 = .ok (.newarray .int, 2) := by decide +kernel
theorem dX9_init_9 : decode cX9_init 9 = .ok (.putfield 7, 3) := by decide +kernel
theorem dX9_init_12 : decode cX9_init 12 = .ok (.aload_n 0, 1) := by decide +kernel
theorem dX9_init_13 : decode cX9_init 13 = .ok (.bipush 12, 2) := by decide +kernel
theorem dX9_init_15 : decode cX9_init 15 = .ok (.newarray .long, 2) := by decide +kernel
theorem dX9_init_17 : decode cX9_init 17 = .ok (.putfield 13, 3) := by decide +kernel
theorem dX9_init_20 : decode cX9_init 20 = .ok (.aload_n 0, 1) := by decide +kernel
theorem dX9_init_21 : decode cX9_init 21 = .ok (.sipush 144, 3) := by decide +kernel
theorem dX9_init_24 : decode cX9_init 24 = .ok (.newarray .int, 2) := by decide +kernel
theorem dX9_init_26 : decode cX9_init 26 = .ok (.putfield 17, 3) := by decide +kernel
theorem dX9_init_29 : decode cX9_init 29 = .ok (.aload_n 0, 1) := by decide +kernel
theorem dX9_init_30 : decode cX9_init 30 = .ok (.bipush 10, 2) := by decide +kernel
theorem dX9_init_32 : decode cX9_init 32 = .ok (.newarray .int, 2) := by decide +kernel
theorem dX9_init_34 : decode cX9_init 34 = .ok (.putfield 20, 3) := by decide +kernel
theorem dX9_init_37 : decode cX9_init 37 = .ok (.aload_n 0, 1) := by decide +kernel
theorem dX9_init_38 : decode cX9_init 38 = .ok (.bipush 10, 2) := by decide +kernel
theorem dX9_init_40 : decode cX9_init 40 = .ok (.newarray .int, 2) := by decide +kernel
theorem dX9_init_42 : decode cX9_init 42 = .ok (.putfield 23, 3) := by decide +kernel
theorem dX9_init_45 : decode cX9_init 45 = .ok (.aload_n 0, 1) := by decide +kernel
theorem dX9_init_46 : decode cX9_init 46 = .ok (.bipush 10, 2) := by decide +kernel
theorem dX9_init_48 : decode cX9_init 48 = .ok (.newarray .int, 2) := by decide +kernel
theorem dX9_init_50 : decode cX9_init 50 = .ok (.putfield 26, 3) := by decide +kernel
theorem dX9_init_53 : decode cX9_init 53 = .ok (.aload_n 0, 1) := by decide +kernel
theorem dX9_init_54 : decode cX9_init 54 = .ok (.bipush 10, 2) := by decide +kernel
theorem dX9_init_56 : decode cX9_init 56 = .ok (.newarray .int, 2) := by decide +kernel
theorem dX9_init_58 : decode cX9_init 58 = .ok (.putfield 29, 3) := by decide +kernel
theorem dX9_init_61 : decode cX9_init 61 = .ok (.aload_n 0, 1) := by decide +kernel
theorem dX9_init_62 : decode cX9_init 62 = .ok (.iconst 3, 1) := by decide +kernel
theorem dX9_init_63 : decode cX9_init 63 = .ok (.putfield 32, 3) := by decide +kernel
theorem dX9_init_66 : decode cX9_init 66 = .ok (.aload_n 0, 1) := by decide +kernel
theorem dX9_init_67 : decode cX9_init 67 = .ok (.iconst 4, 1) := by decide +kernel
theorem dX9_init_68 : decode cX9_init 68 = .ok (.newarray .int, 2) := by decide +kernel
theorem dX9_init_70 : decode cX9_init 70 = .ok (.dup, 1) := by decide +kernel
theorem dX9_init_71 : decode cX9_init 71 = .ok (.iconst 0, 1) := by decide +kernel
theorem dX9_init_72 : decode cX9_init 72 = .ok (.bipush (-4), 2) := by decide +kernel
theorem dX9_init_74 : decode cX9_init 74 = .ok (.iastore, 1) := by decide +kernel
theorem dX9_init_75 : decode cX9_init 75 = .ok (.dup, 1) := by decide +kernel
theorem dX9_init_76 : decode cX9_init 76 = .ok (.iconst 1, 1) := by decide +kernel
theorem dX9_init_77 : decode cX9_init 77 = .ok (.bipush (-4), 2) := by decide +kernel
theorem dX9_init_79 : decode cX9_init 79 = .ok (.iastore, 1) := by decide +kernel
theorem dX9_init_80 : decode cX9_init 80 = .ok (.dup, 1) := by decide +kernel
theorem dX9_init_81 : decode cX9_init 81 = .ok (.iconst 2, 1) := by decide +kernel
theorem dX9_init_82 : decode cX9_init 82 = .ok (.bipush (-4), 2) := by decide +kernel
theorem dX9_init_84 : decode cX9_init 84 = .ok (.iastore, 1) := by decide +kernel
theorem dX9_init_85 : decode cX9_init 85 = .ok (.dup, 1) := by decide +kernel
theorem dX9_init_86 : decode cX9_init 86 = .ok (.iconst 3, 1) := by decide +kernel
theorem dX9_init_87 : decode cX9_init 87 = .ok (.bipush (-4), 2) := by decide +kernel
theorem dX9_init_89 : decode cX9_init 89 = .ok (.iastore, 1) := by decide +kernel
theorem dX9_init_90 : decode cX9_init 90 = .ok (.putfield 36, 3) := by decide +kernel
theorem dX9_init_93 : decode cX9_init 93 = .ok (.aload_n 0, 1) := by decide +kernel
theorem dX9_init_94 : decode cX9_init 94 = .ok (.iconst 4, 1) := by decide +kernel
theorem dX9_init_95 : decode cX9_init 95 = .ok (.newarray .int, 2) := by decide +kernel
theorem dX9_init_97 : decode cX9_init 97 = .ok (.putfield 39, 3) := by decide +kernel
theorem dX9_init_100 : decode cX9_init 100 = .ok (.aload_n 0, 1) := by decide +kernel
theorem dX9_init_101 : decode cX9_init 101 = .ok (.sipush 240, 3) := by decide +kernel
theorem dX9_init_104 : decode cX9_init 104 = .ok (.newarray .long, 2) := by decide +kernel
theorem dX9_init_106 : decode cX9_init 106 = .ok (.putfield 42, 3) := by decide +kernel
theorem dX9_init_109 : decode cX9_init 109 = .ok (.aload_n 0, 1) := by decide +kernel
theorem dX9_init_110 : decode cX9_init 110 = .ok (.bipush 10, 2) := by decide +kernel
theorem dX9_init_112 : decode cX9_init 112 = .ok (.newarray .int, 2) := by decide +kernel
theorem dX9_init_114 : decode cX9_init 114 = .ok (.putfield 45, 3) := by decide +kernel
theorem dX9_init_117 : decode cX9_init 117 = .ok (.aload_n 0, 1) := by decide +kernel
theorem dX9_init_118 : decode cX9_init 118 = .ok (.bipush 120, 2) := by decide +kernel
theorem dX9_init_120 : decode cX9_init 120 = .ok (.newarray .int, 2) := by decide +kernel
theorem dX9_init_122 : decode cX9_init 122 = .ok (.putfield 48, 3) := by decide +kernel
theorem dX9_init_125 : decode cX9_init 125 = .ok (.aload_n 0, 1) := by decide +kernel
theorem dX9_init_126 : decode cX9_init 126 = .ok (.sipush 1440, 3) := by decide +kernel
theorem dX9_init_129 : decode cX9_init 129 = .ok (.newarray .int, 2) := by decide +kernel
theorem dX9_init_131 : decode cX9_init 131 = .ok (.putfield 51, 3) := by decide +kernel
theorem dX9_init_134 : decode cX9_init 134 = .ok (.aload_n 0, 1) := by decide +kernel
theorem dX9_init_135 : decode cX9_init 135 = .ok (.bipush 10, 2) := by decide +kernel
theorem dX9_init_137 : decode cX9_init 137 = .ok (.newarray .int, 2) := by decide +kernel
theorem dX9_init_139 : decode cX9_init 139 = .ok (.putfield 54, 3) := by decide +kernel
theorem dX9_init_142 : decode cX9_init 142 = .ok (.aload_n 0, 1) := by decide +kernel
theorem dX9_init_143 : decode cX9_init 143 = .ok (.bipush 100, 2) := by decide +kernel
theorem dX9_init_145 : decode cX9_init 145 = .ok (.newarray .int, 2) := by decide +kernel
theorem dX9_init_147 : decode cX9_init 147 = .ok (.putfield 57, 3) := by decide +kernel
theorem dX9_init_150 : decode cX9_init 150 = .ok (.aload_n 0, 1) := by decide +kernel
theorem dX9_init_151 : decode cX9_init 151 = .ok (.bipush 10, 2) := by decide +kernel
theorem dX9_init_153 : decode cX9_init 153 = .ok (.newarray .int, 2) := by decide +kernel
theorem dX9_init_155 : decode cX9_init 155 = .ok (.putfield 60, 3) := by decide +kernel
theorem dX9_init_158 : decode cX9_init 158 = .ok (.aload_n 0, 1) := by decide +kernel
theorem dX9_init_159 : decode cX9_init 159 = .ok (.sipush 144, 3) := by decide +kernel
theorem dX9_init_162 : decode cX9_init 162 = .ok (.newarray .int, 2) := by decide +kernel
theorem dX9_init_164 : decode cX9_init 164 = .ok (.putfield 63, 3) := by decide +kernel
theorem dX9_init_167 : decode cX9_init 167 = .ok (.aload_n 0, 1) := by decide +kernel
theorem dX9_init_168 : decode cX9_init 168 = .ok (.sipush 144, 3) := by decide +kernel
theorem dX9_init_171 : decode cX9_init 171 = .ok (.newarray .int, 2) := by decide +kernel
theorem dX9_init_173 : decode cX9_init 173 = .ok (.putfield 66, 3) := by decide +kernel
theorem dX9_init_176 : decode cX9_init 176 = .ok (.aload_n 0, 1) := by decide +kernel
theorem dX9_init_177 : decode cX9_init 177 = .ok (.bipush 10, 2) := by decide +kernel
theorem dX9_init_179 : decode cX9_init 179 = .ok (.newarray .long, 2) := by decide +kernel
theorem dX9_init_181 : decode cX9_init 181 = .ok (.putfield 69, 3) := by decide +kernel
theorem dX9_init_184 : decode cX9_init 184 = .ok (.return_, 1) := by decide +kernel
theorem dX9_in_0 : decode cX9_in 0 = .ok (.lload_n 0, 1) := by decide +kernel
theorem dX9_in_1 : decode cX9_in 1 = .ok (.lload_n 2, 1) := by decide +kernel
theorem dX9_in_2 : decode cX9_in 2 = .ok (.lcmp, 1) := by decide +kernel
theorem dX9_in_3 : decode cX9_in 3 = .ok (.ifCond .lt 14, 3) := by decide +kernel
theorem dX9_in_6 : decode cX9_in 6 = .ok (.lload_n 0, 1) := by decide +kernel
theorem dX9_in_7 : decode cX9_in 7 = .ok (.lload 4, 2) := by decide +kernel
theorem dX9_in_9 : decode cX9_in 9 = .ok (.lcmp, 1) := by decide +kernel
theorem dX9_in_10 : decode cX9_in 10 = .ok (.ifCond .gt 7, 3) := by decide +kernel
theorem dX9_in_13 : decode cX9_in 13 = .ok (.iconst 1, 1) := by decide +kernel
theorem dX9_in_14 : decode cX9_in 14 = .ok (.goto 4, 3) := by decide +kernel
theorem dX9_in_17 : decode cX9_in 17 = .ok (.iconst 0, 1) := by decide +kernel
theorem dX9_in_18 : decode cX9_in 18 = .ok (.ireturn, 1) := by decide +kernel
theorem dX9_keep_0 : decode cX9_keep 0 = .ok (.aload_n 0, 1) := by decide +kernel
theorem dX9_keep_1 : decode cX9_keep 1 = .ok (.getfield 72, 3) := by decide +kernel
theorem dX9_keep_4 : decode cX9_keep 4 = .ok (.bipush 10, 2) := by decide +kernel
theorem dX9_keep_6 : decode cX9_keep 6 = .ok (.if_icmp .ne 158, 3) := by decide +kernel
theorem dX9_keep_9 : decode cX9_keep 9 = .ok (.iconst 0, 1) := by decide +kernel
theorem dX9_keep_10 : decode cX9_keep 10 = .ok (.istore_n 1, 1) := by decide +kernel
theorem dX9_keep_11 : decode cX9_keep 11 = .ok (.iload_n 1, 1) := by decide +kernel
theorem dX9_keep_12 : decode cX9_keep 12 = .ok (.sipush 1296, 3) := by decide +kernel
theorem dX9_keep_15 : decode cX9_keep 15 = .ok (.if_icmp .ge 25, 3) := by decide +kernel
theorem dX9_keep_18 : decode cX9_keep 18 = .ok (.aload_n 0, 1) := by decide +kernel
theorem dX9_keep_19 : decode cX9_keep 19 = .ok (.getfield 51, 3) := by decide +kernel
theorem dX9_keep_22 : decode cX9_keep 22 = .ok (.iload_n 1, 1) := by decide +kernel
theorem dX9_keep_23 : decode cX9_keep 23 = .ok (.aload_n 0, 1) := by decide +kernel
theorem dX9_keep_24 : decode cX9_keep 24 = .ok (.getfield 51, 3) := by decide +kernel
theorem dX9_keep_27 : decode cX9_keep 27 = .ok (.iload_n 1, 1) := by decide +kernel
theorem dX9_keep_28 : decode cX9_keep 28 = .ok (.sipush 144, 3) := by decide +kernel
theorem dX9_keep_31 : decode cX9_keep 31 = .ok (.iadd, 1) := by decide +kernel
theorem dX9_keep_32 : decode cX9_keep 32 = .ok (.iaload, 1) := by decide +kernel
theorem dX9_keep_33 : decode cX9_keep 33 = .ok (.iastore, 1) := by decide +kernel
theorem dX9_keep_34 : decode cX9_keep 34 = .ok (.iinc 1 1, 3) := by decide +kernel
theorem dX9_keep_37 : decode cX9_keep 37 = .ok (.goto (-26), 3) := by decide +kernel
theorem dX9_keep_40 : decode cX9_keep 40 = .ok (.iconst 0, 1) := by decide +kernel
theorem dX9_keep_41 : decode cX9_keep 41 = .ok (.istore_n 1, 1) := by decide +kernel
theorem dX9_keep_42 : decode cX9_keep 42 = .ok (.iload_n 1, 1) := by decide +kernel
theorem dX9_keep_43 : decode cX9_keep 43 = .ok (.bipush 108, 2) := by decide +kernel
theorem dX9_keep_45 : decode cX9_keep 45 = .ok (.if_icmp .ge 24, 3) := by decide +kernel
theorem dX9_keep_48 : decode cX9_keep 48 = .ok (.aload_n 0, 1) := by decide +kernel
theorem dX9_keep_49 : decode cX9_keep 49 = .ok (.getfield 48, 3) := by decide +kernel
theorem dX9_keep_52 : decode cX9_keep 52 = .ok (.iload_n 1, 1) := by decide +kernel
theorem dX9_keep_53 : decode cX9_keep 53 = .ok (.aload_n 0, 1) := by decide +kernel
theorem dX9_keep_54 : decode cX9_keep 54 = .ok (.getfield 48, 3) := by decide +kernel
theorem dX9_keep_57 : decode cX9_keep 57 = .ok (.iload_n 1, 1) := by decide +kernel
theorem dX9_keep_58 : decode cX9_keep 58 = .ok (.bipush 12, 2) := by decide +kernel
theorem dX9_keep_60 : decode cX9_keep 60 = .ok (.iadd, 1) := by decide +kernel
theorem dX9_keep_61 : decode cX9_keep 61 = .ok (.iaload, 1) := by decide +kernel
theorem dX9_keep_62 : decode cX9_keep 62 = .ok (.iastore, 1) := by decide +kernel
theorem dX9_keep_63 : decode cX9_keep 63 = .ok (.iinc 1 1, 3) := by decide +kernel
theorem dX9_keep_66 : decode cX9_keep 66 = .ok (.goto (-24), 3) := by decide +kernel
theorem dX9_keep_69 : decode cX9_keep 69 = .ok (.iconst 0, 1) := by decide +kernel
theorem dX9_keep_70 : decode cX9_keep 70 = .ok (.istore_n 1, 1) := by decide +kernel
theorem dX9_keep_71 : decode cX9_keep 71 = .ok (.iload_n 1, 1) := by decide +kernel
theorem dX9_keep_72 : decode cX9_keep 72 = .ok (.bipush 90, 2) := by decide +kernel
theorem dX9_keep_74 : decode cX9_keep 74 = .ok (.if_icmp .ge 24, 3) := by decide +kernel
theorem dX9_keep_77 : decode cX9_keep 77 = .ok (.aload_n 0, 1) := by decide +kernel
theorem dX9_keep_78 : decode cX9_keep 78 = .ok (.getfield 57, 3) := by decide +kernel
theorem dX9_keep_81 : decode cX9_keep 81 = .ok (.iload_n 1, 1) := by decide +kernel
theorem dX9_keep_82 : decode cX9_keep 82 = .ok (.aload_n 0, 1) := by decide +kernel
theorem dX9_keep_83 : decode cX9_keep 83 = .ok (.getfield 57, 3) := by decide +kernel
theorem dX9_keep_86 : decode cX9_keep 86 = .ok (.iload_n 1, 1) := by decide +kernel
theorem dX9_keep_87 : decode cX9_keep 87 = .ok (.bipush 10, 2) := by decide +kernel
theorem dX9_keep_89 : decode cX9_keep 89 = .ok (.iadd, 1) := by decide +kernel
theorem dX9_keep_90 : decode cX9_keep 90 = .ok (.iaload, 1) := by decide +kernel
theorem dX9_keep_91 : decode cX9_keep 91 = .ok (.iastore, 1) := by decide +kernel
theorem dX9_keep_92 : decode cX9_keep 92 = .ok (.iinc 1 1, 3) := by decide +kernel
theorem dX9_keep_95 : decode cX9_keep 95 = .ok (.goto (-24), 3) := by decide +kernel
theorem dX9_keep_98 : decode cX9_keep 98 = .ok (.iconst 0, 1) := by decide +kernel
theorem dX9_keep_99 : decode cX9_keep 99 = .ok (.istore_n 1, 1) := by decide +kernel
theorem dX9_keep_100 : decode cX9_keep 100 = .ok (.iload_n 1, 1) := by decide +kernel
theorem dX9_keep_101 : decode cX9_keep 101 = .ok (.bipush 9, 2) := by decide +kernel
theorem dX9_keep_103 : decode cX9_keep 103 = .ok (.if_icmp .ge 51, 3) := by decide +kernel
theorem dX9_keep_106 : decode cX9_keep 106 = .ok (.aload_n 0, 1) := by decide +kernel
theorem dX9_keep_107 : decode cX9_keep 107 = .ok (.getfield 45, 3) := by decide +kernel
theorem dX9_keep_110 : decode cX9_keep 110 = .ok (.iload_n 1, 1) := by decide +kernel
theorem dX9_keep_111 : decode cX9_keep 111 = .ok (.aload_n 0, 1) := by decide +kernel
theorem dX9_keep_112 : decode cX9_keep 112 = .ok (.getfield 45, 3) := by decide +kernel
theorem dX9_keep_115 : decode cX9_keep 115 = .ok (.iload_n 1, 1) := by decide +kernel
theorem dX9_keep_116 : decode cX9_keep 116 = .ok (.iconst 1, 1) := by decide +kernel
theorem dX9_keep_117 : decode cX9_keep 117 = .ok (.iadd, 1) := by decide +kernel
theorem dX9_keep_118 : decode cX9_keep 118 = .ok (.iaload, 1) := by decide +kernel
theorem dX9_keep_119 : decode cX9_keep 119 = .ok (.iastore, 1) := by decide +kernel
theorem dX9_keep_120 : decode cX9_keep 120 = .ok (.aload_n 0, 1) := by decide +kernel
theorem dX9_keep_121 : decode cX9_keep 121 = .ok (.getfield 54, 3) := by decide +kernel
theorem dX9_keep_124 : decode cX9_keep 124 = .ok (.iload_n 1, 1) := by decide +kernel
theorem dX9_keep_125 : decode cX9_keep 125 = .ok (.aload_n 0, 1) := by decide +kernel
theorem dX9_keep_126 : decode cX9_keep 126 = .ok (.getfield 54, 3) := by decide +kernel
theorem dX9_keep_129 : decode cX9_keep 129 = .ok (.iload_n 1, 1) := by decide +kernel
theorem dX9_keep_130 : decode cX9_keep 130 = .ok (.iconst 1, 1) := by decide +kernel
theorem dX9_keep_131 : decode cX9_keep 131 = .ok (.iadd, 1) := by decide +kernel
theorem dX9_keep_132 : decode cX9_keep 132 = .ok (.iaload, 1) := by decide +kernel
theorem dX9_keep_133 : decode cX9_keep 133 = .ok (.iastore, 1) := by decide +kernel
theorem dX9_keep_134 : decode cX9_keep 134 = .ok (.aload_n 0, 1) := by decide +kernel
theorem dX9_keep_135 : decode cX9_keep 135 = .ok (.getfield 60, 3) := by decide +kernel
theorem dX9_keep_138 : decode cX9_keep 138 = .ok (.iload_n 1, 1) := by decide +kernel
theorem dX9_keep_139 : decode cX9_keep 139 = .ok (.aload_n 0, 1) := by decide +kernel
theorem dX9_keep_140 : decode cX9_keep 140 = .ok (.getfield 60, 3) := by decide +kernel
theorem dX9_keep_143 : decode cX9_keep 143 = .ok (.iload_n 1, 1) := by decide +kernel
theorem dX9_keep_144 : decode cX9_keep 144 = .ok (.iconst 1, 1) := by decide +kernel
theorem dX9_keep_145 : decode cX9_keep 145 = .ok (.iadd, 1) := by decide +kernel
theorem dX9_keep_146 : decode cX9_keep 146 = .ok (.iaload, 1) := by decide +kernel
theorem dX9_keep_147 : decode cX9_keep 147 = .ok (.iastore, 1) := by decide +kernel
theorem dX9_keep_148 : decode cX9_keep 148 = .ok (.iinc 1 1, 3) := by decide +kernel
theorem dX9_keep_151 : decode cX9_keep 151 = .ok (.goto (-51), 3) := by decide +kernel
theorem dX9_keep_154 : decode cX9_keep 154 = .ok (.aload_n 0, 1) := by decide +kernel
theorem dX9_keep_155 : decode cX9_keep 155 = .ok (.dup, 1) := by decide +kernel
theorem dX9_keep_156 : decode cX9_keep 156 = .ok (.getfield 72, 3) := by decide +kernel
theorem dX9_keep_159 : decode cX9_keep 159 = .ok (.iconst 1, 1) := by decide +kernel
theorem dX9_keep_160 : decode cX9_keep 160 = .ok (.isub, 1) := by decide +kernel
theorem dX9_keep_161 : decode cX9_keep 161 = .ok (.putfield 72, 3) := by decide +kernel
theorem dX9_keep_164 : decode cX9_keep 164 = .ok (.iconst 0, 1) := by decide +kernel
theorem dX9_keep_165 : decode cX9_keep 165 = .ok (.istore_n 1, 1) := by decide +kernel
theorem dX9_keep_166 : decode cX9_keep 166 = .ok (.iload_n 1, 1) := by decide +kernel
theorem dX9_keep_167 : decode cX9_keep 167 = .ok (.sipush 144, 3) := by decide +kernel
theorem dX9_keep_170 : decode cX9_keep 170 = .ok (.if_icmp .ge 30, 3) := by decide +kernel
theorem dX9_keep_173 : decode cX9_keep 173 = .ok (.aload_n 0, 1) := by decide +kernel
theorem dX9_keep_174 : decode cX9_keep 174 = .ok (.getfield 51, 3) := by decide +kernel
theorem dX9_keep_177 : decode cX9_keep 177 = .ok (.sipush 144, 3) := by decide +kernel
theorem dX9_keep_180 : decode cX9_keep 180 = .ok (.aload_n 0, 1) := by decide +kernel
theorem dX9_keep_181 : decode cX9_keep 181 = .ok (.getfield 72, 3) := by decide +kernel
theorem dX9_keep_184 : decode cX9_keep 184 = .ok (.imul, 1) := by decide +kernel
theorem dX9_keep_185 : decode cX9_keep 185 = .ok (.iload_n 1, 1) := by decide +kernel
theorem dX9_keep_186 : decode cX9_keep 186 = .ok (.iadd, 1) := by decide +kernel
theorem dX9_keep_187 : decode cX9_keep 187 = .ok (.aload_n 0, 1) := by decide +kernel
theorem dX9_keep_188 : decode cX9_keep 188 = .ok (.getfield 17, 3) := by decide +kernel
theorem dX9_keep_191 : decode cX9_keep 191 = .ok (.iload_n 1, 1) := by decide +kernel
theorem dX9_keep_192 : decode cX9_keep 192 = .ok (.iaload, 1) := by decide +kernel
theorem dX9_keep_193 : decode cX9_keep 193 = .ok (.iastore, 1) := by decide +kernel
theorem dX9_keep_194 : decode cX9_keep 194 = .ok (.iinc 1 1, 3) := by decide +kernel
theorem dX9_keep_197 : decode cX9_keep 197 = .ok (.goto (-31), 3) := by decide +kernel
theorem dX9_keep_200 : decode cX9_keep 200 = .ok (.iconst 0, 1) := by decide +kernel
theorem dX9_keep_201 : decode cX9_keep 201 = .ok (.istore_n 1, 1) := by decide +kernel
theorem dX9_keep_202 : decode cX9_keep 202 = .ok (.iload_n 1, 1) := by decide +kernel
theorem dX9_keep_203 : decode cX9_keep 203 = .ok (.bipush 12, 2) := by decide +kernel
theorem dX9_keep_205 : decode cX9_keep 205 = .ok (.if_icmp .ge 29, 3) := by decide +kernel
theorem dX9_keep_208 : decode cX9_keep 208 = .ok (.aload_n 0, 1) := by decide +kernel
theorem dX9_keep_209 : decode cX9_keep 209 = .ok (.getfield 48, 3) := by decide +kernel
theorem dX9_keep_212 : decode cX9_keep 212 = .ok (.bipush 12, 2) := by decide +kernel
theorem dX9_keep_214 : decode cX9_keep 214 = .ok (.aload_n 0, 1) := by decide +kernel
theorem dX9_keep_215 : decode cX9_keep 215 = .ok (.getfield 72, 3) := by decide +kernel
theorem dX9_keep_218 : decode cX9_keep 218 = .ok (.imul, 1) := by decide +kernel
theorem dX9_keep_219 : decode cX9_keep 219 = .ok (.iload_n 1, 1) := by decide +kernel
theorem dX9_keep_220 : decode cX9_keep 220 = .ok (.iadd, 1) := by decide +kernel
theorem dX9_keep_221 : decode cX9_keep 221 = .ok (.aload_n 0, 1) := by decide +kernel
theorem dX9_keep_222 : decode cX9_keep 222 = .ok (.getfield 7, 3) := by decide +kernel
theorem dX9_keep_225 : decode cX9_keep 225 = .ok (.iload_n 1, 1) := by decide +kernel
theorem dX9_keep_226 : decode cX9_keep 226 = .ok (.iaload, 1) := by decide +kernel
theorem dX9_keep_227 : decode cX9_keep 227 = .ok (.iastore, 1) := by decide +kernel
theorem dX9_keep_228 : decode cX9_keep 228 = .ok (.iinc 1 1, 3) := by decide +kernel
theorem dX9_keep_231 : decode cX9_keep 231 = .ok (.goto (-29), 3) := by decide +kernel
theorem dX9_keep_234 : decode cX9_keep 234 = .ok (.iconst 0, 1) := by decide +kernel
theorem dX9_keep_235 : decode cX9_keep 235 = .ok (.istore_n 1, 1) := by decide +kernel
theorem dX9_keep_236 : decode cX9_keep 236 = .ok (.iload_n 1, 1) := by decide +kernel
theorem dX9_keep_237 : decode cX9_keep 237 = .ok (.bipush 10, 2) := by decide +kernel
theorem dX9_keep_239 : decode cX9_keep 239 = .ok (.if_icmp .ge 29, 3) := by decide +kernel
theorem dX9_keep_242 : decode cX9_keep 242 = .ok (.aload_n 0, 1) := by decide +kernel
theorem dX9_keep_243 : decode cX9_keep 243 = .ok (.getfield 57, 3) := by decide +kernel
theorem dX9_keep_246 : decode cX9_keep 246 = .ok (.bipush 10, 2) := by decide +kernel
theorem dX9_keep_248 : decode cX9_keep 248 = .ok (.aload_n 0, 1) := by decide +kernel
theorem dX9_keep_249 : decode cX9_keep 249 = .ok (.getfield 72, 3) := by decide +kernel
theorem dX9_keep_252 : decode cX9_keep 252 = .ok (.imul, 1) := by decide +kernel
theorem dX9_keep_253 : decode cX9_keep 253 = .ok (.iload_n 1, 1) := by decide +kernel
theorem dX9_keep_254 : decode cX9_keep 254 = .ok (.iadd, 1) := by decide +kernel
theorem dX9_keep_255 : decode cX9_keep 255 = .ok (.aload_n 0, 1) := by decide +kernel
theorem dX9_keep_256 : decode cX9_keep 256 = .ok (.getfield 29, 3) := by decide +kernel
theorem dX9_keep_259 : decode cX9_keep 259 = .ok (.iload_n 1, 1) := by decide +kernel
theorem dX9_keep_260 : decode cX9_keep 260 = .ok (.iaload, 1) := by decide +kernel
theorem dX9_keep_261 : decode cX9_keep 261 = .ok (.iastore, 1) := by decide +kernel
theorem dX9_keep_262 : decode cX9_keep 262 = .ok (.iinc 1 1, 3) := by decide +kernel
theorem dX9_keep_265 : decode cX9_keep 265 = .ok (.goto (-29), 3) := by decide +kernel
theorem dX9_keep_268 : decode cX9_keep 268 = .ok (.aload_n 0, 1) := by decide +kernel
theorem dX9_keep_269 : decode cX9_keep 269 = .ok (.getfield 45, 3) := by decide +kernel
theorem dX9_keep_272 : decode cX9_keep 272 = .ok (.aload_n 0, 1) := by decide +kernel
theorem dX9_keep_273 : decode cX9_keep 273 = .ok (.getfield 72, 3) := by decide +kernel
theorem dX9_keep_276 : decode cX9_keep 276 = .ok (.aload_n 0, 1) := by decide +kernel
theorem dX9_keep_277 : decode cX9_keep 277 = .ok (.getfield 75, 3) := by decide +kernel
theorem dX9_keep_280 : decode cX9_keep 280 = .ok (.iastore, 1) := by decide +kernel
theorem dX9_keep_281 : decode cX9_keep 281 = .ok (.aload_n 0, 1) := by decide +kernel
theorem dX9_keep_282 : decode cX9_keep 282 = .ok (.getfield 54, 3) := by decide +kernel
theorem dX9_keep_285 : decode cX9_keep 285 = .ok (.aload_n 0, 1) := by decide +kernel
theorem dX9_keep_286 : decode cX9_keep 286 = .ok (.getfield 72, 3) := by decide +kernel
theorem dX9_keep_289 : decode cX9_keep 289 = .ok (.aload_n 0, 1) := by decide +kernel
theorem dX9_keep_290 : decode cX9_keep 290 = .ok (.getfield 78, 3) := by decide +kernel
theorem dX9_keep_293 : decode cX9_keep 293 = .ok (.iastore, 1) := by decide +kernel
theorem dX9_keep_294 : decode cX9_keep 294 = .ok (.aload_n 0, 1) := by decide +kernel
theorem dX9_keep_295 : decode cX9_keep 295 = .ok (.getfield 60, 3) := by decide +kernel
theorem dX9_keep_298 : decode cX9_keep 298 = .ok (.aload_n 0, 1) := by decide +kernel
theorem dX9_keep_299 : decode cX9_keep 299 = .ok (.getfield 72, 3) := by decide +kernel
theorem dX9_keep_302 : decode cX9_keep 302 = .ok (.aload_n 0, 1) := by decide +kernel
theorem dX9_keep_303 : decode cX9_keep 303 = .ok (.getfield 32, 3) := by decide +kernel
theorem dX9_keep_306 : decode cX9_keep 306 = .ok (.iastore, 1) := by decide +kernel
theorem dX9_keep_307 : decode cX9_keep 307 = .ok (.aload_n 0, 1) := by decide +kernel
theorem dX9_keep_308 : decode cX9_keep 308 = .ok (.dup, 1) := by decide +kernel
theorem dX9_keep_309 : decode cX9_keep 309 = .ok (.getfield 72, 3) := by decide +kernel
theorem dX9_keep_312 : decode cX9_keep 312 = .ok (.iconst 1, 1) := by decide +kernel
theorem dX9_keep_313 : decode cX9_keep 313 = .ok (.iadd, 1) := by decide +kernel
theorem dX9_keep_314 : decode cX9_keep 314 = .ok (.putfield 72, 3) := by decide +kernel
theorem dX9_keep_317 : decode cX9_keep 317 = .ok (.return_, 1) := by decide +kernel
theorem dX9_undo_0 : decode cX9_undo 0 = .ok (.aload_n 0, 1) := by decide +kernel
theorem dX9_undo_1 : decode cX9_undo 1 = .ok (.getfield 72, 3) := by decide +kernel
theorem dX9_undo_4 : decode cX9_undo 4 = .ok (.ifCond .ne 6, 3) := by decide +kernel
theorem dX9_undo_7 : decode cX9_undo 7 = .ok (.bipush (-4), 2) := by decide +kernel
theorem dX9_undo_9 : decode cX9_undo 9 = .ok (.ireturn, 1) := by decide +kernel
theorem dX9_undo_10 : decode cX9_undo 10 = .ok (.aload_n 0, 1) := by decide +kernel
theorem dX9_undo_11 : decode cX9_undo 11 = .ok (.dup, 1) := by decide +kernel
theorem dX9_undo_12 : decode cX9_undo 12 = .ok (.getfield 72, 3) := by decide +kernel
theorem dX9_undo_15 : decode cX9_undo 15 = .ok (.iconst 1, 1) := by decide +kernel
theorem dX9_undo_16 : decode cX9_undo 16 = .ok (.isub, 1) := by decide +kernel
theorem dX9_undo_17 : decode cX9_undo 17 = .ok (.putfield 72, 3) := by decide +kernel
theorem dX9_undo_20 : decode cX9_undo 20 = .ok (.iconst 0, 1) := by decide +kernel
theorem dX9_undo_21 : decode cX9_undo 21 = .ok (.istore_n 1, 1) := by decide +kernel
theorem dX9_undo_22 : decode cX9_undo 22 = .ok (.iload_n 1, 1) := by decide +kernel
theorem dX9_undo_23 : decode cX9_undo 23 = .ok (.sipush 144, 3) := by decide +kernel
theorem dX9_undo_26 : decode cX9_undo 26 = .ok (.if_icmp .ge 30, 3) := by decide +kernel
theorem dX9_undo_29 : decode cX9_undo 29 = .ok (.aload_n 0, 1) := by decide +kernel
theorem dX9_undo_30 : decode cX9_undo 30 = .ok (.getfield 17, 3) := by decide +kernel
theorem dX9_undo_33 : decode cX9_undo 33 = .ok (.iload_n 1, 1) := by decide +kernel
theorem dX9_undo_34 : decode cX9_undo 34 = .ok (.aload_n 0, 1) := by decide +kernel
theorem dX9_undo_35 : decode cX9_undo 35 = .ok (.getfield 51, 3) := by decide +kernel
theorem dX9_undo_38 : decode cX9_undo 38 = .ok (.sipush 144, 3) := by decide +kernel
theorem dX9_undo_41 : decode cX9_undo 41 = .ok (.aload_n 0, 1) := by decide +kernel
theorem dX9_undo_42 : decode cX9_undo 42 = .ok (.getfield 72, 3) := by decide +kernel
theorem dX9_undo_45 : decode cX9_undo 45 = .ok (.imul, 1) := by decide +kernel
theorem dX9_undo_46 : decode cX9_undo 46 = .ok (.iload_n 1, 1) := by decide +kernel
theorem dX9_undo_47 : decode cX9_undo 47 = .ok (.iadd, 1) := by decide +kernel
theorem dX9_undo_48 : decode cX9_undo 48 = .ok (.iaload, 1) := by decide +kernel
theorem dX9_undo_49 : decode cX9_undo 49 = .ok (.iastore, 1) := by decide +kernel
theorem dX9_undo_50 : decode cX9_undo 50 = .ok (.iinc 1 1, 3) := by decide +kernel
theorem dX9_undo_53 : decode cX9_undo 53 = .ok (.goto (-31), 3) := by decide +kernel
theorem dX9_undo_56 : decode cX9_undo 56 = .ok (.iconst 0, 1) := by decide +kernel
theorem dX9_undo_57 : decode cX9_undo 57 = .ok (.istore_n 1, 1) := by decide +kernel
theorem dX9_undo_58 : decode cX9_undo 58 = .ok (.iload_n 1, 1) := by decide +kernel
theorem dX9_undo_59 : decode cX9_undo 59 = .ok (.bipush 12, 2) := by decide +kernel
theorem dX9_undo_61 : decode cX9_undo 61 = .ok (.if_icmp .ge 29, 3) := by decide +kernel
theorem dX9_undo_64 : decode cX9_undo 64 = .ok (.aload_n 0, 1) := by decide +kernel
theorem dX9_undo_65 : decode cX9_undo 65 = .ok (.getfield 7, 3) := by decide +kernel
theorem dX9_undo_68 : decode cX9_undo 68 = .ok (.iload_n 1, 1) := by decide +kernel
theorem dX9_undo_69 : decode cX9_undo 69 = .ok (.aload_n 0, 1) := by decide +kernel
theorem dX9_undo_70 : decode cX9_undo 70 = .ok (.getfield 48, 3) := by decide +kernel
theorem dX9_undo_73 : decode cX9_undo 73 = .ok (.bipush 12, 2) := by decide +kernel
theorem dX9_undo_75 : decode cX9_undo 75 = .ok (.aload_n 0, 1) := by decide +kernel
theorem dX9_undo_76 : decode cX9_undo 76 = .ok (.getfield 72, 3) := by decide +kernel
theorem dX9_undo_79 : decode cX9_undo 79 = .ok (.imul, 1) := by decide +kernel
theorem dX9_undo_80 : decode cX9_undo 80 = .ok (.iload_n 1, 1) := by decide +kernel
theorem dX9_undo_81 : decode cX9_undo 81 = .ok (.iadd, 1) := by decide +kernel
theorem dX9_undo_82 : decode cX9_undo 82 = .ok (.iaload, 1) := by decide +kernel
theorem dX9_undo_83 : decode cX9_undo 83 = .ok (.iastore, 1) := by decide +kernel
theorem dX9_undo_84 : decode cX9_undo 84 = .ok (.iinc 1 1, 3) := by decide +kernel
theorem dX9_undo_87 : decode cX9_undo 87 = .ok (.goto (-29), 3) := by decide +kernel
theorem dX9_undo_90 : decode cX9_undo 90 = .ok (.iconst 0, 1) := by decide +kernel
theorem dX9_undo_91 : decode cX9_undo 91 = .ok (.istore_n 1, 1) := by decide +kernel
theorem dX9_undo_92 : decode cX9_undo 92 = .ok (.iload_n 1, 1) := by decide +kernel
theorem dX9_undo_93 : decode cX9_undo 93 = .ok (.bipush 10, 2) := by decide +kernel
theorem dX9_undo_95 : decode cX9_undo 95 = .ok (.if_icmp .ge 29, 3) := by decide +kernel
theorem dX9_undo_98 : decode cX9_undo 98 = .ok (.aload_n 0, 1) := by decide +kernel
theorem dX9_undo_99 : decode cX9_undo 99 = .ok (.getfield 29, 3) := by decide +kernel
theorem dX9_undo_102 : decode cX9_undo 102 = .ok (.iload_n 1, 1) := by decide +kernel
theorem dX9_undo_103 : decode cX9_undo 103 = .ok (.aload_n 0, 1) := by decide +kernel
theorem dX9_undo_104 : decode cX9_undo 104 = .ok (.getfield 57, 3) := by decide +kernel
theorem dX9_undo_107 : decode cX9_undo 107 = .ok (.bipush 10, 2) := by decide +kernel
theorem dX9_undo_109 : decode cX9_undo 109 = .ok (.aload_n 0, 1) := by decide +kernel
theorem dX9_undo_110 : decode cX9_undo 110 = .ok (.getfield 72, 3) := by decide +kernel
theorem dX9_undo_113 : decode cX9_undo 113 = .ok (.imul, 1) := by decide +kernel
theorem dX9_undo_114 : decode cX9_undo 114 = .ok (.iload_n 1, 1) := by decide +kernel
theorem dX9_undo_115 : decode cX9_undo 115 = .ok (.iadd, 1) := by decide +kernel
theorem dX9_undo_116 : decode cX9_undo 116 = .ok (.iaload, 1) := by decide +kernel
theorem dX9_undo_117 : decode cX9_undo 117 = .ok (.iastore, 1) := by decide +kernel
theorem dX9_undo_118 : decode cX9_undo 118 = .ok (.iinc 1 1, 3) := by decide +kernel
theorem dX9_undo_121 : decode cX9_undo 121 = .ok (.goto (-29), 3) := by decide +kernel
theorem dX9_undo_124 : decode cX9_undo 124 = .ok (.aload_n 0, 1) := by decide +kernel
theorem dX9_undo_125 : decode cX9_undo 125 = .ok (.aload_n 0, 1) := by decide +kernel
theorem dX9_undo_126 : decode cX9_undo 126 = .ok (.getfield 45, 3) := by decide +kernel
theorem dX9_undo_129 : decode cX9_undo 129 = .ok (.aload_n 0, 1) := by decide +kernel
theorem dX9_undo_130 : decode cX9_undo 130 = .ok (.getfield 72, 3) := by decide +kernel
theorem dX9_undo_133 : decode cX9_undo 133 = .ok (.iaload, 1) := by decide +kernel
theorem dX9_undo_134 : decode cX9_undo 134 = .ok (.putfield 75, 3) := by decide +kernel
theorem dX9_undo_137 : decode cX9_undo 137 = .ok (.aload_n 0, 1) := by decide +kernel
theorem dX9_undo_138 : decode cX9_undo 138 = .ok (.aload_n 0, 1) := by decide +kernel
theorem dX9_undo_139 : decode cX9_undo 139 = .ok (.getfield 54, 3) := by decide +kernel
theorem dX9_undo_142 : decode cX9_undo 142 = .ok (.aload_n 0, 1) := by decide +kernel
theorem dX9_undo_143 : decode cX9_undo 143 = .ok (.getfield 72, 3) := by decide +kernel
theorem dX9_undo_146 : decode cX9_undo 146 = .ok (.iaload, 1) := by decide +kernel
theorem dX9_undo_147 : decode cX9_undo 147 = .ok (.putfield 78, 3) := by decide +kernel
theorem dX9_undo_150 : decode cX9_undo 150 = .ok (.aload_n 0, 1) := by decide +kernel
theorem dX9_undo_151 : decode cX9_undo 151 = .ok (.aload_n 0, 1) := by decide +kernel
theorem dX9_undo_152 : decode cX9_undo 152 = .ok (.getfield 60, 3) := by decide +kernel
theorem dX9_undo_155 : decode cX9_undo 155 = .ok (.aload_n 0, 1) := by decide +kernel
theorem dX9_undo_156 : decode cX9_undo 156 = .ok (.getfield 72, 3) := by decide +kernel
theorem dX9_undo_159 : decode cX9_undo 159 = .ok (.iaload, 1) := by decide +kernel
theorem dX9_undo_160 : decode cX9_undo 160 = .ok (.putfield 32, 3) := by decide +kernel
theorem dX9_undo_163 : decode cX9_undo 163 = .ok (.aload_n 0, 1) := by decide +kernel
theorem dX9_undo_164 : decode cX9_undo 164 = .ok (.getfield 72, 3) := by decide +kernel
theorem dX9_undo_167 : decode cX9_undo 167 = .ok (.ireturn, 1) := by decide +kernel
theorem dX9_isVillage_0 : decode cX9_isVillage 0 = .ok (.iload_n 1, 1) := by decide +kernel
theorem dX9_isVillage_1 : decode cX9_isVillage 1 = .ok (.i2l, 1) := by decide +kernel
theorem dX9_isVillage_2 : decode cX9_isVillage 2 = .ok (.lconst 0, 1) := by decide +kernel
theorem dX9_isVillage_3 : decode cX9_isVillage 3 = .ok (.aload_n 0, 1) := by decide +kernel
theorem dX9_isVillage_4 : decode cX9_isVillage 4 = .ok (.getfield 75, 3) := by decide +kernel
theorem dX9_isVillage_7 : decode cX9_isVillage 7 = .ok (.iconst 1, 1) := by decide +kernel
theorem dX9_isVillage_8 : decode cX9_isVillage 8 = .ok (.isub, 1) := by decide +kernel
theorem dX9_isVillage_9 : decode cX9_isVillage 9 = .ok (.i2l, 1) := by decide +kernel
theorem dX9_isVillage_10 : decode cX9_isVillage 10 = .ok (.invokestatic 81, 3) := by decide +kernel
theorem dX9_isVillage_13 : decode cX9_isVillage 13 = .ok (.ireturn, 1) := by decide +kernel
theorem dX9_isPlace_0 : decode cX9_isPlace 0 = .ok (.iload_n 1, 1) := by decide +kernel
theorem dX9_isPlace_1 : decode cX9_isPlace 1 = .ok (.i2l, 1) := by decide +kernel
theorem dX9_isPlace_2 : decode cX9_isPlace 2 = .ok (.lconst 0, 1) := by decide +kernel
theorem dX9_isPlace_3 : decode cX9_isPlace 3 = .ok (.aload_n 0, 1) := by decide +kernel
theorem dX9_isPlace_4 : decode cX9_isPlace 4 = .ok (.getfield 78, 3) := by decide +kernel
theorem dX9_isPlace_7 : decode cX9_isPlace 7 = .ok (.iconst 1, 1) := by decide +kernel
theorem dX9_isPlace_8 : decode cX9_isPlace 8 = .ok (.isub, 1) := by decide +kernel
theorem dX9_isPlace_9 : decode cX9_isPlace 9 = .ok (.i2l, 1) := by decide +kernel
theorem dX9_isPlace_10 : decode cX9_isPlace 10 = .ok (.invokestatic 81, 3) := by decide +kernel
theorem dX9_isPlace_13 : decode cX9_isPlace 13 = .ok (.ireturn, 1) := by decide +kernel
theorem dX9_village_0 : decode cX9_village 0 = .ok (.iload_n 1, 1) := by decide +kernel
theorem dX9_village_1 : decode cX9_village 1 = .ok (.i2l, 1) := by decide +kernel
theorem dX9_village_2 : decode cX9_village 2 = .ok (.lconst 0, 1) := by decide +kernel
theorem dX9_village_3 : decode cX9_village 3 = .ok (.ldc2_w 85, 3) := by decide +kernel
theorem dX9_village_6 : decode cX9_village 6 = .ok (.invokestatic 81, 3) := by decide +kernel
theorem dX9_village_9 : decode cX9_village 9 = .ok (.ifCond .ne 5, 3) := by decide +kernel
theorem dX9_village_12 : decode cX9_village 12 = .ok (.iconst (-1), 1) := by decide +kernel
theorem dX9_village_13 : decode cX9_village 13 = .ok (.ireturn, 1) := by decide +kernel
theorem dX9_village_14 : decode cX9_village 14 = .ok (.aload_n 0, 1) := by decide +kernel
theorem dX9_village_15 : decode cX9_village 15 = .ok (.getfield 75, 3) := by decide +kernel
theorem dX9_village_18 : decode cX9_village 18 = .ok (.bipush 12, 2) := by decide +kernel
theorem dX9_village_20 : decode cX9_village 20 = .ok (.if_icmp .ne 6, 3) := by decide +kernel
theorem dX9_village_23 : decode cX9_village 23 = .ok (.bipush (-3), 2) := by decide +kernel
theorem dX9_village_25 : decode cX9_village 25 = .ok (.ireturn, 1) := by decide +kernel
theorem dX9_village_26 : decode cX9_village 26 = .ok (.aload_n 0, 1) := by decide +kernel
theorem dX9_village_27 : decode cX9_village 27 = .ok (.invokevirtual 87, 3) := by decide +kernel
theorem dX9_village_30 : decode cX9_village 30 = .ok (.aload_n 0, 1) := by decide +kernel
theorem dX9_village_31 : decode cX9_village 31 = .ok (.getfield 75, 3) := by decide +kernel
theorem dX9_village_34 : decode cX9_village 34 = .ok (.istore_n 2, 1) := by decide +kernel
theorem dX9_village_35 : decode cX9_village 35 = .ok (.aload_n 0, 1) := by decide +kernel
theorem dX9_village_36 : decode cX9_village 36 = .ok (.dup, 1) := by decide +kernel
theorem dX9_village_37 : decode cX9_village 37 = .ok (.getfield 75, 3) := by decide +kernel
theorem dX9_village_40 : decode cX9_village 40 = .ok (.iconst 1, 1) := by decide +kernel
theorem dX9_village_41 : decode cX9_village 41 = .ok (.iadd, 1) := by decide +kernel
theorem dX9_village_42 : decode cX9_village 42 = .ok (.putfield 75, 3) := by decide +kernel
theorem dX9_village_45 : decode cX9_village 45 = .ok (.aload_n 0, 1) := by decide +kernel
theorem dX9_village_46 : decode cX9_village 46 = .ok (.getfield 7, 3) := by decide +kernel
theorem dX9_village_49 : decode cX9_village 49 = .ok (.iload_n 2, 1) := by decide +kernel
theorem dX9_village_50 : decode cX9_village 50 = .ok (.iload_n 1, 1) := by decide +kernel
theorem dX9_village_51 : decode cX9_village 51 = .ok (.iastore, 1) := by decide +kernel
theorem dX9_village_52 : decode cX9_village 52 = .ok (.aload_n 0, 1) := by decide +kernel
theorem dX9_village_53 : decode cX9_village 53 = .ok (.getfield 13, 3) := by decide +kernel
theorem dX9_village_56 : decode cX9_village 56 = .ok (.iload_n 2, 1) := by decide +kernel
theorem dX9_village_57 : decode cX9_village 57 = .ok (.lconst 0, 1) := by decide +kernel
theorem dX9_village_58 : decode cX9_village 58 = .ok (.lastore, 1) := by decide +kernel
theorem dX9_village_59 : decode cX9_village 59 = .ok (.iconst 0, 1) := by decide +kernel
theorem dX9_village_60 : decode cX9_village 60 = .ok (.istore_n 3, 1) := by decide +kernel
theorem dX9_village_61 : decode cX9_village 61 = .ok (.iload_n 3, 1) := by decide +kernel
theorem dX9_village_62 : decode cX9_village 62 = .ok (.bipush 12, 2) := by decide +kernel
theorem dX9_village_64 : decode cX9_village 64 = .ok (.if_icmp .ge 33, 3) := by decide +kernel
theorem dX9_village_67 : decode cX9_village 67 = .ok (.aload_n 0, 1) := by decide +kernel
theorem dX9_village_68 : decode cX9_village 68 = .ok (.getfield 17, 3) := by decide +kernel
theorem dX9_village_71 : decode cX9_village 71 = .ok (.bipush 12, 2) := by decide +kernel
theorem dX9_village_73 : decode cX9_village 73 = .ok (.iload_n 2, 1) := by decide +kernel
theorem dX9_village_74 : decode cX9_village 74 = .ok (.imul, 1) := by decide +kernel
theorem dX9_village_75 : decode cX9_village 75 = .ok (.iload_n 3, 1) := by decide +kernel
theorem dX9_village_76 : decode cX9_village 76 = .ok (.iadd, 1) := by decide +kernel
theorem dX9_village_77 : decode cX9_village 77 = .ok (.iconst 0, 1) := by decide +kernel
theorem dX9_village_78 : decode cX9_village 78 = .ok (.iastore, 1) := by decide +kernel
theorem dX9_village_79 : decode cX9_village 79 = .ok (.aload_n 0, 1) := by decide +kernel
theorem dX9_village_80 : decode cX9_village 80 = .ok (.getfield 17, 3) := by decide +kernel
theorem dX9_village_83 : decode cX9_village 83 = .ok (.bipush 12, 2) := by decide +kernel
theorem dX9_village_85 : decode cX9_village 85 = .ok (.iload_n 3, 1) := by decide +kernel
theorem dX9_village_86 : decode cX9_village 86 = .ok (.imul, 1) := by decide +kernel
theorem dX9_village_87 : decode cX9_village 87 = .ok (.iload_n 2, 1) := by decide +kernel
theorem dX9_village_88 : decode cX9_village 88 = .ok (.iadd, 1) := by decide +kernel
theorem dX9_village_89 : decode cX9_village 89 = .ok (.iconst 0, 1) := by decide +kernel
theorem dX9_village_90 : decode cX9_village 90 = .ok (.iastore, 1) := by decide +kernel
theorem dX9_village_91 : decode cX9_village 91 = .ok (.iinc 3 1, 3) := by decide +kernel
theorem dX9_village_94 : decode cX9_village 94 = .ok (.goto (-33), 3) := by decide +kernel
theorem dX9_village_97 : decode cX9_village 97 = .ok (.iload_n 2, 1) := by decide +kernel
theorem dX9_village_98 : decode cX9_village 98 = .ok (.ireturn, 1) := by decide +kernel
theorem dX9_loaves_0 : decode cX9_loaves 0 = .ok (.aload_n 0, 1) := by decide +kernel
theorem dX9_loaves_1 : decode cX9_loaves 1 = .ok (.iload_n 1, 1) := by decide +kernel
theorem dX9_loaves_2 : decode cX9_loaves 2 = .ok (.invokevirtual 90, 3) := by decide +kernel
theorem dX9_loaves_5 : decode cX9_loaves 5 = .ok (.ifCond .eq 15, 3) := by decide +kernel
theorem dX9_loaves_8 : decode cX9_loaves 8 = .ok (.iload_n 2, 1) := by decide +kernel
theorem dX9_loaves_9 : decode cX9_loaves 9 = .ok (.i2l, 1) := by decide +kernel
theorem dX9_loaves_10 : decode cX9_loaves 10 = .ok (.lconst 0, 1) := by decide +kernel
theorem dX9_loaves_11 : decode cX9_loaves 11 = .ok (.ldc2_w 85, 3) := by decide +kernel
theorem dX9_loaves_14 : decode cX9_loaves 14 = .ok (.invokestatic 81, 3) := by decide +kernel
theorem dX9_loaves_17 : decode cX9_loaves 17 = .ok (.ifCond .ne 5, 3) := by decide +kernel
theorem dX9_loaves_20 : decode cX9_loaves 20 = .ok (.iconst (-1), 1) := by decide +kernel
theorem dX9_loaves_21 : decode cX9_loaves 21 = .ok (.ireturn, 1) := by decide +kernel
theorem dX9_loaves_22 : decode cX9_loaves 22 = .ok (.aload_n 0, 1) := by decide +kernel
theorem dX9_loaves_23 : decode cX9_loaves 23 = .ok (.getfield 7, 3) := by decide +kernel
theorem dX9_loaves_26 : decode cX9_loaves 26 = .ok (.iload_n 1, 1) := by decide +kernel
theorem dX9_loaves_27 : decode cX9_loaves 27 = .ok (.iaload, 1) := by decide +kernel
theorem dX9_loaves_28 : decode cX9_loaves 28 = .ok (.istore_n 3, 1) := by decide +kernel
theorem dX9_loaves_29 : decode cX9_loaves 29 = .ok (.iload_n 3, 1) := by decide +kernel
theorem dX9_loaves_30 : decode cX9_loaves 30 = .ok (.iload_n 2, 1) := by decide +kernel
theorem dX9_loaves_31 : decode cX9_loaves 31 = .ok (.if_icmp .eq 14, 3) := by decide +kernel
theorem dX9_loaves_34 : decode cX9_loaves 34 = .ok (.aload_n 0, 1) := by decide +kernel
theorem dX9_loaves_35 : decode cX9_loaves 35 = .ok (.invokevirtual 87, 3) := by decide +kernel
theorem dX9_loaves_38 : decode cX9_loaves 38 = .ok (.aload_n 0, 1) := by decide +kernel
theorem dX9_loaves_39 : decode cX9_loaves 39 = .ok (.getfield 7, 3) := by decide +kernel
theorem dX9_loaves_42 : decode cX9_loaves 42 = .ok (.iload_n 1, 1) := by decide +kernel
theorem dX9_loaves_43 : decode cX9_loaves 43 = .ok (.iload_n 2, 1) := by decide +kernel
theorem dX9_loaves_44 : decode cX9_loaves 44 = .ok (.iastore, 1) := by decide +kernel
theorem dX9_loaves_45 : decode cX9_loaves 45 = .ok (.iload_n 3, 1) := by decide +kernel
theorem dX9_loaves_46 : decode cX9_loaves 46 = .ok (.ireturn, 1) := by decide +kernel
theorem dX9_isRoad_0 : decode cX9_isRoad 0 = .ok (.lload_n 1, 1) := by decide +kernel
theorem dX9_isRoad_1 : decode cX9_isRoad 1 = .ok (.lconst 0, 1) := by decide +kernel
theorem dX9_isRoad_2 : decode cX9_isRoad 2 = .ok (.aload_n 0, 1) := by decide +kernel
theorem dX9_isRoad_3 : decode cX9_isRoad 3 = .ok (.getfield 75, 3) := by decide +kernel
theorem dX9_isRoad_6 : decode cX9_isRoad 6 = .ok (.iconst 1, 1) := by decide +kernel
theorem dX9_isRoad_7 : decode cX9_isRoad 7 = .ok (.isub, 1) := by decide +kernel
theorem dX9_isRoad_8 : decode cX9_isRoad 8 = .ok (.i2l, 1) := by decide +kernel
theorem dX9_isRoad_9 : decode cX9_isRoad 9 = .ok (.invokestatic 81, 3) := by decide +kernel
theorem dX9_isRoad_12 : decode cX9_isRoad 12 = .ok (.ifCond .eq 40, 3) := by decide +kernel
theorem dX9_isRoad_15 : decode cX9_isRoad 15 = .ok (.lload_n 3, 1) := by decide +kernel
theorem dX9_isRoad_16 : decode cX9_isRoad 16 = .ok (.lconst 0, 1) := by decide +kernel
theorem dX9_isRoad_17 : decode cX9_isRoad 17 = .ok (.aload_n 0, 1) := by decide +kernel
theorem dX9_isRoad_18 : decode cX9_isRoad 18 = .ok (.getfield 75, 3) := by decide +kernel
theorem dX9_isRoad_21 : decode cX9_isRoad 21 = .ok (.iconst 1, 1) := by decide +kernel
theorem dX9_isRoad_22 : decode cX9_isRoad 22 = .ok (.isub, 1) := by decide +kernel
theorem dX9_isRoad_23 : decode cX9_isRoad 23 = .ok (.i2l, 1) := by decide +kernel
theorem dX9_isRoad_24 : decode cX9_isRoad 24 = .ok (.invokestatic 81, 3) := by decide +kernel
theorem dX9_isRoad_27 : decode cX9_isRoad 27 = .ok (.ifCond .eq 25, 3) := by decide +kernel
theorem dX9_isRoad_30 : decode cX9_isRoad 30 = .ok (.lload_n 1, 1) := by decide +kernel
theorem dX9_isRoad_31 : decode cX9_isRoad 31 = .ok (.lload_n 3, 1) := by decide +kernel
theorem dX9_isRoad_32 : decode cX9_isRoad 32 = .ok (.lcmp, 1) := by decide +kernel
theorem dX9_isRoad_33 : decode cX9_isRoad 33 = .ok (.ifCond .eq 19, 3) := by decide +kernel
theorem dX9_isRoad_36 : decode cX9_isRoad 36 = .ok (.lload 5, 2) := by decide +kernel
theorem dX9_isRoad_38 : decode cX9_isRoad 38 = .ok (.lconst 0, 1) := by decide +kernel
theorem dX9_isRoad_39 : decode cX9_isRoad 39 = .ok (.ldc2_w 85, 3) := by decide +kernel
theorem dX9_isRoad_42 : decode cX9_isRoad 42 = .ok (.invokestatic 81, 3) := by decide +kernel
theorem dX9_isRoad_45 : decode cX9_isRoad 45 = .ok (.ifCond .eq 7, 3) := by decide +kernel
theorem dX9_isRoad_48 : decode cX9_isRoad 48 = .ok (.iconst 1, 1) := by decide +kernel
theorem dX9_isRoad_49 : decode cX9_isRoad 49 = .ok (.goto 4, 3) := by decide +kernel
theorem dX9_isRoad_52 : decode cX9_isRoad 52 = .ok (.iconst 0, 1) := by decide +kernel
theorem dX9_isRoad_53 : decode cX9_isRoad 53 = .ok (.ireturn, 1) := by decide +kernel
theorem dX9_road_0 : decode cX9_road 0 = .ok (.aload_n 0, 1) := by decide +kernel
theorem dX9_road_1 : decode cX9_road 1 = .ok (.iload_n 1, 1) := by decide +kernel
theorem dX9_road_2 : decode cX9_road 2 = .ok (.i2l, 1) := by decide +kernel
theorem dX9_road_3 : decode cX9_road 3 = .ok (.iload_n 2, 1) := by decide +kernel
theorem dX9_road_4 : decode cX9_road 4 = .ok (.i2l, 1) := by decide +kernel
theorem dX9_road_5 : decode cX9_road 5 = .ok (.iload_n 3, 1) := by decide +kernel
theorem dX9_road_6 : decode cX9_road 6 = .ok (.i2l, 1) := by decide +kernel
theorem dX9_road_7 : decode cX9_road 7 = .ok (.invokevirtual 94, 3) := by decide +kernel
theorem dX9_road_10 : decode cX9_road 10 = .ok (.ifCond .ne 5, 3) := by decide +kernel
theorem dX9_road_13 : decode cX9_road 13 = .ok (.iconst (-1), 1) := by decide +kernel
theorem dX9_road_14 : decode cX9_road 14 = .ok (.ireturn, 1) := by decide +kernel
theorem dX9_road_15 : decode cX9_road 15 = .ok (.aload_n 0, 1) := by decide +kernel
theorem dX9_road_16 : decode cX9_road 16 = .ok (.getfield 17, 3) := by decide +kernel
theorem dX9_road_19 : decode cX9_road 19 = .ok (.bipush 12, 2) := by decide +kernel
theorem dX9_road_21 : decode cX9_road 21 = .ok (.iload_n 1, 1) := by decide +kernel
theorem dX9_road_22 : decode cX9_road 22 = .ok (.imul, 1) := by decide +kernel
theorem dX9_road_23 : decode cX9_road 23 = .ok (.iload_n 2, 1) := by decide +kernel
theorem dX9_road_24 : decode cX9_road 24 = .ok (.iadd, 1) := by decide +kernel
theorem dX9_road_25 : decode cX9_road 25 = .ok (.iaload, 1) := by decide +kernel
theorem dX9_road_26 : decode cX9_road 26 = .ok (.istore 4, 2) := by decide +kernel
theorem dX9_road_28 : decode cX9_road 28 = .ok (.iload 4, 2) := by decide +kernel
theorem dX9_road_30 : decode cX9_road 30 = .ok (.iload_n 3, 1) := by decide +kernel
theorem dX9_road_31 : decode cX9_road 31 = .ok (.if_icmp .eq 31, 3) := by decide +kernel
theorem dX9_road_34 : decode cX9_road 34 = .ok (.aload_n 0, 1) := by decide +kernel
theorem dX9_road_35 : decode cX9_road 35 = .ok (.invokevirtual 87, 3) := by decide +kernel
theorem dX9_road_38 : decode cX9_road 38 = .ok (.aload_n 0, 1) := by decide +kernel
theorem dX9_road_39 : decode cX9_road 39 = .ok (.getfield 17, 3) := by decide +kernel
theorem dX9_road_42 : decode cX9_road 42 = .ok (.bipush 12, 2) := by decide +kernel
theorem dX9_road_44 : decode cX9_road 44 = .ok (.iload_n 1, 1) := by decide +kernel
theorem dX9_road_45 : decode cX9_road 45 = .ok (.imul, 1) := by decide +kernel
theorem dX9_road_46 : decode cX9_road 46 = .ok (.iload_n 2, 1) := by decide +kernel
theorem dX9_road_47 : decode cX9_road 47 = .ok (.iadd, 1) := by decide +kernel
theorem dX9_road_48 : decode cX9_road 48 = .ok (.iload_n 3, 1) := by decide +kernel
theorem dX9_road_49 : decode cX9_road 49 = .ok (.iastore, 1) := by decide +kernel
theorem dX9_road_50 : decode cX9_road 50 = .ok (.aload_n 0, 1) := by decide +kernel
theorem dX9_road_51 : decode cX9_road 51 = .ok (.getfield 17, 3) := by decide +kernel
theorem dX9_road_54 : decode cX9_road 54 = .ok (.bipush 12, 2) := by decide +kernel
theorem dX9_road_56 : decode cX9_road 56 = .ok (.iload_n 2, 1) := by decide +kernel
theorem dX9_road_57 : decode cX9_road 57 = .ok (.imul, 1) := by decide +kernel
theorem dX9_road_58 : decode cX9_road 58 = .ok (.iload_n 1, 1) := by decide +kernel
theorem dX9_road_59 : decode cX9_road 59 = .ok (.iadd, 1) := by decide +kernel
theorem dX9_road_60 : decode cX9_road 60 = .ok (.iload_n 3, 1) := by decide +kernel
theorem dX9_road_61 : decode cX9_road 61 = .ok (.iastore, 1) := by decide +kernel
theorem dX9_road_62 : decode cX9_road 62 = .ok (.iload 4, 2) := by decide +kernel
theorem dX9_road_64 : decode cX9_road 64 = .ok (.ireturn, 1) := by decide +kernel
theorem dX9_place_0 : decode cX9_place 0 = .ok (.aload_n 0, 1) := by decide +kernel
theorem dX9_place_1 : decode cX9_place 1 = .ok (.iload_n 1, 1) := by decide +kernel
theorem dX9_place_2 : decode cX9_place 2 = .ok (.invokevirtual 90, 3) := by decide +kernel
theorem dX9_place_5 : decode cX9_place 5 = .ok (.ifCond .eq 27, 3) := by decide +kernel
theorem dX9_place_8 : decode cX9_place 8 = .ok (.iload_n 2, 1) := by decide +kernel
theorem dX9_place_9 : decode cX9_place 9 = .ok (.i2l, 1) := by decide +kernel
theorem dX9_place_10 : decode cX9_place 10 = .ok (.lconst 0, 1) := by decide +kernel
theorem dX9_place_11 : decode cX9_place 11 = .ok (.ldc2_w 97, 3) := by decide +kernel
theorem dX9_place_14 : decode cX9_place 14 = .ok (.invokestatic 81, 3) := by decide +kernel
theorem dX9_place_17 : decode cX9_place 17 = .ok (.ifCond .eq 15, 3) := by decide +kernel
theorem dX9_place_20 : decode cX9_place 20 = .ok (.iload_n 3, 1) := by decide +kernel
theorem dX9_place_21 : decode cX9_place 21 = .ok (.i2l, 1) := by decide +kernel
theorem dX9_place_22 : decode cX9_place 22 = .ok (.lconst 0, 1) := by decide +kernel
theorem dX9_place_23 : decode cX9_place 23 = .ok (.ldc2_w 99, 3) := by decide +kernel
theorem dX9_place_26 : decode cX9_place 26 = .ok (.invokestatic 81, 3) := by decide +kernel
theorem dX9_place_29 : decode cX9_place 29 = .ok (.ifCond .ne 5, 3) := by decide +kernel
theorem dX9_place_32 : decode cX9_place 32 = .ok (.iconst (-1), 1) := by decide +kernel
theorem dX9_place_33 : decode cX9_place 33 = .ok (.ireturn, 1) := by decide +kernel
theorem dX9_place_34 : decode cX9_place 34 = .ok (.aload_n 0, 1) := by decide +kernel
theorem dX9_place_35 : decode cX9_place 35 = .ok (.getfield 78, 3) := by decide +kernel
theorem dX9_place_38 : decode cX9_place 38 = .ok (.bipush 10, 2) := by decide +kernel
theorem dX9_place_40 : decode cX9_place 40 = .ok (.if_icmp .ne 6, 3) := by decide +kernel
theorem dX9_place_43 : decode cX9_place 43 = .ok (.bipush (-3), 2) := by decide +kernel
theorem dX9_place_45 : decode cX9_place 45 = .ok (.ireturn, 1) := by decide +kernel
theorem dX9_place_46 : decode cX9_place 46 = .ok (.aload_n 0, 1) := by decide +kernel
theorem dX9_place_47 : decode cX9_place 47 = .ok (.invokevirtual 87, 3) := by decide +kernel
theorem dX9_place_50 : decode cX9_place 50 = .ok (.aload_n 0, 1) := by decide +kernel
theorem dX9_place_51 : decode cX9_place 51 = .ok (.getfield 20, 3) := by decide +kernel
theorem dX9_place_54 : decode cX9_place 54 = .ok (.aload_n 0, 1) := by decide +kernel
theorem dX9_place_55 : decode cX9_place 55 = .ok (.getfield 78, 3) := by decide +kernel
theorem dX9_place_58 : decode cX9_place 58 = .ok (.iload_n 1, 1) := by decide +kernel
theorem dX9_place_59 : decode cX9_place 59 = .ok (.iastore, 1) := by decide +kernel
theorem dX9_place_60 : decode cX9_place 60 = .ok (.aload_n 0, 1) := by decide +kernel
theorem dX9_place_61 : decode cX9_place 61 = .ok (.getfield 23, 3) := by decide +kernel
theorem dX9_place_64 : decode cX9_place 64 = .ok (.aload_n 0, 1) := by decide +kernel
theorem dX9_place_65 : decode cX9_place 65 = .ok (.getfield 78, 3) := by decide +kernel
theorem dX9_place_68 : decode cX9_place 68 = .ok (.iload_n 2, 1) := by decide +kernel
theorem dX9_place_69 : decode cX9_place 69 = .ok (.iastore, 1) := by decide +kernel
theorem dX9_place_70 : decode cX9_place 70 = .ok (.aload_n 0, 1) := by decide +kernel
theorem dX9_place_71 : decode cX9_place 71 = .ok (.getfield 26, 3) := by decide +kernel
theorem dX9_place_74 : decode cX9_place 74 = .ok (.aload_n 0, 1) := by decide +kernel
theorem dX9_place_75 : decode cX9_place 75 = .ok (.getfield 78, 3) := by decide +kernel
theorem dX9_place_78 : decode cX9_place 78 = .ok (.iload_n 3, 1) := by decide +kernel
theorem dX9_place_79 : decode cX9_place 79 = .ok (.iastore, 1) := by decide +kernel
theorem dX9_place_80 : decode cX9_place 80 = .ok (.aload_n 0, 1) := by decide +kernel
theorem dX9_place_81 : decode cX9_place 81 = .ok (.getfield 29, 3) := by decide +kernel
theorem dX9_place_84 : decode cX9_place 84 = .ok (.aload_n 0, 1) := by decide +kernel
theorem dX9_place_85 : decode cX9_place 85 = .ok (.getfield 78, 3) := by decide +kernel
theorem dX9_place_88 : decode cX9_place 88 = .ok (.bipush 20, 2) := by decide +kernel
theorem dX9_place_90 : decode cX9_place 90 = .ok (.iastore, 1) := by decide +kernel
theorem dX9_place_91 : decode cX9_place 91 = .ok (.aload_n 0, 1) := by decide +kernel
theorem dX9_place_92 : decode cX9_place 92 = .ok (.dup, 1) := by decide +kernel
theorem dX9_place_93 : decode cX9_place 93 = .ok (.getfield 78, 3) := by decide +kernel
theorem dX9_place_96 : decode cX9_place 96 = .ok (.iconst 1, 1) := by decide +kernel
theorem dX9_place_97 : decode cX9_place 97 = .ok (.iadd, 1) := by decide +kernel
theorem dX9_place_98 : decode cX9_place 98 = .ok (.putfield 78, 3) := by decide +kernel
theorem dX9_place_101 : decode cX9_place 101 = .ok (.aload_n 0, 1) := by decide +kernel
theorem dX9_place_102 : decode cX9_place 102 = .ok (.getfield 78, 3) := by decide +kernel
theorem dX9_place_105 : decode cX9_place 105 = .ok (.iconst 1, 1) := by decide +kernel
theorem dX9_place_106 : decode cX9_place 106 = .ok (.isub, 1) := by decide +kernel
theorem dX9_place_107 : decode cX9_place 107 = .ok (.ireturn, 1) := by decide +kernel
theorem dX9_reach_0 : decode cX9_reach 0 = .ok (.aload_n 0, 1) := by decide +kernel
theorem dX9_reach_1 : decode cX9_reach 1 = .ok (.iload_n 1, 1) := by decide +kernel
theorem dX9_reach_2 : decode cX9_reach 2 = .ok (.invokevirtual 101, 3) := by decide +kernel
theorem dX9_reach_5 : decode cX9_reach 5 = .ok (.ifCond .eq 15, 3) := by decide +kernel
theorem dX9_reach_8 : decode cX9_reach 8 = .ok (.iload_n 2, 1) := by decide +kernel
theorem dX9_reach_9 : decode cX9_reach 9 = .ok (.i2l, 1) := by decide +kernel
theorem dX9_reach_10 : decode cX9_reach 10 = .ok (.lconst 0, 1) := by decide +kernel
theorem dX9_reach_11 : decode cX9_reach 11 = .ok (.ldc2_w 104, 3) := by decide +kernel
theorem dX9_reach_14 : decode cX9_reach 14 = .ok (.invokestatic 81, 3) := by decide +kernel
theorem dX9_reach_17 : decode cX9_reach 17 = .ok (.ifCond .ne 5, 3) := by decide +kernel
theorem dX9_reach_20 : decode cX9_reach 20 = .ok (.iconst (-1), 1) := by decide +kernel
theorem dX9_reach_21 : decode cX9_reach 21 = .ok (.ireturn, 1) := by decide +kernel
theorem dX9_reach_22 : decode cX9_reach 22 = .ok (.aload_n 0, 1) := by decide +kernel
theorem dX9_reach_23 : decode cX9_reach 23 = .ok (.getfield 23, 3) := by decide +kernel
theorem dX9_reach_26 : decode cX9_reach 26 = .ok (.iload_n 1, 1) := by decide +kernel
theorem dX9_reach_27 : decode cX9_reach 27 = .ok (.iaload, 1) := by decide +kernel
theorem dX9_reach_28 : decode cX9_reach 28 = .ok (.iconst 4, 1) := by decide +kernel
theorem dX9_reach_29 : decode cX9_reach 29 = .ok (.if_icmp .eq 6, 3) := by decide +kernel
theorem dX9_reach_32 : decode cX9_reach 32 = .ok (.bipush (-2), 2) := by decide +kernel
theorem dX9_reach_34 : decode cX9_reach 34 = .ok (.ireturn, 1) := by decide +kernel
theorem dX9_reach_35 : decode cX9_reach 35 = .ok (.aload_n 0, 1) := by decide +kernel
theorem dX9_reach_36 : decode cX9_reach 36 = .ok (.getfield 29, 3) := by decide +kernel
theorem dX9_reach_39 : decode cX9_reach 39 = .ok (.iload_n 1, 1) := by decide +kernel
theorem dX9_reach_40 : decode cX9_reach 40 = .ok (.iaload, 1) := by decide +kernel
theorem dX9_reach_41 : decode cX9_reach 41 = .ok (.istore_n 3, 1) := by decide +kernel
theorem dX9_reach_42 : decode cX9_reach 42 = .ok (.iload_n 3, 1) := by decide +kernel
theorem dX9_reach_43 : decode cX9_reach 43 = .ok (.iload_n 2, 1) := by decide +kernel
theorem dX9_reach_44 : decode cX9_reach 44 = .ok (.if_icmp .eq 14, 3) := by decide +kernel
theorem dX9_reach_47 : decode cX9_reach 47 = .ok (.aload_n 0, 1) := by decide +kernel
theorem dX9_reach_48 : decode cX9_reach 48 = .ok (.invokevirtual 87, 3) := by decide +kernel
theorem dX9_reach_51 : decode cX9_reach 51 = .ok (.aload_n 0, 1) := by decide +kernel
theorem dX9_reach_52 : decode cX9_reach 52 = .ok (.getfield 29, 3) := by decide +kernel
theorem dX9_reach_55 : decode cX9_reach 55 = .ok (.iload_n 1, 1) := by decide +kernel
theorem dX9_reach_56 : decode cX9_reach 56 = .ok (.iload_n 2, 1) := by decide +kernel
theorem dX9_reach_57 : decode cX9_reach 57 = .ok (.iastore, 1) := by decide +kernel
theorem dX9_reach_58 : decode cX9_reach 58 = .ok (.iload_n 3, 1) := by decide +kernel
theorem dX9_reach_59 : decode cX9_reach 59 = .ok (.ireturn, 1) := by decide +kernel
theorem dX9_number_0 : decode cX9_number 0 = .ok (.iload_n 1, 1) := by decide +kernel
theorem dX9_number_1 : decode cX9_number 1 = .ok (.i2l, 1) := by decide +kernel
theorem dX9_number_2 : decode cX9_number 2 = .ok (.lconst 0, 1) := by decide +kernel
theorem dX9_number_3 : decode cX9_number 3 = .ok (.ldc2_w 106, 3) := by decide +kernel
theorem dX9_number_6 : decode cX9_number 6 = .ok (.invokestatic 81, 3) := by decide +kernel
theorem dX9_number_9 : decode cX9_number 9 = .ok (.ifCond .ne 5, 3) := by decide +kernel
theorem dX9_number_12 : decode cX9_number 12 = .ok (.iconst (-1), 1) := by decide +kernel
theorem dX9_number_13 : decode cX9_number 13 = .ok (.ireturn, 1) := by decide +kernel
theorem dX9_number_14 : decode cX9_number 14 = .ok (.aload_n 0, 1) := by decide +kernel
theorem dX9_number_15 : decode cX9_number 15 = .ok (.getfield 32, 3) := by decide +kernel
theorem dX9_number_18 : decode cX9_number 18 = .ok (.istore_n 2, 1) := by decide +kernel
theorem dX9_number_19 : decode cX9_number 19 = .ok (.iload_n 2, 1) := by decide +kernel
theorem dX9_number_20 : decode cX9_number 20 = .ok (.iload_n 1, 1) := by decide +kernel
theorem dX9_number_21 : decode cX9_number 21 = .ok (.if_icmp .eq 12, 3) := by decide +kernel
theorem dX9_number_24 : decode cX9_number 24 = .ok (.aload_n 0, 1) := by decide +kernel
theorem dX9_number_25 : decode cX9_number 25 = .ok (.invokevirtual 87, 3) := by decide +kernel
theorem dX9_number_28 : decode cX9_number 28 = .ok (.aload_n 0, 1) := by decide +kernel
theorem dX9_number_29 : decode cX9_number 29 = .ok (.iload_n 1, 1) := by decide +kernel
theorem dX9_number_30 : decode cX9_number 30 = .ok (.putfield 32, 3) := by decide +kernel
theorem dX9_number_33 : decode cX9_number 33 = .ok (.iload_n 2, 1) := by decide +kernel
theorem dX9_number_34 : decode cX9_number 34 = .ok (.ireturn, 1) := by decide +kernel
theorem dX9_map_0 : decode cX9_map 0 = .ok (.iload_n 1, 1) := by decide +kernel
theorem dX9_map_1 : decode cX9_map 1 = .ok (.i2l, 1) := by decide +kernel
theorem dX9_map_2 : decode cX9_map 2 = .ok (.lconst 0, 1) := by decide +kernel
theorem dX9_map_3 : decode cX9_map 3 = .ok (.ldc2_w 108, 3) := by decide +kernel
theorem dX9_map_6 : decode cX9_map 6 = .ok (.invokestatic 81, 3) := by decide +kernel
theorem dX9_map_9 : decode cX9_map 9 = .ok (.ifCond .eq 21, 3) := by decide +kernel
theorem dX9_map_12 : decode cX9_map 12 = .ok (.iload_n 2, 1) := by decide +kernel
theorem dX9_map_13 : decode cX9_map 13 = .ok (.i2l, 1) := by decide +kernel
theorem dX9_map_14 : decode cX9_map 14 = .ok (.lconst 0, 1) := by decide +kernel
theorem dX9_map_15 : decode cX9_map 15 = .ok (.ldc2_w 110, 3) := by decide +kernel
theorem dX9_map_18 : decode cX9_map 18 = .ok (.invokestatic 81, 3) := by decide +kernel
theorem dX9_map_21 : decode cX9_map 21 = .ok (.ifCond .eq 9, 3) := by decide +kernel
theorem dX9_map_24 : decode cX9_map 24 = .ok (.iload_n 3, 1) := by decide +kernel
theorem dX9_map_25 : decode cX9_map 25 = .ok (.bipush 60, 2) := by decide +kernel
theorem dX9_map_27 : decode cX9_map 27 = .ok (.if_icmp .le 5, 3) := by decide +kernel
theorem dX9_map_30 : decode cX9_map 30 = .ok (.iconst (-1), 1) := by decide +kernel
theorem dX9_map_31 : decode cX9_map 31 = .ok (.ireturn, 1) := by decide +kernel
theorem dX9_map_32 : decode cX9_map 32 = .ok (.iload_n 3, 1) := by decide +kernel
theorem dX9_map_33 : decode cX9_map 33 = .ok (.ifCond .ge 6, 3) := by decide +kernel
theorem dX9_map_36 : decode cX9_map 36 = .ok (.bipush (-14), 2) := by decide +kernel
theorem dX9_map_38 : decode cX9_map 38 = .ok (.ireturn, 1) := by decide +kernel
theorem dX9_map_39 : decode cX9_map 39 = .ok (.aload_n 0, 1) := by decide +kernel
theorem dX9_map_40 : decode cX9_map 40 = .ok (.getfield 36, 3) := by decide +kernel
theorem dX9_map_43 : decode cX9_map 43 = .ok (.iload_n 1, 1) := by decide +kernel
theorem dX9_map_44 : decode cX9_map 44 = .ok (.iload_n 2, 1) := by decide +kernel
theorem dX9_map_45 : decode cX9_map 45 = .ok (.iastore, 1) := by decide +kernel
theorem dX9_map_46 : decode cX9_map 46 = .ok (.aload_n 0, 1) := by decide +kernel
theorem dX9_map_47 : decode cX9_map 47 = .ok (.getfield 39, 3) := by decide +kernel
theorem dX9_map_50 : decode cX9_map 50 = .ok (.iload_n 1, 1) := by decide +kernel
theorem dX9_map_51 : decode cX9_map 51 = .ok (.iload_n 3, 1) := by decide +kernel
theorem dX9_map_52 : decode cX9_map 52 = .ok (.iastore, 1) := by decide +kernel
theorem dX9_map_53 : decode cX9_map 53 = .ok (.iconst 0, 1) := by decide +kernel
theorem dX9_map_54 : decode cX9_map 54 = .ok (.istore 4, 2) := by decide +kernel
theorem dX9_map_56 : decode cX9_map 56 = .ok (.iload 4, 2) := by decide +kernel
theorem dX9_map_58 : decode cX9_map 58 = .ok (.bipush 60, 2) := by decide +kernel
theorem dX9_map_60 : decode cX9_map 60 = .ok (.if_icmp .ge 22, 3) := by decide +kernel
theorem dX9_map_63 : decode cX9_map 63 = .ok (.aload_n 0, 1) := by decide +kernel
theorem dX9_map_64 : decode cX9_map 64 = .ok (.getfield 42, 3) := by decide +kernel
theorem dX9_map_67 : decode cX9_map 67 = .ok (.bipush 60, 2) := by decide +kernel
theorem dX9_map_69 : decode cX9_map 69 = .ok (.iload_n 1, 1) := by decide +kernel
theorem dX9_map_70 : decode cX9_map 70 = .ok (.imul, 1) := by decide +kernel
theorem dX9_map_71 : decode cX9_map 71 = .ok (.iload 4, 2) := by decide +kernel
theorem dX9_map_73 : decode cX9_map 73 = .ok (.iadd, 1) := by decide +kernel
theorem dX9_map_74 : decode cX9_map 74 = .ok (.lconst 0, 1) := by decide +kernel
theorem dX9_map_75 : decode cX9_map 75 = .ok (.lastore, 1) := by decide +kernel
theorem dX9_map_76 : decode cX9_map 76 = .ok (.iinc 4 1, 3) := by decide +kernel
theorem dX9_map_79 : decode cX9_map 79 = .ok (.goto (-23), 3) := by decide +kernel
theorem dX9_map_82 : decode cX9_map 82 = .ok (.iconst 1, 1) := by decide +kernel
theorem dX9_map_83 : decode cX9_map 83 = .ok (.ireturn, 1) := by decide +kernel
theorem dX9_lay_0 : decode cX9_lay 0 = .ok (.iload_n 1, 1) := by decide +kernel
theorem dX9_lay_1 : decode cX9_lay 1 = .ok (.i2l, 1) := by decide +kernel
theorem dX9_lay_2 : decode cX9_lay 2 = .ok (.lconst 0, 1) := by decide +kernel
theorem dX9_lay_3 : decode cX9_lay 3 = .ok (.ldc2_w 108, 3) := by decide +kernel
theorem dX9_lay_6 : decode cX9_lay 6 = .ok (.invokestatic 81, 3) := by decide +kernel
theorem dX9_lay_9 : decode cX9_lay 9 = .ok (.ifCond .ne 5, 3) := by decide +kernel
theorem dX9_lay_12 : decode cX9_lay 12 = .ok (.iconst (-1), 1) := by decide +kernel
theorem dX9_lay_13 : decode cX9_lay 13 = .ok (.ireturn, 1) := by decide +kernel
theorem dX9_lay_14 : decode cX9_lay 14 = .ok (.aload_n 0, 1) := by decide +kernel
theorem dX9_lay_15 : decode cX9_lay 15 = .ok (.getfield 36, 3) := by decide +kernel
theorem dX9_lay_18 : decode cX9_lay 18 = .ok (.iload_n 1, 1) := by decide +kernel
theorem dX9_lay_19 : decode cX9_lay 19 = .ok (.iaload, 1) := by decide +kernel
theorem dX9_lay_20 : decode cX9_lay 20 = .ok (.bipush (-4), 2) := by decide +kernel
theorem dX9_lay_22 : decode cX9_lay 22 = .ok (.if_icmp .ne 6, 3) := by decide +kernel
theorem dX9_lay_25 : decode cX9_lay 25 = .ok (.bipush (-11), 2) := by decide +kernel
theorem dX9_lay_27 : decode cX9_lay 27 = .ok (.ireturn, 1) := by decide +kernel
theorem dX9_lay_28 : decode cX9_lay 28 = .ok (.iload_n 2, 1) := by decide +kernel
theorem dX9_lay_29 : decode cX9_lay 29 = .ok (.i2l, 1) := by decide +kernel
theorem dX9_lay_30 : decode cX9_lay 30 = .ok (.lconst 0, 1) := by decide +kernel
theorem dX9_lay_31 : decode cX9_lay 31 = .ok (.aload_n 0, 1) := by decide +kernel
theorem dX9_lay_32 : decode cX9_lay 32 = .ok (.getfield 39, 3) := by decide +kernel
theorem dX9_lay_35 : decode cX9_lay 35 = .ok (.iload_n 1, 1) := by decide +kernel
theorem dX9_lay_36 : decode cX9_lay 36 = .ok (.iaload, 1) := by decide +kernel
theorem dX9_lay_37 : decode cX9_lay 37 = .ok (.iconst 1, 1) := by decide +kernel
theorem dX9_lay_38 : decode cX9_lay 38 = .ok (.isub, 1) := by decide +kernel
theorem dX9_lay_39 : decode cX9_lay 39 = .ok (.i2l, 1) := by decide +kernel
theorem dX9_lay_40 : decode cX9_lay 40 = .ok (.invokestatic 81, 3) := by decide +kernel
theorem dX9_lay_43 : decode cX9_lay 43 = .ok (.ifCond .ne 6, 3) := by decide +kernel
theorem dX9_lay_46 : decode cX9_lay 46 = .ok (.bipush (-12), 2) := by decide +kernel
theorem dX9_lay_48 : decode cX9_lay 48 = .ok (.ireturn, 1) := by decide +kernel
theorem dX9_lay_49 : decode cX9_lay 49 = .ok (.aload_n 0, 1) := by decide +kernel
theorem dX9_lay_50 : decode cX9_lay 50 = .ok (.getfield 42, 3) := by decide +kernel
theorem dX9_lay_53 : decode cX9_lay 53 = .ok (.bipush 60, 2) := by decide +kernel
theorem dX9_lay_55 : decode cX9_lay 55 = .ok (.iload_n 1, 1) := by decide +kernel
theorem dX9_lay_56 : decode cX9_lay 56 = .ok (.imul, 1) := by decide +kernel
theorem dX9_lay_57 : decode cX9_lay 57 = .ok (.iload_n 2, 1) := by decide +kernel
theorem dX9_lay_58 : decode cX9_lay 58 = .ok (.iadd, 1) := by decide +kernel
theorem dX9_lay_59 : decode cX9_lay 59 = .ok (.aload_n 0, 1) := by decide +kernel
theorem dX9_lay_60 : decode cX9_lay 60 = .ok (.getfield 36, 3) := by decide +kernel
theorem dX9_lay_63 : decode cX9_lay 63 = .ok (.iload_n 1, 1) := by decide +kernel
theorem dX9_lay_64 : decode cX9_lay 64 = .ok (.iaload, 1) := by decide +kernel
theorem dX9_lay_65 : decode cX9_lay 65 = .ok (.ifCond .ne 10, 3) := by decide +kernel
theorem dX9_lay_68 : decode cX9_lay 68 = .ok (.lload_n 3, 1) := by decide +kernel
theorem dX9_lay_69 : decode cX9_lay 69 = .ok (.l2i, 1) := by decide +kernel
theorem dX9_lay_70 : decode cX9_lay 70 = .ok (.i2b, 1) := by decide +kernel
theorem dX9_lay_71 : decode cX9_lay 71 = .ok (.i2l, 1) := by decide +kernel
theorem dX9_lay_72 : decode cX9_lay 72 = .ok (.goto 20, 3) := by decide +kernel
theorem dX9_lay_75 : decode cX9_lay 75 = .ok (.aload_n 0, 1) := by decide +kernel
theorem dX9_lay_76 : decode cX9_lay 76 = .ok (.getfield 36, 3) := by decide +kernel
theorem dX9_lay_79 : decode cX9_lay 79 = .ok (.iload_n 1, 1) := by decide +kernel
theorem dX9_lay_80 : decode cX9_lay 80 = .ok (.iaload, 1) := by decide +kernel
theorem dX9_lay_81 : decode cX9_lay 81 = .ok (.iconst 1, 1) := by decide +kernel
theorem dX9_lay_82 : decode cX9_lay 82 = .ok (.if_icmp .ne 9, 3) := by decide +kernel
theorem dX9_lay_85 : decode cX9_lay 85 = .ok (.lload_n 3, 1) := by decide +kernel
theorem dX9_lay_86 : decode cX9_lay 86 = .ok (.l2i, 1) := by decide +kernel
theorem dX9_lay_87 : decode cX9_lay 87 = .ok (.i2l, 1) := by decide +kernel
theorem dX9_lay_88 : decode cX9_lay 88 = .ok (.goto 4, 3) := by decide +kernel
theorem dX9_lay_91 : decode cX9_lay 91 = .ok (.lload_n 3, 1) := by decide +kernel
theorem dX9_lay_92 : decode cX9_lay 92 = .ok (.lastore, 1) := by decide +kernel
theorem dX9_lay_93 : decode cX9_lay 93 = .ok (.iconst 1, 1) := by decide +kernel
theorem dX9_lay_94 : decode cX9_lay 94 = .ok (.ireturn, 1) := by decide +kernel
theorem dX9_draw_0 : decode cX9_draw 0 = .ok (.iload_n 1, 1) := by decide +kernel
theorem dX9_draw_1 : decode cX9_draw 1 = .ok (.i2l, 1) := by decide +kernel
theorem dX9_draw_2 : decode cX9_draw 2 = .ok (.lconst 0, 1) := by decide +kernel
theorem dX9_draw_3 : decode cX9_draw 3 = .ok (.ldc2_w 108, 3) := by decide +kernel
theorem dX9_draw_6 : decode cX9_draw 6 = .ok (.invokestatic 81, 3) := by decide +kernel
theorem dX9_draw_9 : decode cX9_draw 9 = .ok (.ifCond .eq 19, 3) := by decide +kernel
theorem dX9_draw_12 : decode cX9_draw 12 = .ok (.iload_n 2, 1) := by decide +kernel
theorem dX9_draw_13 : decode cX9_draw 13 = .ok (.i2l, 1) := by decide +kernel
theorem dX9_draw_14 : decode cX9_draw 14 = .ok (.lconst 0, 1) := by decide +kernel
theorem dX9_draw_15 : decode cX9_draw 15 = .ok (.ldc2_w 110, 3) := by decide +kernel
theorem dX9_draw_18 : decode cX9_draw 18 = .ok (.invokestatic 81, 3) := by decide +kernel
theorem dX9_draw_21 : decode cX9_draw 21 = .ok (.ifCond .eq 7, 3) := by decide +kernel
theorem dX9_draw_24 : decode cX9_draw 24 = .ok (.iload_n 3, 1) := by decide +kernel
theorem dX9_draw_25 : decode cX9_draw 25 = .ok (.ifCond .ge 5, 3) := by decide +kernel
theorem dX9_draw_28 : decode cX9_draw 28 = .ok (.iconst (-1), 1) := by decide +kernel
theorem dX9_draw_29 : decode cX9_draw 29 = .ok (.ireturn, 1) := by decide +kernel
theorem dX9_draw_30 : decode cX9_draw 30 = .ok (.aload_n 0, 1) := by decide +kernel
theorem dX9_draw_31 : decode cX9_draw 31 = .ok (.getfield 36, 3) := by decide +kernel
theorem dX9_draw_34 : decode cX9_draw 34 = .ok (.iload_n 1, 1) := by decide +kernel
theorem dX9_draw_35 : decode cX9_draw 35 = .ok (.iaload, 1) := by decide +kernel
theorem dX9_draw_36 : decode cX9_draw 36 = .ok (.iload_n 2, 1) := by decide +kernel
theorem dX9_draw_37 : decode cX9_draw 37 = .ok (.if_icmp .eq 22, 3) := by decide +kernel
theorem dX9_draw_40 : decode cX9_draw 40 = .ok (.aload_n 0, 1) := by decide +kernel
theorem dX9_draw_41 : decode cX9_draw 41 = .ok (.getfield 36, 3) := by decide +kernel
theorem dX9_draw_44 : decode cX9_draw 44 = .ok (.iload_n 1, 1) := by decide +kernel
theorem dX9_draw_45 : decode cX9_draw 45 = .ok (.iaload, 1) := by decide +kernel
theorem dX9_draw_46 : decode cX9_draw 46 = .ok (.bipush (-4), 2) := by decide +kernel
theorem dX9_draw_48 : decode cX9_draw 48 = .ok (.if_icmp .ne 8, 3) := by decide +kernel
theorem dX9_draw_51 : decode cX9_draw 51 = .ok (.bipush (-11), 2) := by decide +kernel
theorem dX9_draw_53 : decode cX9_draw 53 = .ok (.goto 5, 3) := by decide +kernel
theorem dX9_draw_56 : decode cX9_draw 56 = .ok (.bipush (-13), 2) := by decide +kernel
theorem dX9_draw_58 : decode cX9_draw 58 = .ok (.ireturn, 1) := by decide +kernel
theorem dX9_draw_59 : decode cX9_draw 59 = .ok (.iconst 0, 1) := by decide +kernel
theorem dX9_draw_60 : decode cX9_draw 60 = .ok (.istore 4, 2) := by decide +kernel
theorem dX9_draw_62 : decode cX9_draw 62 = .ok (.iload 4, 2) := by decide +kernel
theorem dX9_draw_64 : decode cX9_draw 64 = .ok (.iload_n 3, 1) := by decide +kernel
theorem dX9_draw_65 : decode cX9_draw 65 = .ok (.if_icmp .ge 80, 3) := by decide +kernel
theorem dX9_draw_68 : decode cX9_draw 68 = .ok (.ldc2_w 108, 3) := by decide +kernel
theorem dX9_draw_71 : decode cX9_draw 71 = .ok (.iload 4, 2) := by decide +kernel
theorem dX9_draw_73 : decode cX9_draw 73 = .ok (.i2l, 1) := by decide +kernel
theorem dX9_draw_74 : decode cX9_draw 74 = .ok (.lmul, 1) := by decide +kernel
theorem dX9_draw_75 : decode cX9_draw 75 = .ok (.ldc2_w 110, 3) := by decide +kernel
theorem dX9_draw_78 : decode cX9_draw 78 = .ok (.ladd, 1) := by decide +kernel
theorem dX9_draw_79 : decode cX9_draw 79 = .ok (.aload_n 0, 1) := by decide +kernel
theorem dX9_draw_80 : decode cX9_draw 80 = .ok (.getfield 39, 3) := by decide +kernel
theorem dX9_draw_83 : decode cX9_draw 83 = .ok (.iload_n 1, 1) := by decide +kernel
theorem dX9_draw_84 : decode cX9_draw 84 = .ok (.iaload, 1) := by decide +kernel
theorem dX9_draw_85 : decode cX9_draw 85 = .ok (.i2l, 1) := by decide +kernel
theorem dX9_draw_86 : decode cX9_draw 86 = .ok (.lcmp, 1) := by decide +kernel
theorem dX9_draw_87 : decode cX9_draw 87 = .ok (.ifCond .lt 6, 3) := by decide +kernel
theorem dX9_draw_90 : decode cX9_draw 90 = .ok (.bipush (-12), 2) := by decide +kernel
theorem dX9_draw_92 : decode cX9_draw 92 = .ok (.ireturn, 1) := by decide +kernel
theorem dX9_draw_93 : decode cX9_draw 93 = .ok (.bipush 60, 2) := by decide +kernel
theorem dX9_draw_95 : decode cX9_draw 95 = .ok (.iload_n 1, 1) := by decide +kernel
theorem dX9_draw_96 : decode cX9_draw 96 = .ok (.imul, 1) := by decide +kernel
theorem dX9_draw_97 : decode cX9_draw 97 = .ok (.iconst 3, 1) := by decide +kernel
theorem dX9_draw_98 : decode cX9_draw 98 = .ok (.iload 4, 2) := by decide +kernel
theorem dX9_draw_100 : decode cX9_draw 100 = .ok (.imul, 1) := by decide +kernel
theorem dX9_draw_101 : decode cX9_draw 101 = .ok (.iadd, 1) := by decide +kernel
theorem dX9_draw_102 : decode cX9_draw 102 = .ok (.istore 5, 2) := by decide +kernel
theorem dX9_draw_104 : decode cX9_draw 104 = .ok (.aload_n 0, 1) := by decide +kernel
theorem dX9_draw_105 : decode cX9_draw 105 = .ok (.aload_n 0, 1) := by decide +kernel
theorem dX9_draw_106 : decode cX9_draw 106 = .ok (.getfield 42, 3) := by decide +kernel
theorem dX9_draw_109 : decode cX9_draw 109 = .ok (.iload 5, 2) := by decide +kernel
theorem dX9_draw_111 : decode cX9_draw 111 = .ok (.laload, 1) := by decide +kernel
theorem dX9_draw_112 : decode cX9_draw 112 = .ok (.aload_n 0, 1) := by decide +kernel
theorem dX9_draw_113 : decode cX9_draw 113 = .ok (.getfield 42, 3) := by decide +kernel
theorem dX9_draw_116 : decode cX9_draw 116 = .ok (.iload 5, 2) := by decide +kernel
theorem dX9_draw_118 : decode cX9_draw 118 = .ok (.iconst 1, 1) := by decide +kernel
theorem dX9_draw_119 : decode cX9_draw 119 = .ok (.iadd, 1) := by decide +kernel
theorem dX9_draw_120 : decode cX9_draw 120 = .ok (.laload, 1) := by decide +kernel
theorem dX9_draw_121 : decode cX9_draw 121 = .ok (.aload_n 0, 1) := by decide +kernel
theorem dX9_draw_122 : decode cX9_draw 122 = .ok (.getfield 42, 3) := by decide +kernel
theorem dX9_draw_125 : decode cX9_draw 125 = .ok (.iload 5, 2) := by decide +kernel
theorem dX9_draw_127 : decode cX9_draw 127 = .ok (.iconst 2, 1) := by decide +kernel
theorem dX9_draw_128 : decode cX9_draw 128 = .ok (.iadd, 1) := by decide +kernel
theorem dX9_draw_129 : decode cX9_draw 129 = .ok (.laload, 1) := by decide +kernel
theorem dX9_draw_130 : decode cX9_draw 130 = .ok (.invokevirtual 94, 3) := by decide +kernel
theorem dX9_draw_133 : decode cX9_draw 133 = .ok (.ifCond .ne 6, 3) := by decide +kernel
theorem dX9_draw_136 : decode cX9_draw 136 = .ok (.bipush (-21), 2) := by decide +kernel
theorem dX9_draw_138 : decode cX9_draw 138 = .ok (.ireturn, 1) := by decide +kernel
theorem dX9_draw_139 : decode cX9_draw 139 = .ok (.iinc 4 1, 3) := by decide +kernel
theorem dX9_draw_142 : decode cX9_draw 142 = .ok (.goto (-80), 3) := by decide +kernel
theorem dX9_draw_145 : decode cX9_draw 145 = .ok (.iconst 0, 1) := by decide +kernel
theorem dX9_draw_146 : decode cX9_draw 146 = .ok (.istore 4, 2) := by decide +kernel
theorem dX9_draw_148 : decode cX9_draw 148 = .ok (.iload 4, 2) := by decide +kernel
theorem dX9_draw_150 : decode cX9_draw 150 = .ok (.sipush 144, 3) := by decide +kernel
theorem dX9_draw_153 : decode cX9_draw 153 = .ok (.if_icmp .ge 23, 3) := by decide +kernel
theorem dX9_draw_156 : decode cX9_draw 156 = .ok (.aload_n 0, 1) := by decide +kernel
theorem dX9_draw_157 : decode cX9_draw 157 = .ok (.getfield 63, 3) := by decide +kernel
theorem dX9_draw_160 : decode cX9_draw 160 = .ok (.iload 4, 2) := by decide +kernel
theorem dX9_draw_162 : decode cX9_draw 162 = .ok (.aload_n 0, 1) := by decide +kernel
theorem dX9_draw_163 : decode cX9_draw 163 = .ok (.getfield 17, 3) := by decide +kernel
theorem dX9_draw_166 : decode cX9_draw 166 = .ok (.iload 4, 2) := by decide +kernel
theorem dX9_draw_168 : decode cX9_draw 168 = .ok (.iaload, 1) := by decide +kernel
theorem dX9_draw_169 : decode cX9_draw 169 = .ok (.iastore, 1) := by decide +kernel
theorem dX9_draw_170 : decode cX9_draw 170 = .ok (.iinc 4 1, 3) := by decide +kernel
theorem dX9_draw_173 : decode cX9_draw 173 = .ok (.goto (-25), 3) := by decide +kernel
theorem dX9_draw_176 : decode cX9_draw 176 = .ok (.iconst 0, 1) := by decide +kernel
theorem dX9_draw_177 : decode cX9_draw 177 = .ok (.istore 4, 2) := by decide +kernel
theorem dX9_draw_179 : decode cX9_draw 179 = .ok (.iload 4, 2) := by decide +kernel
theorem dX9_draw_181 : decode cX9_draw 181 = .ok (.iload_n 3, 1) := by decide +kernel
theorem dX9_draw_182 : decode cX9_draw 182 = .ok (.if_icmp .ge 84, 3) := by decide +kernel
theorem dX9_draw_185 : decode cX9_draw 185 = .ok (.bipush 60, 2) := by decide +kernel
theorem dX9_draw_187 : decode cX9_draw 187 = .ok (.iload_n 1, 1) := by decide +kernel
theorem dX9_draw_188 : decode cX9_draw 188 = .ok (.imul, 1) := by decide +kernel
theorem dX9_draw_189 : decode cX9_draw 189 = .ok (.iconst 3, 1) := by decide +kernel
theorem dX9_draw_190 : decode cX9_draw 190 = .ok (.iload 4, 2) := by decide +kernel
theorem dX9_draw_192 : decode cX9_draw 192 = .ok (.imul, 1) := by decide +kernel
theorem dX9_draw_193 : decode cX9_draw 193 = .ok (.iadd, 1) := by decide +kernel
theorem dX9_draw_194 : decode cX9_draw 194 = .ok (.istore 5, 2) := by decide +kernel
theorem dX9_draw_196 : decode cX9_draw 196 = .ok (.aload_n 0, 1) := by decide +kernel
theorem dX9_draw_197 : decode cX9_draw 197 = .ok (.getfield 42, 3) := by decide +kernel
theorem dX9_draw_200 : decode cX9_draw 200 = .ok (.iload 5, 2) := by decide +kernel
theorem dX9_draw_202 : decode cX9_draw 202 = .ok (.laload, 1) := by decide +kernel
theorem dX9_draw_203 : decode cX9_draw 203 = .ok (.l2i, 1) := by decide +kernel
theorem dX9_draw_204 : decode cX9_draw 204 = .ok (.istore 6, 2) := by decide +kernel
theorem dX9_draw_206 : decode cX9_draw 206 = .ok (.aload_n 0, 1) := by decide +kernel
theorem dX9_draw_207 : decode cX9_draw 207 = .ok (.getfield 42, 3) := by decide +kernel
theorem dX9_draw_210 : decode cX9_draw 210 = .ok (.iload 5, 2) := by decide +kernel
theorem dX9_draw_212 : decode cX9_draw 212 = .ok (.iconst 1, 1) := by decide +kernel
theorem dX9_draw_213 : decode cX9_draw 213 = .ok (.iadd, 1) := by decide +kernel
theorem dX9_draw_214 : decode cX9_draw 214 = .ok (.laload, 1) := by decide +kernel
theorem dX9_draw_215 : decode cX9_draw 215 = .ok (.l2i, 1) := by decide +kernel
theorem dX9_draw_216 : decode cX9_draw 216 = .ok (.istore 7, 2) := by decide +kernel
theorem dX9_draw_218 : decode cX9_draw 218 = .ok (.aload_n 0, 1) := by decide +kernel
theorem dX9_draw_219 : decode cX9_draw 219 = .ok (.getfield 42, 3) := by decide +kernel
theorem dX9_draw_222 : decode cX9_draw 222 = .ok (.iload 5, 2) := by decide +kernel
theorem dX9_draw_224 : decode cX9_draw 224 = .ok (.iconst 2, 1) := by decide +kernel
theorem dX9_draw_225 : decode cX9_draw 225 = .ok (.iadd, 1) := by decide +kernel
theorem dX9_draw_226 : decode cX9_draw 226 = .ok (.laload, 1) := by decide +kernel
theorem dX9_draw_227 : decode cX9_draw 227 = .ok (.l2i, 1) := by decide +kernel
theorem dX9_draw_228 : decode cX9_draw 228 = .ok (.istore 8, 2) := by decide +kernel
theorem dX9_draw_230 : decode cX9_draw 230 = .ok (.aload_n 0, 1) := by decide +kernel
theorem dX9_draw_231 : decode cX9_draw 231 = .ok (.getfield 63, 3) := by decide +kernel
theorem dX9_draw_234 : decode cX9_draw 234 = .ok (.bipush 12, 2) := by decide +kernel
theorem dX9_draw_236 : decode cX9_draw 236 = .ok (.iload 6, 2) := by decide +kernel
theorem dX9_draw_238 : decode cX9_draw 238 = .ok (.imul, 1) := by decide +kernel
theorem dX9_draw_239 : decode cX9_draw 239 = .ok (.iload 7, 2) := by decide +kernel
theorem dX9_draw_241 : decode cX9_draw 241 = .ok (.iadd, 1) := by decide +kernel
theorem dX9_draw_242 : decode cX9_draw 242 = .ok (.iload 8, 2) := by decide +kernel
theorem dX9_draw_244 : decode cX9_draw 244 = .ok (.iastore, 1) := by decide +kernel
theorem dX9_draw_245 : decode cX9_draw 245 = .ok (.aload_n 0, 1) := by decide +kernel
theorem dX9_draw_246 : decode cX9_draw 246 = .ok (.getfield 63, 3) := by decide +kernel
theorem dX9_draw_249 : decode cX9_draw 249 = .ok (.bipush 12, 2) := by decide +kernel
theorem dX9_draw_251 : decode cX9_draw 251 = .ok (.iload 7, 2) := by decide +kernel
theorem dX9_draw_253 : decode cX9_draw 253 = .ok (.imul, 1) := by decide +kernel
theorem dX9_draw_254 : decode cX9_draw 254 = .ok (.iload 6, 2) := by decide +kernel
theorem dX9_draw_256 : decode cX9_draw 256 = .ok (.iadd, 1) := by decide +kernel
theorem dX9_draw_257 : decode cX9_draw 257 = .ok (.iload 8, 2) := by decide +kernel
theorem dX9_draw_259 : decode cX9_draw 259 = .ok (.iastore, 1) := by decide +kernel
theorem dX9_draw_260 : decode cX9_draw 260 = .ok (.iinc 4 1, 3) := by decide +kernel
theorem dX9_draw_263 : decode cX9_draw 263 = .ok (.goto (-84), 3) := by decide +kernel
theorem dX9_draw_266 : decode cX9_draw 266 = .ok (.iconst 0, 1) := by decide +kernel
theorem dX9_draw_267 : decode cX9_draw 267 = .ok (.istore 4, 2) := by decide +kernel
theorem dX9_draw_269 : decode cX9_draw 269 = .ok (.iconst 0, 1) := by decide +kernel
theorem dX9_draw_270 : decode cX9_draw 270 = .ok (.istore 5, 2) := by decide +kernel
theorem dX9_draw_272 : decode cX9_draw 272 = .ok (.iload 5, 2) := by decide +kernel
theorem dX9_draw_274 : decode cX9_draw 274 = .ok (.sipush 144, 3) := by decide +kernel
theorem dX9_draw_277 : decode cX9_draw 277 = .ok (.if_icmp .ge 38, 3) := by decide +kernel
theorem dX9_draw_280 : decode cX9_draw 280 = .ok (.iload 4, 2) := by decide +kernel
theorem dX9_draw_282 : decode cX9_draw 282 = .ok (.ifCond .ne 20, 3) := by decide +kernel
theorem dX9_draw_285 : decode cX9_draw 285 = .ok (.aload_n 0, 1) := by decide +kernel
theorem dX9_draw_286 : decode cX9_draw 286 = .ok (.getfield 17, 3) := by decide +kernel
theorem dX9_draw_289 : decode cX9_draw 289 = .ok (.iload 5, 2) := by decide +kernel
theorem dX9_draw_291 : decode cX9_draw 291 = .ok (.iaload, 1) := by decide +kernel
theorem dX9_draw_292 : decode cX9_draw 292 = .ok (.aload_n 0, 1) := by decide +kernel
theorem dX9_draw_293 : decode cX9_draw 293 = .ok (.getfield 63, 3) := by decide +kernel
theorem dX9_draw_296 : decode cX9_draw 296 = .ok (.iload 5, 2) := by decide +kernel
theorem dX9_draw_298 : decode cX9_draw 298 = .ok (.iaload, 1) := by decide +kernel
theorem dX9_draw_299 : decode cX9_draw 299 = .ok (.if_icmp .eq 7, 3) := by decide +kernel
theorem dX9_draw_302 : decode cX9_draw 302 = .ok (.iconst 1, 1) := by decide +kernel
theorem dX9_draw_303 : decode cX9_draw 303 = .ok (.goto 4, 3) := by decide +kernel
theorem dX9_draw_306 : decode cX9_draw 306 = .ok (.iconst 0, 1) := by decide +kernel
theorem dX9_draw_307 : decode cX9_draw 307 = .ok (.istore 4, 2) := by decide +kernel
theorem dX9_draw_309 : decode cX9_draw 309 = .ok (.iinc 5 1, 3) := by decide +kernel
theorem dX9_draw_312 : decode cX9_draw 312 = .ok (.goto (-40), 3) := by decide +kernel
theorem dX9_draw_315 : decode cX9_draw 315 = .ok (.iload 4, 2) := by decide +kernel
theorem dX9_draw_317 : decode cX9_draw 317 = .ok (.ifCond .eq 7, 3) := by decide +kernel
theorem dX9_draw_320 : decode cX9_draw 320 = .ok (.aload_n 0, 1) := by decide +kernel
theorem dX9_draw_321 : decode cX9_draw 321 = .ok (.invokevirtual 87, 3) := by decide +kernel
theorem dX9_draw_324 : decode cX9_draw 324 = .ok (.iconst 0, 1) := by decide +kernel
theorem dX9_draw_325 : decode cX9_draw 325 = .ok (.istore 5, 2) := by decide +kernel
theorem dX9_draw_327 : decode cX9_draw 327 = .ok (.iload 5, 2) := by decide +kernel
theorem dX9_draw_329 : decode cX9_draw 329 = .ok (.sipush 144, 3) := by decide +kernel
theorem dX9_draw_332 : decode cX9_draw 332 = .ok (.if_icmp .ge 23, 3) := by decide +kernel
theorem dX9_draw_335 : decode cX9_draw 335 = .ok (.aload_n 0, 1) := by decide +kernel
theorem dX9_draw_336 : decode cX9_draw 336 = .ok (.getfield 17, 3) := by decide +kernel
theorem dX9_draw_339 : decode cX9_draw 339 = .ok (.iload 5, 2) := by decide +kernel
theorem dX9_draw_341 : decode cX9_draw 341 = .ok (.aload_n 0, 1) := by decide +kernel
theorem dX9_draw_342 : decode cX9_draw 342 = .ok (.getfield 63, 3) := by decide +kernel
theorem dX9_draw_345 : decode cX9_draw 345 = .ok (.iload 5, 2) := by decide +kernel
theorem dX9_draw_347 : decode cX9_draw 347 = .ok (.iaload, 1) := by decide +kernel
theorem dX9_draw_348 : decode cX9_draw 348 = .ok (.iastore, 1) := by decide +kernel
theorem dX9_draw_349 : decode cX9_draw 349 = .ok (.iinc 5 1, 3) := by decide +kernel
theorem dX9_draw_352 : decode cX9_draw 352 = .ok (.goto (-25), 3) := by decide +kernel
theorem dX9_draw_355 : decode cX9_draw 355 = .ok (.iload_n 3, 1) := by decide +kernel
theorem dX9_draw_356 : decode cX9_draw 356 = .ok (.ireturn, 1) := by decide +kernel
theorem dX9_findWays_0 : decode cX9_findWays 0 = .ok (.iconst 0, 1) := by decide +kernel
theorem dX9_findWays_1 : decode cX9_findWays 1 = .ok (.istore_n 1, 1) := by decide +kernel
theorem dX9_findWays_2 : decode cX9_findWays 2 = .ok (.iload_n 1, 1) := by decide +kernel
theorem dX9_findWays_3 : decode cX9_findWays 3 = .ok (.sipush 144, 3) := by decide +kernel
theorem dX9_findWays_6 : decode cX9_findWays 6 = .ok (.if_icmp .ge 50, 3) := by decide +kernel
theorem dX9_findWays_9 : decode cX9_findWays 9 = .ok (.aload_n 0, 1) := by decide +kernel
theorem dX9_findWays_10 : decode cX9_findWays 10 = .ok (.getfield 66, 3) := by decide +kernel
theorem dX9_findWays_13 : decode cX9_findWays 13 = .ok (.iload_n 1, 1) := by decide +kernel
theorem dX9_findWays_14 : decode cX9_findWays 14 = .ok (.iload_n 1, 1) := by decide +kernel
theorem dX9_findWays_15 : decode cX9_findWays 15 = .ok (.bipush 12, 2) := by decide +kernel
theorem dX9_findWays_17 : decode cX9_findWays 17 = .ok (.idiv, 1) := by decide +kernel
theorem dX9_findWays_18 : decode cX9_findWays 18 = .ok (.iload_n 1, 1) := by decide +kernel
theorem dX9_findWays_19 : decode cX9_findWays 19 = .ok (.bipush 12, 2) := by decide +kernel
theorem dX9_findWays_21 : decode cX9_findWays 21 = .ok (.irem, 1) := by decide +kernel
theorem dX9_findWays_22 : decode cX9_findWays 22 = .ok (.if_icmp .ne 7, 3) := by decide +kernel
theorem dX9_findWays_25 : decode cX9_findWays 25 = .ok (.iconst 0, 1) := by decide +kernel
theorem dX9_findWays_26 : decode cX9_findWays 26 = .ok (.goto 23, 3) := by decide +kernel
theorem dX9_findWays_29 : decode cX9_findWays 29 = .ok (.aload_n 0, 1) := by decide +kernel
theorem dX9_findWays_30 : decode cX9_findWays 30 = .ok (.getfield 17, 3) := by decide +kernel
theorem dX9_findWays_33 : decode cX9_findWays 33 = .ok (.iload_n 1, 1) := by decide +kernel
theorem dX9_findWays_34 : decode cX9_findWays 34 = .ok (.iaload, 1) := by decide +kernel
theorem dX9_findWays_35 : decode cX9_findWays 35 = .ok (.ifCond .le 12, 3) := by decide +kernel
theorem dX9_findWays_38 : decode cX9_findWays 38 = .ok (.aload_n 0, 1) := by decide +kernel
theorem dX9_findWays_39 : decode cX9_findWays 39 = .ok (.getfield 17, 3) := by decide +kernel
theorem dX9_findWays_42 : decode cX9_findWays 42 = .ok (.iload_n 1, 1) := by decide +kernel
theorem dX9_findWays_43 : decode cX9_findWays 43 = .ok (.iaload, 1) := by decide +kernel
theorem dX9_findWays_44 : decode cX9_findWays 44 = .ok (.goto 5, 3) := by decide +kernel
theorem dX9_findWays_47 : decode cX9_findWays 47 = .ok (.bipush (-4), 2) := by decide +kernel
theorem dX9_findWays_49 : decode cX9_findWays 49 = .ok (.iastore, 1) := by decide +kernel
theorem dX9_findWays_50 : decode cX9_findWays 50 = .ok (.iinc 1 1, 3) := by decide +kernel
theorem dX9_findWays_53 : decode cX9_findWays 53 = .ok (.goto (-51), 3) := by decide +kernel
theorem dX9_findWays_56 : decode cX9_findWays 56 = .ok (.iconst 0, 1) := by decide +kernel
theorem dX9_findWays_57 : decode cX9_findWays 57 = .ok (.istore_n 1, 1) := by decide +kernel
theorem dX9_findWays_58 : decode cX9_findWays 58 = .ok (.iload_n 1, 1) := by decide +kernel
theorem dX9_findWays_59 : decode cX9_findWays 59 = .ok (.aload_n 0, 1) := by decide +kernel
theorem dX9_findWays_60 : decode cX9_findWays 60 = .ok (.getfield 75, 3) := by decide +kernel
theorem dX9_findWays_63 : decode cX9_findWays 63 = .ok (.if_icmp .ge 155, 3) := by decide +kernel
theorem dX9_findWays_66 : decode cX9_findWays 66 = .ok (.iconst 0, 1) := by decide +kernel
theorem dX9_findWays_67 : decode cX9_findWays 67 = .ok (.istore_n 2, 1) := by decide +kernel
theorem dX9_findWays_68 : decode cX9_findWays 68 = .ok (.iload_n 2, 1) := by decide +kernel
theorem dX9_findWays_69 : decode cX9_findWays 69 = .ok (.aload_n 0, 1) := by decide +kernel
theorem dX9_findWays_70 : decode cX9_findWays 70 = .ok (.getfield 75, 3) := by decide +kernel
theorem dX9_findWays_73 : decode cX9_findWays 73 = .ok (.if_icmp .ge 139, 3) := by decide +kernel
theorem dX9_findWays_76 : decode cX9_findWays 76 = .ok (.iconst 0, 1) := by decide +kernel
theorem dX9_findWays_77 : decode cX9_findWays 77 = .ok (.istore_n 3, 1) := by decide +kernel
theorem dX9_findWays_78 : decode cX9_findWays 78 = .ok (.iload_n 3, 1) := by decide +kernel
theorem dX9_findWays_79 : decode cX9_findWays 79 = .ok (.aload_n 0, 1) := by decide +kernel
theorem dX9_findWays_80 : decode cX9_findWays 80 = .ok (.getfield 75, 3) := by decide +kernel
theorem dX9_findWays_83 : decode cX9_findWays 83 = .ok (.if_icmp .ge 123, 3) := by decide +kernel
theorem dX9_findWays_86 : decode cX9_findWays 86 = .ok (.aload_n 0, 1) := by decide +kernel
theorem dX9_findWays_87 : decode cX9_findWays 87 = .ok (.getfield 66, 3) := by decide +kernel
theorem dX9_findWays_90 : decode cX9_findWays 90 = .ok (.bipush 12, 2) := by decide +kernel
theorem dX9_findWays_92 : decode cX9_findWays 92 = .ok (.iload_n 2, 1) := by decide +kernel
theorem dX9_findWays_93 : decode cX9_findWays 93 = .ok (.imul, 1) := by decide +kernel
theorem dX9_findWays_94 : decode cX9_findWays 94 = .ok (.iload_n 1, 1) := by decide +kernel
theorem dX9_findWays_95 : decode cX9_findWays 95 = .ok (.iadd, 1) := by decide +kernel
theorem dX9_findWays_96 : decode cX9_findWays 96 = .ok (.iaload, 1) := by decide +kernel
theorem dX9_findWays_97 : decode cX9_findWays 97 = .ok (.bipush (-4), 2) := by decide +kernel
theorem dX9_findWays_99 : decode cX9_findWays 99 = .ok (.if_icmp .eq 19, 3) := by decide +kernel
theorem dX9_findWays_102 : decode cX9_findWays 102 = .ok (.aload_n 0, 1) := by decide +kernel
theorem dX9_findWays_103 : decode cX9_findWays 103 = .ok (.getfield 66, 3) := by decide +kernel
theorem dX9_findWays_106 : decode cX9_findWays 106 = .ok (.bipush 12, 2) := by decide +kernel
theorem dX9_findWays_108 : decode cX9_findWays 108 = .ok (.iload_n 1, 1) := by decide +kernel
theorem dX9_findWays_109 : decode cX9_findWays 109 = .ok (.imul, 1) := by decide +kernel
theorem dX9_findWays_110 : decode cX9_findWays 110 = .ok (.iload_n 3, 1) := by decide +kernel
theorem dX9_findWays_111 : decode cX9_findWays 111 = .ok (.iadd, 1) := by decide +kernel
theorem dX9_findWays_112 : decode cX9_findWays 112 = .ok (.iaload, 1) := by decide +kernel
theorem dX9_findWays_113 : decode cX9_findWays 113 = .ok (.bipush (-4), 2) := by decide +kernel
theorem dX9_findWays_115 : decode cX9_findWays 115 = .ok (.if_icmp .ne 8, 3) := by decide +kernel
theorem dX9_findWays_118 : decode cX9_findWays 118 = .ok (.bipush (-4), 2) := by decide +kernel
theorem dX9_findWays_120 : decode cX9_findWays 120 = .ok (.goto 26, 3) := by decide +kernel
theorem dX9_findWays_123 : decode cX9_findWays 123 = .ok (.aload_n 0, 1) := by decide +kernel
theorem dX9_findWays_124 : decode cX9_findWays 124 = .ok (.getfield 66, 3) := by decide +kernel
theorem dX9_findWays_127 : decode cX9_findWays 127 = .ok (.bipush 12, 2) := by decide +kernel
theorem dX9_findWays_129 : decode cX9_findWays 129 = .ok (.iload_n 2, 1) := by decide +kernel
theorem dX9_findWays_130 : decode cX9_findWays 130 = .ok (.imul, 1) := by decide +kernel
theorem dX9_findWays_131 : decode cX9_findWays 131 = .ok (.iload_n 1, 1) := by decide +kernel
theorem dX9_findWays_132 : decode cX9_findWays 132 = .ok (.iadd, 1) := by decide +kernel
theorem dX9_findWays_133 : decode cX9_findWays 133 = .ok (.iaload, 1) := by decide +kernel
theorem dX9_findWays_134 : decode cX9_findWays 134 = .ok (.aload_n 0, 1) := by decide +kernel
theorem dX9_findWays_135 : decode cX9_findWays 135 = .ok (.getfield 66, 3) := by decide +kernel
theorem dX9_findWays_138 : decode cX9_findWays 138 = .ok (.bipush 12, 2) := by decide +kernel
theorem dX9_findWays_140 : decode cX9_findWays 140 = .ok (.iload_n 1, 1) := by decide +kernel
theorem dX9_findWays_141 : decode cX9_findWays 141 = .ok (.imul, 1) := by decide +kernel
theorem dX9_findWays_142 : decode cX9_findWays 142 = .ok (.iload_n 3, 1) := by decide +kernel
theorem dX9_findWays_143 : decode cX9_findWays 143 = .ok (.iadd, 1) := by decide +kernel
theorem dX9_findWays_144 : decode cX9_findWays 144 = .ok (.iaload, 1) := by decide +kernel
theorem dX9_findWays_145 : decode cX9_findWays 145 = .ok (.iadd, 1) := by decide +kernel
theorem dX9_findWays_146 : decode cX9_findWays 146 = .ok (.istore 4, 2) := by decide +kernel
theorem dX9_findWays_148 : decode cX9_findWays 148 = .ok (.iload 4, 2) := by decide +kernel
theorem dX9_findWays_150 : decode cX9_findWays 150 = .ok (.bipush (-4), 2) := by decide +kernel
theorem dX9_findWays_152 : decode cX9_findWays 152 = .ok (.if_icmp .eq 48, 3) := by decide +kernel
theorem dX9_findWays_155 : decode cX9_findWays 155 = .ok (.aload_n 0, 1) := by decide +kernel
theorem dX9_findWays_156 : decode cX9_findWays 156 = .ok (.getfield 66, 3) := by decide +kernel
theorem dX9_findWays_159 : decode cX9_findWays 159 = .ok (.bipush 12, 2) := by decide +kernel
theorem dX9_findWays_161 : decode cX9_findWays 161 = .ok (.iload_n 2, 1) := by decide +kernel
theorem dX9_findWays_162 : decode cX9_findWays 162 = .ok (.imul, 1) := by decide +kernel
theorem dX9_findWays_163 : decode cX9_findWays 163 = .ok (.iload_n 3, 1) := by decide +kernel
theorem dX9_findWays_164 : decode cX9_findWays 164 = .ok (.iadd, 1) := by decide +kernel
theorem dX9_findWays_165 : decode cX9_findWays 165 = .ok (.iaload, 1) := by decide +kernel
theorem dX9_findWays_166 : decode cX9_findWays 166 = .ok (.bipush (-4), 2) := by decide +kernel
theorem dX9_findWays_168 : decode cX9_findWays 168 = .ok (.if_icmp .eq 19, 3) := by decide +kernel
theorem dX9_findWays_171 : decode cX9_findWays 171 = .ok (.iload 4, 2) := by decide +kernel
theorem dX9_findWays_173 : decode cX9_findWays 173 = .ok (.aload_n 0, 1) := by decide +kernel
theorem dX9_findWays_174 : decode cX9_findWays 174 = .ok (.getfield 66, 3) := by decide +kernel
theorem dX9_findWays_177 : decode cX9_findWays 177 = .ok (.bipush 12, 2) := by decide +kernel
theorem dX9_findWays_179 : decode cX9_findWays 179 = .ok (.iload_n 2, 1) := by decide +kernel
theorem dX9_findWays_180 : decode cX9_findWays 180 = .ok (.imul, 1) := by decide +kernel
theorem dX9_findWays_181 : decode cX9_findWays 181 = .ok (.iload_n 3, 1) := by decide +kernel
theorem dX9_findWays_182 : decode cX9_findWays 182 = .ok (.iadd, 1) := by decide +kernel
theorem dX9_findWays_183 : decode cX9_findWays 183 = .ok (.iaload, 1) := by decide +kernel
theorem dX9_findWays_184 : decode cX9_findWays 184 = .ok (.if_icmp .ge 16, 3) := by decide +kernel
theorem dX9_findWays_187 : decode cX9_findWays 187 = .ok (.aload_n 0, 1) := by decide +kernel
theorem dX9_findWays_188 : decode cX9_findWays 188 = .ok (.getfield 66, 3) := by decide +kernel
theorem dX9_findWays_191 : decode cX9_findWays 191 = .ok (.bipush 12, 2) := by decide +kernel
theorem dX9_findWays_193 : decode cX9_findWays 193 = .ok (.iload_n 2, 1) := by decide +kernel
theorem dX9_findWays_194 : decode cX9_findWays 194 = .ok (.imul, 1) := by decide +kernel
theorem dX9_findWays_195 : decode cX9_findWays 195 = .ok (.iload_n 3, 1) := by decide +kernel
theorem dX9_findWays_196 : decode cX9_findWays 196 = .ok (.iadd, 1) := by decide +kernel
theorem dX9_findWays_197 : decode cX9_findWays 197 = .ok (.iload 4, 2) := by decide +kernel
theorem dX9_findWays_199 : decode cX9_findWays 199 = .ok (.iastore, 1) := by decide +kernel
theorem dX9_findWays_200 : decode cX9_findWays 200 = .ok (.iinc 3 1, 3) := by decide +kernel
theorem dX9_findWays_203 : decode cX9_findWays 203 = .ok (.goto (-125), 3) := by decide +kernel
theorem dX9_findWays_206 : decode cX9_findWays 206 = .ok (.iinc 2 1, 3) := by decide +kernel
theorem dX9_findWays_209 : decode cX9_findWays 209 = .ok (.goto (-141), 3) := by decide +kernel
theorem dX9_findWays_212 : decode cX9_findWays 212 = .ok (.iinc 1 1, 3) := by decide +kernel
theorem dX9_findWays_215 : decode cX9_findWays 215 = .ok (.goto (-157), 3) := by decide +kernel
theorem dX9_findWays_218 : decode cX9_findWays 218 = .ok (.return_, 1) := by decide +kernel
theorem dX9_apart_0 : decode cX9_apart 0 = .ok (.aload_n 0, 1) := by decide +kernel
theorem dX9_apart_1 : decode cX9_apart 1 = .ok (.iload_n 1, 1) := by decide +kernel
theorem dX9_apart_2 : decode cX9_apart 2 = .ok (.invokevirtual 90, 3) := by decide +kernel
theorem dX9_apart_5 : decode cX9_apart 5 = .ok (.ifCond .eq 11, 3) := by decide +kernel
theorem dX9_apart_8 : decode cX9_apart 8 = .ok (.aload_n 0, 1) := by decide +kernel
theorem dX9_apart_9 : decode cX9_apart 9 = .ok (.iload_n 2, 1) := by decide +kernel
theorem dX9_apart_10 : decode cX9_apart 10 = .ok (.invokevirtual 90, 3) := by decide +kernel
theorem dX9_apart_13 : decode cX9_apart 13 = .ok (.ifCond .ne 5, 3) := by decide +kernel
theorem dX9_apart_16 : decode cX9_apart 16 = .ok (.iconst (-1), 1) := by decide +kernel
theorem dX9_apart_17 : decode cX9_apart 17 = .ok (.ireturn, 1) := by decide +kernel
theorem dX9_apart_18 : decode cX9_apart 18 = .ok (.aload_n 0, 1) := by decide +kernel
theorem dX9_apart_19 : decode cX9_apart 19 = .ok (.invokevirtual 112, 3) := by decide +kernel
theorem dX9_apart_22 : decode cX9_apart 22 = .ok (.aload_n 0, 1) := by decide +kernel
theorem dX9_apart_23 : decode cX9_apart 23 = .ok (.getfield 66, 3) := by decide +kernel
theorem dX9_apart_26 : decode cX9_apart 26 = .ok (.bipush 12, 2) := by decide +kernel
theorem dX9_apart_28 : decode cX9_apart 28 = .ok (.iload_n 1, 1) := by decide +kernel
theorem dX9_apart_29 : decode cX9_apart 29 = .ok (.imul, 1) := by decide +kernel
theorem dX9_apart_30 : decode cX9_apart 30 = .ok (.iload_n 2, 1) := by decide +kernel
theorem dX9_apart_31 : decode cX9_apart 31 = .ok (.iadd, 1) := by decide +kernel
theorem dX9_apart_32 : decode cX9_apart 32 = .ok (.iaload, 1) := by decide +kernel
theorem dX9_apart_33 : decode cX9_apart 33 = .ok (.ireturn, 1) := by decide +kernel
theorem dX9_way_0 : decode cX9_way 0 = .ok (.aload_n 0, 1) := by decide +kernel
theorem dX9_way_1 : decode cX9_way 1 = .ok (.iload_n 1, 1) := by decide +kernel
theorem dX9_way_2 : decode cX9_way 2 = .ok (.invokevirtual 90, 3) := by decide +kernel
theorem dX9_way_5 : decode cX9_way 5 = .ok (.ifCond .eq 15, 3) := by decide +kernel
theorem dX9_way_8 : decode cX9_way 8 = .ok (.aload_n 0, 1) := by decide +kernel
theorem dX9_way_9 : decode cX9_way 9 = .ok (.iload_n 2, 1) := by decide +kernel
theorem dX9_way_10 : decode cX9_way 10 = .ok (.invokevirtual 90, 3) := by decide +kernel
theorem dX9_way_13 : decode cX9_way 13 = .ok (.ifCond .eq 7, 3) := by decide +kernel
theorem dX9_way_16 : decode cX9_way 16 = .ok (.iload_n 3, 1) := by decide +kernel
theorem dX9_way_17 : decode cX9_way 17 = .ok (.ifCond .ge 5, 3) := by decide +kernel
theorem dX9_way_20 : decode cX9_way 20 = .ok (.iconst (-1), 1) := by decide +kernel
theorem dX9_way_21 : decode cX9_way 21 = .ok (.ireturn, 1) := by decide +kernel
theorem dX9_way_22 : decode cX9_way 22 = .ok (.aload_n 0, 1) := by decide +kernel
theorem dX9_way_23 : decode cX9_way 23 = .ok (.invokevirtual 112, 3) := by decide +kernel
theorem dX9_way_26 : decode cX9_way 26 = .ok (.aload_n 0, 1) := by decide +kernel
theorem dX9_way_27 : decode cX9_way 27 = .ok (.getfield 66, 3) := by decide +kernel
theorem dX9_way_30 : decode cX9_way 30 = .ok (.bipush 12, 2) := by decide +kernel
theorem dX9_way_32 : decode cX9_way 32 = .ok (.iload_n 1, 1) := by decide +kernel
theorem dX9_way_33 : decode cX9_way 33 = .ok (.imul, 1) := by decide +kernel
theorem dX9_way_34 : decode cX9_way 34 = .ok (.iload_n 2, 1) := by decide +kernel
theorem dX9_way_35 : decode cX9_way 35 = .ok (.iadd, 1) := by decide +kernel
theorem dX9_way_36 : decode cX9_way 36 = .ok (.iaload, 1) := by decide +kernel
theorem dX9_way_37 : decode cX9_way 37 = .ok (.bipush (-4), 2) := by decide +kernel
theorem dX9_way_39 : decode cX9_way 39 = .ok (.if_icmp .ne 6, 3) := by decide +kernel
theorem dX9_way_42 : decode cX9_way 42 = .ok (.bipush (-4), 2) := by decide +kernel
theorem dX9_way_44 : decode cX9_way 44 = .ok (.ireturn, 1) := by decide +kernel
theorem dX9_way_45 : decode cX9_way 45 = .ok (.iload_n 1, 1) := by decide +kernel
theorem dX9_way_46 : decode cX9_way 46 = .ok (.istore 4, 2) := by decide +kernel
theorem dX9_way_48 : decode cX9_way 48 = .ok (.iconst 0, 1) := by decide +kernel
theorem dX9_way_49 : decode cX9_way 49 = .ok (.istore 5, 2) := by decide +kernel
theorem dX9_way_51 : decode cX9_way 51 = .ok (.iload 5, 2) := by decide +kernel
theorem dX9_way_53 : decode cX9_way 53 = .ok (.iload_n 3, 1) := by decide +kernel
theorem dX9_way_54 : decode cX9_way 54 = .ok (.if_icmp .ge 105, 3) := by decide +kernel
theorem dX9_way_57 : decode cX9_way 57 = .ok (.iload 4, 2) := by decide +kernel
theorem dX9_way_59 : decode cX9_way 59 = .ok (.iload_n 2, 1) := by decide +kernel
theorem dX9_way_60 : decode cX9_way 60 = .ok (.if_icmp .ne 6, 3) := by decide +kernel
theorem dX9_way_63 : decode cX9_way 63 = .ok (.bipush (-4), 2) := by decide +kernel
theorem dX9_way_65 : decode cX9_way 65 = .ok (.ireturn, 1) := by decide +kernel
theorem dX9_way_66 : decode cX9_way 66 = .ok (.iconst 0, 1) := by decide +kernel
theorem dX9_way_67 : decode cX9_way 67 = .ok (.istore 6, 2) := by decide +kernel
theorem dX9_way_69 : decode cX9_way 69 = .ok (.aload_n 0, 1) := by decide +kernel
theorem dX9_way_70 : decode cX9_way 70 = .ok (.getfield 17, 3) := by decide +kernel
theorem dX9_way_73 : decode cX9_way 73 = .ok (.bipush 12, 2) := by decide +kernel
theorem dX9_way_75 : decode cX9_way 75 = .ok (.iload 4, 2) := by decide +kernel
theorem dX9_way_77 : decode cX9_way 77 = .ok (.imul, 1) := by decide +kernel
theorem dX9_way_78 : decode cX9_way 78 = .ok (.iload 6, 2) := by decide +kernel
theorem dX9_way_80 : decode cX9_way 80 = .ok (.iadd, 1) := by decide +kernel
theorem dX9_way_81 : decode cX9_way 81 = .ok (.iaload, 1) := by decide +kernel
theorem dX9_way_82 : decode cX9_way 82 = .ok (.ifCond .eq 61, 3) := by decide +kernel
theorem dX9_way_85 : decode cX9_way 85 = .ok (.aload_n 0, 1) := by decide +kernel
theorem dX9_way_86 : decode cX9_way 86 = .ok (.getfield 66, 3) := by decide +kernel
theorem dX9_way_89 : decode cX9_way 89 = .ok (.bipush 12, 2) := by decide +kernel
theorem dX9_way_91 : decode cX9_way 91 = .ok (.iload 6, 2) := by decide +kernel
theorem dX9_way_93 : decode cX9_way 93 = .ok (.imul, 1) := by decide +kernel
theorem dX9_way_94 : decode cX9_way 94 = .ok (.iload_n 2, 1) := by decide +kernel
theorem dX9_way_95 : decode cX9_way 95 = .ok (.iadd, 1) := by decide +kernel
theorem dX9_way_96 : decode cX9_way 96 = .ok (.iaload, 1) := by decide +kernel
theorem dX9_way_97 : decode cX9_way 97 = .ok (.bipush (-4), 2) := by decide +kernel
theorem dX9_way_99 : decode cX9_way 99 = .ok (.if_icmp .eq 44, 3) := by decide +kernel
theorem dX9_way_102 : decode cX9_way 102 = .ok (.aload_n 0, 1) := by decide +kernel
theorem dX9_way_103 : decode cX9_way 103 = .ok (.getfield 17, 3) := by decide +kernel
theorem dX9_way_106 : decode cX9_way 106 = .ok (.bipush 12, 2) := by decide +kernel
theorem dX9_way_108 : decode cX9_way 108 = .ok (.iload 4, 2) := by decide +kernel
theorem dX9_way_110 : decode cX9_way 110 = .ok (.imul, 1) := by decide +kernel
theorem dX9_way_111 : decode cX9_way 111 = .ok (.iload 6, 2) := by decide +kernel
theorem dX9_way_113 : decode cX9_way 113 = .ok (.iadd, 1) := by decide +kernel
theorem dX9_way_114 : decode cX9_way 114 = .ok (.iaload, 1) := by decide +kernel
theorem dX9_way_115 : decode cX9_way 115 = .ok (.aload_n 0, 1) := by decide +kernel
theorem dX9_way_116 : decode cX9_way 116 = .ok (.getfield 66, 3) := by decide +kernel
theorem dX9_way_119 : decode cX9_way 119 = .ok (.bipush 12, 2) := by decide +kernel
theorem dX9_way_121 : decode cX9_way 121 = .ok (.iload 6, 2) := by decide +kernel
theorem dX9_way_123 : decode cX9_way 123 = .ok (.imul, 1) := by decide +kernel
theorem dX9_way_124 : decode cX9_way 124 = .ok (.iload_n 2, 1) := by decide +kernel
theorem dX9_way_125 : decode cX9_way 125 = .ok (.iadd, 1) := by decide +kernel
theorem dX9_way_126 : decode cX9_way 126 = .ok (.iaload, 1) := by decide +kernel
theorem dX9_way_127 : decode cX9_way 127 = .ok (.iadd, 1) := by decide +kernel
theorem dX9_way_128 : decode cX9_way 128 = .ok (.aload_n 0, 1) := by decide +kernel
theorem dX9_way_129 : decode cX9_way 129 = .ok (.getfield 66, 3) := by decide +kernel
theorem dX9_way_132 : decode cX9_way 132 = .ok (.bipush 12, 2) := by decide +kernel
theorem dX9_way_134 : decode cX9_way 134 = .ok (.iload 4, 2) := by decide +kernel
theorem dX9_way_136 : decode cX9_way 136 = .ok (.imul, 1) := by decide +kernel
theorem dX9_way_137 : decode cX9_way 137 = .ok (.iload_n 2, 1) := by decide +kernel
theorem dX9_way_138 : decode cX9_way 138 = .ok (.iadd, 1) := by decide +kernel
theorem dX9_way_139 : decode cX9_way 139 = .ok (.iaload, 1) := by decide +kernel
theorem dX9_way_140 : decode cX9_way 140 = .ok (.if_icmp .eq 9, 3) := by decide +kernel
theorem dX9_way_143 : decode cX9_way 143 = .ok (.iinc 6 1, 3) := by decide +kernel
theorem dX9_way_146 : decode cX9_way 146 = .ok (.goto (-77), 3) := by decide +kernel
theorem dX9_way_149 : decode cX9_way 149 = .ok (.iload 6, 2) := by decide +kernel
theorem dX9_way_151 : decode cX9_way 151 = .ok (.istore 4, 2) := by decide +kernel
theorem dX9_way_153 : decode cX9_way 153 = .ok (.iinc 5 1, 3) := by decide +kernel
theorem dX9_way_156 : decode cX9_way 156 = .ok (.goto (-105), 3) := by decide +kernel
theorem dX9_way_159 : decode cX9_way 159 = .ok (.iload 4, 2) := by decide +kernel
theorem dX9_way_161 : decode cX9_way 161 = .ok (.ireturn, 1) := by decide +kernel
theorem dX9_carried_0 : decode cX9_carried 0 = .ok (.aload_n 0, 1) := by decide +kernel
theorem dX9_carried_1 : decode cX9_carried 1 = .ok (.getfield 66, 3) := by decide +kernel
theorem dX9_carried_4 : decode cX9_carried 4 = .ok (.bipush 12, 2) := by decide +kernel
theorem dX9_carried_6 : decode cX9_carried 6 = .ok (.aload_n 0, 1) := by decide +kernel
theorem dX9_carried_7 : decode cX9_carried 7 = .ok (.getfield 20, 3) := by decide +kernel
theorem dX9_carried_10 : decode cX9_carried 10 = .ok (.iload_n 1, 1) := by decide +kernel
theorem dX9_carried_11 : decode cX9_carried 11 = .ok (.iaload, 1) := by decide +kernel
theorem dX9_carried_12 : decode cX9_carried 12 = .ok (.imul, 1) := by decide +kernel
theorem dX9_carried_13 : decode cX9_carried 13 = .ok (.iload_n 2, 1) := by decide +kernel
theorem dX9_carried_14 : decode cX9_carried 14 = .ok (.iadd, 1) := by decide +kernel
theorem dX9_carried_15 : decode cX9_carried 15 = .ok (.iaload, 1) := by decide +kernel
theorem dX9_carried_16 : decode cX9_carried 16 = .ok (.istore_n 3, 1) := by decide +kernel
theorem dX9_carried_17 : decode cX9_carried 17 = .ok (.iload_n 3, 1) := by decide +kernel
theorem dX9_carried_18 : decode cX9_carried 18 = .ok (.bipush (-4), 2) := by decide +kernel
theorem dX9_carried_20 : decode cX9_carried 20 = .ok (.if_icmp .eq 23, 3) := by decide +kernel
theorem dX9_carried_23 : decode cX9_carried 23 = .ok (.aload_n 0, 1) := by decide +kernel
theorem dX9_carried_24 : decode cX9_carried 24 = .ok (.getfield 23, 3) := by decide +kernel
theorem dX9_carried_27 : decode cX9_carried 27 = .ok (.iload_n 1, 1) := by decide +kernel
theorem dX9_carried_28 : decode cX9_carried 28 = .ok (.iaload, 1) := by decide +kernel
theorem dX9_carried_29 : decode cX9_carried 29 = .ok (.iconst 4, 1) := by decide +kernel
theorem dX9_carried_30 : decode cX9_carried 30 = .ok (.if_icmp .ne 18, 3) := by decide +kernel
theorem dX9_carried_33 : decode cX9_carried 33 = .ok (.iload_n 3, 1) := by decide +kernel
theorem dX9_carried_34 : decode cX9_carried 34 = .ok (.aload_n 0, 1) := by decide +kernel
theorem dX9_carried_35 : decode cX9_carried 35 = .ok (.getfield 29, 3) := by decide +kernel
theorem dX9_carried_38 : decode cX9_carried 38 = .ok (.iload_n 1, 1) := by decide +kernel
theorem dX9_carried_39 : decode cX9_carried 39 = .ok (.iaload, 1) := by decide +kernel
theorem dX9_carried_40 : decode cX9_carried 40 = .ok (.if_icmp .le 8, 3) := by decide +kernel
theorem dX9_carried_43 : decode cX9_carried 43 = .ok (.bipush (-4), 2) := by decide +kernel
theorem dX9_carried_45 : decode cX9_carried 45 = .ok (.goto 22, 3) := by decide +kernel
theorem dX9_carried_48 : decode cX9_carried 48 = .ok (.aload_n 0, 1) := by decide +kernel
theorem dX9_carried_49 : decode cX9_carried 49 = .ok (.getfield 23, 3) := by decide +kernel
theorem dX9_carried_52 : decode cX9_carried 52 = .ok (.iload_n 1, 1) := by decide +kernel
theorem dX9_carried_53 : decode cX9_carried 53 = .ok (.iaload, 1) := by decide +kernel
theorem dX9_carried_54 : decode cX9_carried 54 = .ok (.iconst 1, 1) := by decide +kernel
theorem dX9_carried_55 : decode cX9_carried 55 = .ok (.if_icmp .ne 11, 3) := by decide +kernel
theorem dX9_carried_58 : decode cX9_carried 58 = .ok (.iload_n 3, 1) := by decide +kernel
theorem dX9_carried_59 : decode cX9_carried 59 = .ok (.iconst 1, 1) := by decide +kernel
theorem dX9_carried_60 : decode cX9_carried 60 = .ok (.iadd, 1) := by decide +kernel
theorem dX9_carried_61 : decode cX9_carried 61 = .ok (.iconst 2, 1) := by decide +kernel
theorem dX9_carried_62 : decode cX9_carried 62 = .ok (.idiv, 1) := by decide +kernel
theorem dX9_carried_63 : decode cX9_carried 63 = .ok (.goto 4, 3) := by decide +kernel
theorem dX9_carried_66 : decode cX9_carried 66 = .ok (.iload_n 3, 1) := by decide +kernel
theorem dX9_carried_67 : decode cX9_carried 67 = .ok (.ireturn, 1) := by decide +kernel
theorem dX9_ovenCost_0 : decode cX9_ovenCost 0 = .ok (.aload_n 0, 1) := by decide +kernel
theorem dX9_ovenCost_1 : decode cX9_ovenCost 1 = .ok (.getfield 23, 3) := by decide +kernel
theorem dX9_ovenCost_4 : decode cX9_ovenCost 4 = .ok (.iload_n 1, 1) := by decide +kernel
theorem dX9_ovenCost_5 : decode cX9_ovenCost 5 = .ok (.iaload, 1) := by decide +kernel
theorem dX9_ovenCost_6 : decode cX9_ovenCost 6 = .ok (.iconst 2, 1) := by decide +kernel
theorem dX9_ovenCost_7 : decode cX9_ovenCost 7 = .ok (.if_icmp .eq 13, 3) := by decide +kernel
theorem dX9_ovenCost_10 : decode cX9_ovenCost 10 = .ok (.aload_n 0, 1) := by decide +kernel
theorem dX9_ovenCost_11 : decode cX9_ovenCost 11 = .ok (.getfield 23, 3) := by decide +kernel
theorem dX9_ovenCost_14 : decode cX9_ovenCost 14 = .ok (.iload_n 1, 1) := by decide +kernel
theorem dX9_ovenCost_15 : decode cX9_ovenCost 15 = .ok (.iaload, 1) := by decide +kernel
theorem dX9_ovenCost_16 : decode cX9_ovenCost 16 = .ok (.iconst 3, 1) := by decide +kernel
theorem dX9_ovenCost_17 : decode cX9_ovenCost 17 = .ok (.if_icmp .ne 7, 3) := by decide +kernel
theorem dX9_ovenCost_20 : decode cX9_ovenCost 20 = .ok (.iconst 0, 1) := by decide +kernel
theorem dX9_ovenCost_21 : decode cX9_ovenCost 21 = .ok (.goto 9, 3) := by decide +kernel
theorem dX9_ovenCost_24 : decode cX9_ovenCost 24 = .ok (.aload_n 0, 1) := by decide +kernel
theorem dX9_ovenCost_25 : decode cX9_ovenCost 25 = .ok (.getfield 26, 3) := by decide +kernel
theorem dX9_ovenCost_28 : decode cX9_ovenCost 28 = .ok (.iload_n 1, 1) := by decide +kernel
theorem dX9_ovenCost_29 : decode cX9_ovenCost 29 = .ok (.iaload, 1) := by decide +kernel
theorem dX9_ovenCost_30 : decode cX9_ovenCost 30 = .ok (.ireturn, 1) := by decide +kernel
theorem dX9_isChoice_0 : decode cX9_isChoice 0 = .ok (.iload_n 1, 1) := by decide +kernel
theorem dX9_isChoice_1 : decode cX9_isChoice 1 = .ok (.i2l, 1) := by decide +kernel
theorem dX9_isChoice_2 : decode cX9_isChoice 2 = .ok (.lconst 0, 1) := by decide +kernel
theorem dX9_isChoice_3 : decode cX9_isChoice 3 = .ok (.iconst 1, 1) := by decide +kernel
theorem dX9_isChoice_4 : decode cX9_isChoice 4 = .ok (.aload_n 0, 1) := by decide +kernel
theorem dX9_isChoice_5 : decode cX9_isChoice 5 = .ok (.getfield 78, 3) := by decide +kernel
theorem dX9_isChoice_8 : decode cX9_isChoice 8 = .ok (.ishl, 1) := by decide +kernel
theorem dX9_isChoice_9 : decode cX9_isChoice 9 = .ok (.iconst 1, 1) := by decide +kernel
theorem dX9_isChoice_10 : decode cX9_isChoice 10 = .ok (.isub, 1) := by decide +kernel
theorem dX9_isChoice_11 : decode cX9_isChoice 11 = .ok (.i2l, 1) := by decide +kernel
theorem dX9_isChoice_12 : decode cX9_isChoice 12 = .ok (.invokestatic 81, 3) := by decide +kernel
theorem dX9_isChoice_15 : decode cX9_isChoice 15 = .ok (.ireturn, 1) := by decide +kernel
theorem dX9_isAllowed_0 : decode cX9_isAllowed 0 = .ok (.iconst 0, 1) := by decide +kernel
theorem dX9_isAllowed_1 : decode cX9_isAllowed 1 = .ok (.istore_n 2, 1) := by decide +kernel
theorem dX9_isAllowed_2 : decode cX9_isAllowed 2 = .ok (.iconst 1, 1) := by decide +kernel
theorem dX9_isAllowed_3 : decode cX9_isAllowed 3 = .ok (.istore_n 3, 1) := by decide +kernel
theorem dX9_isAllowed_4 : decode cX9_isAllowed 4 = .ok (.iconst 0, 1) := by decide +kernel
theorem dX9_isAllowed_5 : decode cX9_isAllowed 5 = .ok (.istore 4, 2) := by decide +kernel
theorem dX9_isAllowed_7 : decode cX9_isAllowed 7 = .ok (.iload 4, 2) := by decide +kernel
theorem dX9_isAllowed_9 : decode cX9_isAllowed 9 = .ok (.aload_n 0, 1) := by decide +kernel
theorem dX9_isAllowed_10 : decode cX9_isAllowed 10 = .ok (.getfield 78, 3) := by decide +kernel
theorem dX9_isAllowed_13 : decode cX9_isAllowed 13 = .ok (.if_icmp .ge 80, 3) := by decide +kernel
theorem dX9_isAllowed_16 : decode cX9_isAllowed 16 = .ok (.iload_n 1, 1) := by decide +kernel
theorem dX9_isAllowed_17 : decode cX9_isAllowed 17 = .ok (.iload 4, 2) := by decide +kernel
theorem dX9_isAllowed_19 : decode cX9_isAllowed 19 = .ok (.ishr, 1) := by decide +kernel
theorem dX9_isAllowed_20 : decode cX9_isAllowed 20 = .ok (.iconst 1, 1) := by decide +kernel
theorem dX9_isAllowed_21 : decode cX9_isAllowed 21 = .ok (.iand, 1) := by decide +kernel
theorem dX9_isAllowed_22 : decode cX9_isAllowed 22 = .ok (.iconst 1, 1) := by decide +kernel
theorem dX9_isAllowed_23 : decode cX9_isAllowed 23 = .ok (.if_icmp .ne 7, 3) := by decide +kernel
theorem dX9_isAllowed_26 : decode cX9_isAllowed 26 = .ok (.iconst 1, 1) := by decide +kernel
theorem dX9_isAllowed_27 : decode cX9_isAllowed 27 = .ok (.goto 4, 3) := by decide +kernel
theorem dX9_isAllowed_30 : decode cX9_isAllowed 30 = .ok (.iconst 0, 1) := by decide +kernel
theorem dX9_isAllowed_31 : decode cX9_isAllowed 31 = .ok (.istore 5, 2) := by decide +kernel
theorem dX9_isAllowed_33 : decode cX9_isAllowed 33 = .ok (.iload_n 2, 1) := by decide +kernel
theorem dX9_isAllowed_34 : decode cX9_isAllowed 34 = .ok (.iload 5, 2) := by decide +kernel
theorem dX9_isAllowed_36 : decode cX9_isAllowed 36 = .ok (.ifCond .eq 22, 3) := by decide +kernel
theorem dX9_isAllowed_39 : decode cX9_isAllowed 39 = .ok (.aload_n 0, 1) := by decide +kernel
theorem dX9_isAllowed_40 : decode cX9_isAllowed 40 = .ok (.getfield 23, 3) := by decide +kernel
theorem dX9_isAllowed_43 : decode cX9_isAllowed 43 = .ok (.iload 4, 2) := by decide +kernel
theorem dX9_isAllowed_45 : decode cX9_isAllowed 45 = .ok (.iaload, 1) := by decide +kernel
theorem dX9_isAllowed_46 : decode cX9_isAllowed 46 = .ok (.iconst 1, 1) := by decide +kernel
theorem dX9_isAllowed_47 : decode cX9_isAllowed 47 = .ok (.if_icmp .ne 7, 3) := by decide +kernel
theorem dX9_isAllowed_50 : decode cX9_isAllowed 50 = .ok (.iconst 2, 1) := by decide +kernel
theorem dX9_isAllowed_51 : decode cX9_isAllowed 51 = .ok (.goto 8, 3) := by decide +kernel
theorem dX9_isAllowed_54 : decode cX9_isAllowed 54 = .ok (.iconst 1, 1) := by decide +kernel
theorem dX9_isAllowed_55 : decode cX9_isAllowed 55 = .ok (.goto 4, 3) := by decide +kernel
theorem dX9_isAllowed_58 : decode cX9_isAllowed 58 = .ok (.iconst 0, 1) := by decide +kernel
theorem dX9_isAllowed_59 : decode cX9_isAllowed 59 = .ok (.iadd, 1) := by decide +kernel
theorem dX9_isAllowed_60 : decode cX9_isAllowed 60 = .ok (.istore_n 2, 1) := by decide +kernel
theorem dX9_isAllowed_61 : decode cX9_isAllowed 61 = .ok (.iload_n 3, 1) := by decide +kernel
theorem dX9_isAllowed_62 : decode cX9_isAllowed 62 = .ok (.ifCond .eq 23, 3) := by decide +kernel
theorem dX9_isAllowed_65 : decode cX9_isAllowed 65 = .ok (.iload 5, 2) := by decide +kernel
theorem dX9_isAllowed_67 : decode cX9_isAllowed 67 = .ok (.ifCond .ne 14, 3) := by decide +kernel
theorem dX9_isAllowed_70 : decode cX9_isAllowed 70 = .ok (.aload_n 0, 1) := by decide +kernel
theorem dX9_isAllowed_71 : decode cX9_isAllowed 71 = .ok (.getfield 23, 3) := by decide +kernel
theorem dX9_isAllowed_74 : decode cX9_isAllowed 74 = .ok (.iload 4, 2) := by decide +kernel
theorem dX9_isAllowed_76 : decode cX9_isAllowed 76 = .ok (.iaload, 1) := by decide +kernel
theorem dX9_isAllowed_77 : decode cX9_isAllowed 77 = .ok (.iconst 3, 1) := by decide +kernel
theorem dX9_isAllowed_78 : decode cX9_isAllowed 78 = .ok (.if_icmp .eq 7, 3) := by decide +kernel
theorem dX9_isAllowed_81 : decode cX9_isAllowed 81 = .ok (.iconst 1, 1) := by decide +kernel
theorem dX9_isAllowed_82 : decode cX9_isAllowed 82 = .ok (.goto 4, 3) := by decide +kernel
theorem dX9_isAllowed_85 : decode cX9_isAllowed 85 = .ok (.iconst 0, 1) := by decide +kernel
theorem dX9_isAllowed_86 : decode cX9_isAllowed 86 = .ok (.istore_n 3, 1) := by decide +kernel
theorem dX9_isAllowed_87 : decode cX9_isAllowed 87 = .ok (.iinc 4 1, 3) := by decide +kernel
theorem dX9_isAllowed_90 : decode cX9_isAllowed 90 = .ok (.goto (-83), 3) := by decide +kernel
theorem dX9_isAllowed_93 : decode cX9_isAllowed 93 = .ok (.iload_n 3, 1) := by decide +kernel
theorem dX9_isAllowed_94 : decode cX9_isAllowed 94 = .ok (.ifCond .eq 15, 3) := by decide +kernel
theorem dX9_isAllowed_97 : decode cX9_isAllowed 97 = .ok (.iload_n 2, 1) := by decide +kernel
theorem dX9_isAllowed_98 : decode cX9_isAllowed 98 = .ok (.aload_n 0, 1) := by decide +kernel
theorem dX9_isAllowed_99 : decode cX9_isAllowed 99 = .ok (.getfield 32, 3) := by decide +kernel
theorem dX9_isAllowed_102 : decode cX9_isAllowed 102 = .ok (.if_icmp .gt 7, 3) := by decide +kernel
theorem dX9_isAllowed_105 : decode cX9_isAllowed 105 = .ok (.iconst 1, 1) := by decide +kernel
theorem dX9_isAllowed_106 : decode cX9_isAllowed 106 = .ok (.goto 4, 3) := by decide +kernel
theorem dX9_isAllowed_109 : decode cX9_isAllowed 109 = .ok (.iconst 0, 1) := by decide +kernel
theorem dX9_isAllowed_110 : decode cX9_isAllowed 110 = .ok (.ireturn, 1) := by decide +kernel
theorem dX9_servedBy_0 : decode cX9_servedBy 0 = .ok (.bipush (-4), 2) := by decide +kernel
theorem dX9_servedBy_2 : decode cX9_servedBy 2 = .ok (.istore_n 3, 1) := by decide +kernel
theorem dX9_servedBy_3 : decode cX9_servedBy 3 = .ok (.iconst 0, 1) := by decide +kernel
theorem dX9_servedBy_4 : decode cX9_servedBy 4 = .ok (.istore 4, 2) := by decide +kernel
theorem dX9_servedBy_6 : decode cX9_servedBy 6 = .ok (.iload 4, 2) := by decide +kernel
theorem dX9_servedBy_8 : decode cX9_servedBy 8 = .ok (.aload_n 0, 1) := by decide +kernel
theorem dX9_servedBy_9 : decode cX9_servedBy 9 = .ok (.getfield 78, 3) := by decide +kernel
theorem dX9_servedBy_12 : decode cX9_servedBy 12 = .ok (.if_icmp .ge 56, 3) := by decide +kernel
theorem dX9_servedBy_15 : decode cX9_servedBy 15 = .ok (.iload_n 1, 1) := by decide +kernel
theorem dX9_servedBy_16 : decode cX9_servedBy 16 = .ok (.iload 4, 2) := by decide +kernel
theorem dX9_servedBy_18 : decode cX9_servedBy 18 = .ok (.ishr, 1) := by decide +kernel
theorem dX9_servedBy_19 : decode cX9_servedBy 19 = .ok (.iconst 1, 1) := by decide +kernel
theorem dX9_servedBy_20 : decode cX9_servedBy 20 = .ok (.iand, 1) := by decide +kernel
theorem dX9_servedBy_21 : decode cX9_servedBy 21 = .ok (.iconst 1, 1) := by decide +kernel
theorem dX9_servedBy_22 : decode cX9_servedBy 22 = .ok (.if_icmp .ne 40, 3) := by decide +kernel
theorem dX9_servedBy_25 : decode cX9_servedBy 25 = .ok (.aload_n 0, 1) := by decide +kernel
theorem dX9_servedBy_26 : decode cX9_servedBy 26 = .ok (.iload 4, 2) := by decide +kernel
theorem dX9_servedBy_28 : decode cX9_servedBy 28 = .ok (.iload_n 2, 1) := by decide +kernel
theorem dX9_servedBy_29 : decode cX9_servedBy 29 = .ok (.invokevirtual 115, 3) := by decide +kernel
theorem dX9_servedBy_32 : decode cX9_servedBy 32 = .ok (.bipush (-4), 2) := by decide +kernel
theorem dX9_servedBy_34 : decode cX9_servedBy 34 = .ok (.if_icmp .eq 28, 3) := by decide +kernel
theorem dX9_servedBy_37 : decode cX9_servedBy 37 = .ok (.iload_n 3, 1) := by decide +kernel
theorem dX9_servedBy_38 : decode cX9_servedBy 38 = .ok (.bipush (-4), 2) := by decide +kernel
theorem dX9_servedBy_40 : decode cX9_servedBy 40 = .ok (.if_icmp .eq 19, 3) := by decide +kernel
theorem dX9_servedBy_43 : decode cX9_servedBy 43 = .ok (.aload_n 0, 1) := by decide +kernel
theorem dX9_servedBy_44 : decode cX9_servedBy 44 = .ok (.iload 4, 2) := by decide +kernel
theorem dX9_servedBy_46 : decode cX9_servedBy 46 = .ok (.iload_n 2, 1) := by decide +kernel
theorem dX9_servedBy_47 : decode cX9_servedBy 47 = .ok (.invokevirtual 115, 3) := by decide +kernel
theorem dX9_servedBy_50 : decode cX9_servedBy 50 = .ok (.aload_n 0, 1) := by decide +kernel
theorem dX9_servedBy_51 : decode cX9_servedBy 51 = .ok (.iload_n 3, 1) := by decide +kernel
theorem dX9_servedBy_52 : decode cX9_servedBy 52 = .ok (.iload_n 2, 1) := by decide +kernel
theorem dX9_servedBy_53 : decode cX9_servedBy 53 = .ok (.invokevirtual 115, 3) := by decide +kernel
theorem dX9_servedBy_56 : decode cX9_servedBy 56 = .ok (.if_icmp .ge 6, 3) := by decide +kernel
theorem dX9_servedBy_59 : decode cX9_servedBy 59 = .ok (.iload 4, 2) := by decide +kernel
theorem dX9_servedBy_61 : decode cX9_servedBy 61 = .ok (.istore_n 3, 1) := by decide +kernel
theorem dX9_servedBy_62 : decode cX9_servedBy 62 = .ok (.iinc 4 1, 3) := by decide +kernel
theorem dX9_servedBy_65 : decode cX9_servedBy 65 = .ok (.goto (-59), 3) := by decide +kernel
theorem dX9_servedBy_68 : decode cX9_servedBy 68 = .ok (.iload_n 3, 1) := by decide +kernel
theorem dX9_servedBy_69 : decode cX9_servedBy 69 = .ok (.ireturn, 1) := by decide +kernel
theorem dX9_weigh_0 : decode cX9_weigh 0 = .ok (.aload_n 0, 1) := by decide +kernel
theorem dX9_weigh_1 : decode cX9_weigh 1 = .ok (.iconst 0, 1) := by decide +kernel
theorem dX9_weigh_2 : decode cX9_weigh 2 = .ok (.putfield 119, 3) := by decide +kernel
theorem dX9_weigh_5 : decode cX9_weigh 5 = .ok (.aload_n 0, 1) := by decide +kernel
theorem dX9_weigh_6 : decode cX9_weigh 6 = .ok (.lconst 0, 1) := by decide +kernel
theorem dX9_weigh_7 : decode cX9_weigh 7 = .ok (.putfield 122, 3) := by decide +kernel
theorem dX9_weigh_10 : decode cX9_weigh 10 = .ok (.aload_n 0, 1) := by decide +kernel
theorem dX9_weigh_11 : decode cX9_weigh 11 = .ok (.iconst 0, 1) := by decide +kernel
theorem dX9_weigh_12 : decode cX9_weigh 12 = .ok (.putfield 126, 3) := by decide +kernel
theorem dX9_weigh_15 : decode cX9_weigh 15 = .ok (.iconst 0, 1) := by decide +kernel
theorem dX9_weigh_16 : decode cX9_weigh 16 = .ok (.istore_n 2, 1) := by decide +kernel
theorem dX9_weigh_17 : decode cX9_weigh 17 = .ok (.iload_n 2, 1) := by decide +kernel
theorem dX9_weigh_18 : decode cX9_weigh 18 = .ok (.aload_n 0, 1) := by decide +kernel
theorem dX9_weigh_19 : decode cX9_weigh 19 = .ok (.getfield 78, 3) := by decide +kernel
theorem dX9_weigh_22 : decode cX9_weigh 22 = .ok (.if_icmp .ge 37, 3) := by decide +kernel
theorem dX9_weigh_25 : decode cX9_weigh 25 = .ok (.aload_n 0, 1) := by decide +kernel
theorem dX9_weigh_26 : decode cX9_weigh 26 = .ok (.dup, 1) := by decide +kernel
theorem dX9_weigh_27 : decode cX9_weigh 27 = .ok (.getfield 122, 3) := by decide +kernel
theorem dX9_weigh_30 : decode cX9_weigh 30 = .ok (.iload_n 1, 1) := by decide +kernel
theorem dX9_weigh_31 : decode cX9_weigh 31 = .ok (.iload_n 2, 1) := by decide +kernel
theorem dX9_weigh_32 : decode cX9_weigh 32 = .ok (.ishr, 1) := by decide +kernel
theorem dX9_weigh_33 : decode cX9_weigh 33 = .ok (.iconst 1, 1) := by decide +kernel
theorem dX9_weigh_34 : decode cX9_weigh 34 = .ok (.iand, 1) := by decide +kernel
theorem dX9_weigh_35 : decode cX9_weigh 35 = .ok (.iconst 1, 1) := by decide +kernel
theorem dX9_weigh_36 : decode cX9_weigh 36 = .ok (.if_icmp .ne 12, 3) := by decide +kernel
theorem dX9_weigh_39 : decode cX9_weigh 39 = .ok (.aload_n 0, 1) := by decide +kernel
theorem dX9_weigh_40 : decode cX9_weigh 40 = .ok (.iload_n 2, 1) := by decide +kernel
theorem dX9_weigh_41 : decode cX9_weigh 41 = .ok (.invokevirtual 129, 3) := by decide +kernel
theorem dX9_weigh_44 : decode cX9_weigh 44 = .ok (.i2l, 1) := by decide +kernel
theorem dX9_weigh_45 : decode cX9_weigh 45 = .ok (.goto 4, 3) := by decide +kernel
theorem dX9_weigh_48 : decode cX9_weigh 48 = .ok (.lconst 0, 1) := by decide +kernel
theorem dX9_weigh_49 : decode cX9_weigh 49 = .ok (.ladd, 1) := by decide +kernel
theorem dX9_weigh_50 : decode cX9_weigh 50 = .ok (.putfield 122, 3) := by decide +kernel
theorem dX9_weigh_53 : decode cX9_weigh 53 = .ok (.iinc 2 1, 3) := by decide +kernel
theorem dX9_weigh_56 : decode cX9_weigh 56 = .ok (.goto (-39), 3) := by decide +kernel
theorem dX9_weigh_59 : decode cX9_weigh 59 = .ok (.iconst 0, 1) := by decide +kernel
theorem dX9_weigh_60 : decode cX9_weigh 60 = .ok (.istore_n 2, 1) := by decide +kernel
theorem dX9_weigh_61 : decode cX9_weigh 61 = .ok (.iload_n 2, 1) := by decide +kernel
theorem dX9_weigh_62 : decode cX9_weigh 62 = .ok (.aload_n 0, 1) := by decide +kernel
theorem dX9_weigh_63 : decode cX9_weigh 63 = .ok (.getfield 75, 3) := by decide +kernel
theorem dX9_weigh_66 : decode cX9_weigh 66 = .ok (.if_icmp .ge 98, 3) := by decide +kernel
theorem dX9_weigh_69 : decode cX9_weigh 69 = .ok (.aload_n 0, 1) := by decide +kernel
theorem dX9_weigh_70 : decode cX9_weigh 70 = .ok (.getfield 7, 3) := by decide +kernel
theorem dX9_weigh_73 : decode cX9_weigh 73 = .ok (.iload_n 2, 1) := by decide +kernel
theorem dX9_weigh_74 : decode cX9_weigh 74 = .ok (.iaload, 1) := by decide +kernel
theorem dX9_weigh_75 : decode cX9_weigh 75 = .ok (.ifCond .le 83, 3) := by decide +kernel
theorem dX9_weigh_78 : decode cX9_weigh 78 = .ok (.aload_n 0, 1) := by decide +kernel
theorem dX9_weigh_79 : decode cX9_weigh 79 = .ok (.iload_n 1, 1) := by decide +kernel
theorem dX9_weigh_80 : decode cX9_weigh 80 = .ok (.iload_n 2, 1) := by decide +kernel
theorem dX9_weigh_81 : decode cX9_weigh 81 = .ok (.invokevirtual 133, 3) := by decide +kernel
theorem dX9_weigh_84 : decode cX9_weigh 84 = .ok (.istore_n 3, 1) := by decide +kernel
theorem dX9_weigh_85 : decode cX9_weigh 85 = .ok (.iload_n 3, 1) := by decide +kernel
theorem dX9_weigh_86 : decode cX9_weigh 86 = .ok (.bipush (-4), 2) := by decide +kernel
theorem dX9_weigh_88 : decode cX9_weigh 88 = .ok (.if_icmp .ne 16, 3) := by decide +kernel
theorem dX9_weigh_91 : decode cX9_weigh 91 = .ok (.aload_n 0, 1) := by decide +kernel
theorem dX9_weigh_92 : decode cX9_weigh 92 = .ok (.dup, 1) := by decide +kernel
theorem dX9_weigh_93 : decode cX9_weigh 93 = .ok (.getfield 119, 3) := by decide +kernel
theorem dX9_weigh_96 : decode cX9_weigh 96 = .ok (.iconst 1, 1) := by decide +kernel
theorem dX9_weigh_97 : decode cX9_weigh 97 = .ok (.iadd, 1) := by decide +kernel
theorem dX9_weigh_98 : decode cX9_weigh 98 = .ok (.putfield 119, 3) := by decide +kernel
theorem dX9_weigh_101 : decode cX9_weigh 101 = .ok (.goto 57, 3) := by decide +kernel
theorem dX9_weigh_104 : decode cX9_weigh 104 = .ok (.aload_n 0, 1) := by decide +kernel
theorem dX9_weigh_105 : decode cX9_weigh 105 = .ok (.dup, 1) := by decide +kernel
theorem dX9_weigh_106 : decode cX9_weigh 106 = .ok (.getfield 122, 3) := by decide +kernel
theorem dX9_weigh_109 : decode cX9_weigh 109 = .ok (.aload_n 0, 1) := by decide +kernel
theorem dX9_weigh_110 : decode cX9_weigh 110 = .ok (.getfield 7, 3) := by decide +kernel
theorem dX9_weigh_113 : decode cX9_weigh 113 = .ok (.iload_n 2, 1) := by decide +kernel
theorem dX9_weigh_114 : decode cX9_weigh 114 = .ok (.iaload, 1) := by decide +kernel
theorem dX9_weigh_115 : decode cX9_weigh 115 = .ok (.i2l, 1) := by decide +kernel
theorem dX9_weigh_116 : decode cX9_weigh 116 = .ok (.aload_n 0, 1) := by decide +kernel
theorem dX9_weigh_117 : decode cX9_weigh 117 = .ok (.iload_n 3, 1) := by decide +kernel
theorem dX9_weigh_118 : decode cX9_weigh 118 = .ok (.iload_n 2, 1) := by decide +kernel
theorem dX9_weigh_119 : decode cX9_weigh 119 = .ok (.invokevirtual 115, 3) := by decide +kernel
theorem dX9_weigh_122 : decode cX9_weigh 122 = .ok (.i2l, 1) := by decide +kernel
theorem dX9_weigh_123 : decode cX9_weigh 123 = .ok (.lmul, 1) := by decide +kernel
theorem dX9_weigh_124 : decode cX9_weigh 124 = .ok (.ladd, 1) := by decide +kernel
theorem dX9_weigh_125 : decode cX9_weigh 125 = .ok (.putfield 122, 3) := by decide +kernel
theorem dX9_weigh_128 : decode cX9_weigh 128 = .ok (.aload_n 0, 1) := by decide +kernel
theorem dX9_weigh_129 : decode cX9_weigh 129 = .ok (.aload_n 0, 1) := by decide +kernel
theorem dX9_weigh_130 : decode cX9_weigh 130 = .ok (.iload_n 3, 1) := by decide +kernel
theorem dX9_weigh_131 : decode cX9_weigh 131 = .ok (.iload_n 2, 1) := by decide +kernel
theorem dX9_weigh_132 : decode cX9_weigh 132 = .ok (.invokevirtual 115, 3) := by decide +kernel
theorem dX9_weigh_135 : decode cX9_weigh 135 = .ok (.aload_n 0, 1) := by decide +kernel
theorem dX9_weigh_136 : decode cX9_weigh 136 = .ok (.getfield 126, 3) := by decide +kernel
theorem dX9_weigh_139 : decode cX9_weigh 139 = .ok (.if_icmp .le 12, 3) := by decide +kernel
theorem dX9_weigh_142 : decode cX9_weigh 142 = .ok (.aload_n 0, 1) := by decide +kernel
theorem dX9_weigh_143 : decode cX9_weigh 143 = .ok (.iload_n 3, 1) := by decide +kernel
theorem dX9_weigh_144 : decode cX9_weigh 144 = .ok (.iload_n 2, 1) := by decide +kernel
theorem dX9_weigh_145 : decode cX9_weigh 145 = .ok (.invokevirtual 115, 3) := by decide +kernel
theorem dX9_weigh_148 : decode cX9_weigh 148 = .ok (.goto 7, 3) := by decide +kernel
theorem dX9_weigh_151 : decode cX9_weigh 151 = .ok (.aload_n 0, 1) := by decide +kernel
theorem dX9_weigh_152 : decode cX9_weigh 152 = .ok (.getfield 126, 3) := by decide +kernel
theorem dX9_weigh_155 : decode cX9_weigh 155 = .ok (.putfield 126, 3) := by decide +kernel
theorem dX9_weigh_158 : decode cX9_weigh 158 = .ok (.iinc 2 1, 3) := by decide +kernel
theorem dX9_weigh_161 : decode cX9_weigh 161 = .ok (.goto (-100), 3) := by decide +kernel
theorem dX9_weigh_164 : decode cX9_weigh 164 = .ok (.return_, 1) := by decide +kernel
theorem dX9_allowed_0 : decode cX9_allowed 0 = .ok (.aload_n 0, 1) := by decide +kernel
theorem dX9_allowed_1 : decode cX9_allowed 1 = .ok (.iload_n 1, 1) := by decide +kernel
theorem dX9_allowed_2 : decode cX9_allowed 2 = .ok (.invokevirtual 136, 3) := by decide +kernel
theorem dX9_allowed_5 : decode cX9_allowed 5 = .ok (.ifCond .ne 5, 3) := by decide +kernel
theorem dX9_allowed_8 : decode cX9_allowed 8 = .ok (.iconst (-1), 1) := by decide +kernel
theorem dX9_allowed_9 : decode cX9_allowed 9 = .ok (.ireturn, 1) := by decide +kernel
theorem dX9_allowed_10 : decode cX9_allowed 10 = .ok (.aload_n 0, 1) := by decide +kernel
theorem dX9_allowed_11 : decode cX9_allowed 11 = .ok (.iload_n 1, 1) := by decide +kernel
theorem dX9_allowed_12 : decode cX9_allowed 12 = .ok (.invokevirtual 139, 3) := by decide +kernel
theorem dX9_allowed_15 : decode cX9_allowed 15 = .ok (.ifCond .eq 7, 3) := by decide +kernel
theorem dX9_allowed_18 : decode cX9_allowed 18 = .ok (.iconst 1, 1) := by decide +kernel
theorem dX9_allowed_19 : decode cX9_allowed 19 = .ok (.goto 4, 3) := by decide +kernel
theorem dX9_allowed_22 : decode cX9_allowed 22 = .ok (.iconst 0, 1) := by decide +kernel
theorem dX9_allowed_23 : decode cX9_allowed 23 = .ok (.ireturn, 1) := by decide +kernel
theorem dX9_cost_0 : decode cX9_cost 0 = .ok (.aload_n 0, 1) := by decide +kernel
theorem dX9_cost_1 : decode cX9_cost 1 = .ok (.iload_n 1, 1) := by decide +kernel
theorem dX9_cost_2 : decode cX9_cost 2 = .ok (.invokevirtual 136, 3) := by decide +kernel
theorem dX9_cost_5 : decode cX9_cost 5 = .ok (.ifCond .ne 7, 3) := by decide +kernel
theorem dX9_cost_8 : decode cX9_cost 8 = .ok (.ldc2_w 142, 3) := by decide +kernel
theorem dX9_cost_11 : decode cX9_cost 11 = .ok (.lreturn, 1) := by decide +kernel
theorem dX9_cost_12 : decode cX9_cost 12 = .ok (.aload_n 0, 1) := by decide +kernel
theorem dX9_cost_13 : decode cX9_cost 13 = .ok (.invokevirtual 112, 3) := by decide +kernel
theorem dX9_cost_16 : decode cX9_cost 16 = .ok (.aload_n 0, 1) := by decide +kernel
theorem dX9_cost_17 : decode cX9_cost 17 = .ok (.iload_n 1, 1) := by decide +kernel
theorem dX9_cost_18 : decode cX9_cost 18 = .ok (.invokevirtual 144, 3) := by decide +kernel
theorem dX9_cost_21 : decode cX9_cost 21 = .ok (.aload_n 0, 1) := by decide +kernel
theorem dX9_cost_22 : decode cX9_cost 22 = .ok (.getfield 119, 3) := by decide +kernel
theorem dX9_cost_25 : decode cX9_cost 25 = .ok (.ifCond .le 9, 3) := by decide +kernel
theorem dX9_cost_28 : decode cX9_cost 28 = .ok (.ldc2_w 148, 3) := by decide +kernel
theorem dX9_cost_31 : decode cX9_cost 31 = .ok (.goto 7, 3) := by decide +kernel
theorem dX9_cost_34 : decode cX9_cost 34 = .ok (.aload_n 0, 1) := by decide +kernel
theorem dX9_cost_35 : decode cX9_cost 35 = .ok (.getfield 122, 3) := by decide +kernel
theorem dX9_cost_38 : decode cX9_cost 38 = .ok (.lreturn, 1) := by decide +kernel
theorem dX9_served_0 : decode cX9_served 0 = .ok (.aload_n 0, 1) := by decide +kernel
theorem dX9_served_1 : decode cX9_served 1 = .ok (.iload_n 1, 1) := by decide +kernel
theorem dX9_served_2 : decode cX9_served 2 = .ok (.invokevirtual 136, 3) := by decide +kernel
theorem dX9_served_5 : decode cX9_served 5 = .ok (.ifCond .eq 11, 3) := by decide +kernel
theorem dX9_served_8 : decode cX9_served 8 = .ok (.aload_n 0, 1) := by decide +kernel
theorem dX9_served_9 : decode cX9_served 9 = .ok (.iload_n 2, 1) := by decide +kernel
theorem dX9_served_10 : decode cX9_served 10 = .ok (.invokevirtual 90, 3) := by decide +kernel
theorem dX9_served_13 : decode cX9_served 13 = .ok (.ifCond .ne 5, 3) := by decide +kernel
theorem dX9_served_16 : decode cX9_served 16 = .ok (.iconst (-1), 1) := by decide +kernel
theorem dX9_served_17 : decode cX9_served 17 = .ok (.ireturn, 1) := by decide +kernel
theorem dX9_served_18 : decode cX9_served 18 = .ok (.aload_n 0, 1) := by decide +kernel
theorem dX9_served_19 : decode cX9_served 19 = .ok (.invokevirtual 112, 3) := by decide +kernel
theorem dX9_served_22 : decode cX9_served 22 = .ok (.aload_n 0, 1) := by decide +kernel
theorem dX9_served_23 : decode cX9_served 23 = .ok (.iload_n 1, 1) := by decide +kernel
theorem dX9_served_24 : decode cX9_served 24 = .ok (.iload_n 2, 1) := by decide +kernel
theorem dX9_served_25 : decode cX9_served 25 = .ok (.invokevirtual 133, 3) := by decide +kernel
theorem dX9_served_28 : decode cX9_served 28 = .ok (.ireturn, 1) := by decide +kernel
theorem dX9_share_0 : decode cX9_share 0 = .ok (.aload_n 0, 1) := by decide +kernel
theorem dX9_share_1 : decode cX9_share 1 = .ok (.iload_n 1, 1) := by decide +kernel
theorem dX9_share_2 : decode cX9_share 2 = .ok (.invokevirtual 136, 3) := by decide +kernel
theorem dX9_share_5 : decode cX9_share 5 = .ok (.ifCond .eq 23, 3) := by decide +kernel
theorem dX9_share_8 : decode cX9_share 8 = .ok (.aload_n 0, 1) := by decide +kernel
theorem dX9_share_9 : decode cX9_share 9 = .ok (.iload_n 2, 1) := by decide +kernel
theorem dX9_share_10 : decode cX9_share 10 = .ok (.invokevirtual 101, 3) := by decide +kernel
theorem dX9_share_13 : decode cX9_share 13 = .ok (.ifCond .eq 15, 3) := by decide +kernel
theorem dX9_share_16 : decode cX9_share 16 = .ok (.iload_n 3, 1) := by decide +kernel
theorem dX9_share_17 : decode cX9_share 17 = .ok (.i2l, 1) := by decide +kernel
theorem dX9_share_18 : decode cX9_share 18 = .ok (.lconst 0, 1) := by decide +kernel
theorem dX9_share_19 : decode cX9_share 19 = .ok (.ldc2_w 110, 3) := by decide +kernel
theorem dX9_share_22 : decode cX9_share 22 = .ok (.invokestatic 81, 3) := by decide +kernel
theorem dX9_share_25 : decode cX9_share 25 = .ok (.ifCond .ne 5, 3) := by decide +kernel
theorem dX9_share_28 : decode cX9_share 28 = .ok (.iconst (-1), 1) := by decide +kernel
theorem dX9_share_29 : decode cX9_share 29 = .ok (.ireturn, 1) := by decide +kernel
theorem dX9_share_30 : decode cX9_share 30 = .ok (.iload_n 1, 1) := by decide +kernel
theorem dX9_share_31 : decode cX9_share 31 = .ok (.iload_n 2, 1) := by decide +kernel
theorem dX9_share_32 : decode cX9_share 32 = .ok (.ishr, 1) := by decide +kernel
theorem dX9_share_33 : decode cX9_share 33 = .ok (.iconst 1, 1) := by decide +kernel
theorem dX9_share_34 : decode cX9_share 34 = .ok (.iand, 1) := by decide +kernel
theorem dX9_share_35 : decode cX9_share 35 = .ok (.ifCond .ne 6, 3) := by decide +kernel
theorem dX9_share_38 : decode cX9_share 38 = .ok (.bipush (-2), 2) := by decide +kernel
theorem dX9_share_40 : decode cX9_share 40 = .ok (.ireturn, 1) := by decide +kernel
theorem dX9_share_41 : decode cX9_share 41 = .ok (.aload_n 0, 1) := by decide +kernel
theorem dX9_share_42 : decode cX9_share 42 = .ok (.invokevirtual 112, 3) := by decide +kernel
theorem dX9_share_45 : decode cX9_share 45 = .ok (.iconst 0, 1) := by decide +kernel
theorem dX9_share_46 : decode cX9_share 46 = .ok (.istore 4, 2) := by decide +kernel
theorem dX9_share_48 : decode cX9_share 48 = .ok (.iconst 0, 1) := by decide +kernel
theorem dX9_share_49 : decode cX9_share 49 = .ok (.istore 5, 2) := by decide +kernel
theorem dX9_share_51 : decode cX9_share 51 = .ok (.iconst 0, 1) := by decide +kernel
theorem dX9_share_52 : decode cX9_share 52 = .ok (.istore 6, 2) := by decide +kernel
theorem dX9_share_54 : decode cX9_share 54 = .ok (.iconst 0, 1) := by decide +kernel
theorem dX9_share_55 : decode cX9_share 55 = .ok (.istore 7, 2) := by decide +kernel
theorem dX9_share_57 : decode cX9_share 57 = .ok (.iload 7, 2) := by decide +kernel
theorem dX9_share_59 : decode cX9_share 59 = .ok (.aload_n 0, 1) := by decide +kernel
theorem dX9_share_60 : decode cX9_share 60 = .ok (.getfield 75, 3) := by decide +kernel
theorem dX9_share_63 : decode cX9_share 63 = .ok (.if_icmp .ge 71, 3) := by decide +kernel
theorem dX9_share_66 : decode cX9_share 66 = .ok (.aload_n 0, 1) := by decide +kernel
theorem dX9_share_67 : decode cX9_share 67 = .ok (.getfield 7, 3) := by decide +kernel
theorem dX9_share_70 : decode cX9_share 70 = .ok (.iload 7, 2) := by decide +kernel
theorem dX9_share_72 : decode cX9_share 72 = .ok (.iaload, 1) := by decide +kernel
theorem dX9_share_73 : decode cX9_share 73 = .ok (.ifCond .le 55, 3) := by decide +kernel
theorem dX9_share_76 : decode cX9_share 76 = .ok (.aload_n 0, 1) := by decide +kernel
theorem dX9_share_77 : decode cX9_share 77 = .ok (.iload_n 1, 1) := by decide +kernel
theorem dX9_share_78 : decode cX9_share 78 = .ok (.iload 7, 2) := by decide +kernel
theorem dX9_share_80 : decode cX9_share 80 = .ok (.invokevirtual 133, 3) := by decide +kernel
theorem dX9_share_83 : decode cX9_share 83 = .ok (.iload_n 2, 1) := by decide +kernel
theorem dX9_share_84 : decode cX9_share 84 = .ok (.if_icmp .ne 44, 3) := by decide +kernel
theorem dX9_share_87 : decode cX9_share 87 = .ok (.iinc 4 1, 3) := by decide +kernel
theorem dX9_share_90 : decode cX9_share 90 = .ok (.iload 5, 2) := by decide +kernel
theorem dX9_share_92 : decode cX9_share 92 = .ok (.aload_n 0, 1) := by decide +kernel
theorem dX9_share_93 : decode cX9_share 93 = .ok (.getfield 7, 3) := by decide +kernel
theorem dX9_share_96 : decode cX9_share 96 = .ok (.iload 7, 2) := by decide +kernel
theorem dX9_share_98 : decode cX9_share 98 = .ok (.iaload, 1) := by decide +kernel
theorem dX9_share_99 : decode cX9_share 99 = .ok (.iadd, 1) := by decide +kernel
theorem dX9_share_100 : decode cX9_share 100 = .ok (.istore 5, 2) := by decide +kernel
theorem dX9_share_102 : decode cX9_share 102 = .ok (.aload_n 0, 1) := by decide +kernel
theorem dX9_share_103 : decode cX9_share 103 = .ok (.iload_n 2, 1) := by decide +kernel
theorem dX9_share_104 : decode cX9_share 104 = .ok (.iload 7, 2) := by decide +kernel
theorem dX9_share_106 : decode cX9_share 106 = .ok (.invokevirtual 115, 3) := by decide +kernel
theorem dX9_share_109 : decode cX9_share 109 = .ok (.iload 6, 2) := by decide +kernel
theorem dX9_share_111 : decode cX9_share 111 = .ok (.if_icmp .le 13, 3) := by decide +kernel
theorem dX9_share_114 : decode cX9_share 114 = .ok (.aload_n 0, 1) := by decide +kernel
theorem dX9_share_115 : decode cX9_share 115 = .ok (.iload_n 2, 1) := by decide +kernel
theorem dX9_share_116 : decode cX9_share 116 = .ok (.iload 7, 2) := by decide +kernel
theorem dX9_share_118 : decode cX9_share 118 = .ok (.invokevirtual 115, 3) := by decide +kernel
theorem dX9_share_121 : decode cX9_share 121 = .ok (.goto 5, 3) := by decide +kernel
theorem dX9_share_124 : decode cX9_share 124 = .ok (.iload 6, 2) := by decide +kernel
theorem dX9_share_126 : decode cX9_share 126 = .ok (.istore 6, 2) := by decide +kernel
theorem dX9_share_128 : decode cX9_share 128 = .ok (.iinc 7 1, 3) := by decide +kernel
theorem dX9_share_131 : decode cX9_share 131 = .ok (.goto (-74), 3) := by decide +kernel
theorem dX9_share_134 : decode cX9_share 134 = .ok (.iload_n 3, 1) := by decide +kernel
theorem dX9_share_135 : decode cX9_share 135 = .ok (.ifCond .ne 8, 3) := by decide +kernel
theorem dX9_share_138 : decode cX9_share 138 = .ok (.iload 4, 2) := by decide +kernel
theorem dX9_share_140 : decode cX9_share 140 = .ok (.goto 15, 3) := by decide +kernel
theorem dX9_share_143 : decode cX9_share 143 = .ok (.iload_n 3, 1) := by decide +kernel
theorem dX9_share_144 : decode cX9_share 144 = .ok (.iconst 1, 1) := by decide +kernel
theorem dX9_share_145 : decode cX9_share 145 = .ok (.if_icmp .ne 8, 3) := by decide +kernel
theorem dX9_share_148 : decode cX9_share 148 = .ok (.iload 5, 2) := by decide +kernel
theorem dX9_share_150 : decode cX9_share 150 = .ok (.goto 5, 3) := by decide +kernel
theorem dX9_share_153 : decode cX9_share 153 = .ok (.iload 6, 2) := by decide +kernel
theorem dX9_share_155 : decode cX9_share 155 = .ok (.ireturn, 1) := by decide +kernel
theorem dX9_find_0 : decode cX9_find 0 = .ok (.aload_n 0, 1) := by decide +kernel
theorem dX9_find_1 : decode cX9_find 1 = .ok (.invokevirtual 112, 3) := by decide +kernel
theorem dX9_find_4 : decode cX9_find 4 = .ok (.aload_n 0, 1) := by decide +kernel
theorem dX9_find_5 : decode cX9_find 5 = .ok (.bipush (-4), 2) := by decide +kernel
theorem dX9_find_7 : decode cX9_find 7 = .ok (.putfield 150, 3) := by decide +kernel
theorem dX9_find_10 : decode cX9_find 10 = .ok (.aload_n 0, 1) := by decide +kernel
theorem dX9_find_11 : decode cX9_find 11 = .ok (.ldc2_w 148, 3) := by decide +kernel
theorem dX9_find_14 : decode cX9_find 14 = .ok (.putfield 153, 3) := by decide +kernel
theorem dX9_find_17 : decode cX9_find 17 = .ok (.aload_n 0, 1) := by decide +kernel
theorem dX9_find_18 : decode cX9_find 18 = .ok (.iconst 0, 1) := by decide +kernel
theorem dX9_find_19 : decode cX9_find 19 = .ok (.putfield 156, 3) := by decide +kernel
theorem dX9_find_22 : decode cX9_find 22 = .ok (.aload_n 0, 1) := by decide +kernel
theorem dX9_find_23 : decode cX9_find 23 = .ok (.iconst (-1), 1) := by decide +kernel
theorem dX9_find_24 : decode cX9_find 24 = .ok (.putfield 159, 3) := by decide +kernel
theorem dX9_find_27 : decode cX9_find 27 = .ok (.aload_n 0, 1) := by decide +kernel
theorem dX9_find_28 : decode cX9_find 28 = .ok (.iconst 0, 1) := by decide +kernel
theorem dX9_find_29 : decode cX9_find 29 = .ok (.putfield 162, 3) := by decide +kernel
theorem dX9_find_32 : decode cX9_find 32 = .ok (.iconst 0, 1) := by decide +kernel
theorem dX9_find_33 : decode cX9_find 33 = .ok (.istore_n 3, 1) := by decide +kernel
theorem dX9_find_34 : decode cX9_find 34 = .ok (.iload_n 3, 1) := by decide +kernel
theorem dX9_find_35 : decode cX9_find 35 = .ok (.iconst 1, 1) := by decide +kernel
theorem dX9_find_36 : decode cX9_find 36 = .ok (.aload_n 0, 1) := by decide +kernel
theorem dX9_find_37 : decode cX9_find 37 = .ok (.getfield 78, 3) := by decide +kernel
theorem dX9_find_40 : decode cX9_find 40 = .ok (.ishl, 1) := by decide +kernel
theorem dX9_find_41 : decode cX9_find 41 = .ok (.if_icmp .ge 131, 3) := by decide +kernel
theorem dX9_find_44 : decode cX9_find 44 = .ok (.iload_n 3, 1) := by decide +kernel
theorem dX9_find_45 : decode cX9_find 45 = .ok (.iload_n 1, 1) := by decide +kernel
theorem dX9_find_46 : decode cX9_find 46 = .ok (.if_icmp .eq 120, 3) := by decide +kernel
theorem dX9_find_49 : decode cX9_find 49 = .ok (.iload_n 3, 1) := by decide +kernel
theorem dX9_find_50 : decode cX9_find 50 = .ok (.iload_n 2, 1) := by decide +kernel
theorem dX9_find_51 : decode cX9_find 51 = .ok (.iand, 1) := by decide +kernel
theorem dX9_find_52 : decode cX9_find 52 = .ok (.ifCond .ne 114, 3) := by decide +kernel
theorem dX9_find_55 : decode cX9_find 55 = .ok (.aload_n 0, 1) := by decide +kernel
theorem dX9_find_56 : decode cX9_find 56 = .ok (.iload_n 3, 1) := by decide +kernel
theorem dX9_find_57 : decode cX9_find 57 = .ok (.invokevirtual 139, 3) := by decide +kernel
theorem dX9_find_60 : decode cX9_find 60 = .ok (.ifCond .eq 106, 3) := by decide +kernel
theorem dX9_find_63 : decode cX9_find 63 = .ok (.aload_n 0, 1) := by decide +kernel
theorem dX9_find_64 : decode cX9_find 64 = .ok (.iload_n 3, 1) := by decide +kernel
theorem dX9_find_65 : decode cX9_find 65 = .ok (.invokevirtual 144, 3) := by decide +kernel
theorem dX9_find_68 : decode cX9_find 68 = .ok (.aload_n 0, 1) := by decide +kernel
theorem dX9_find_69 : decode cX9_find 69 = .ok (.getfield 119, 3) := by decide +kernel
theorem dX9_find_72 : decode cX9_find 72 = .ok (.ifCond .ne 94, 3) := by decide +kernel
theorem dX9_find_75 : decode cX9_find 75 = .ok (.aload_n 0, 1) := by decide +kernel
theorem dX9_find_76 : decode cX9_find 76 = .ok (.getfield 150, 3) := by decide +kernel
theorem dX9_find_79 : decode cX9_find 79 = .ok (.bipush (-4), 2) := by decide +kernel
theorem dX9_find_81 : decode cX9_find 81 = .ok (.if_icmp .eq 15, 3) := by decide +kernel
theorem dX9_find_84 : decode cX9_find 84 = .ok (.aload_n 0, 1) := by decide +kernel
theorem dX9_find_85 : decode cX9_find 85 = .ok (.getfield 122, 3) := by decide +kernel
theorem dX9_find_88 : decode cX9_find 88 = .ok (.aload_n 0, 1) := by decide +kernel
theorem dX9_find_89 : decode cX9_find 89 = .ok (.getfield 153, 3) := by decide +kernel
theorem dX9_find_92 : decode cX9_find 92 = .ok (.lcmp, 1) := by decide +kernel
theorem dX9_find_93 : decode cX9_find 93 = .ok (.ifCond .ge 31, 3) := by decide +kernel
theorem dX9_find_96 : decode cX9_find 96 = .ok (.aload_n 0, 1) := by decide +kernel
theorem dX9_find_97 : decode cX9_find 97 = .ok (.iload_n 3, 1) := by decide +kernel
theorem dX9_find_98 : decode cX9_find 98 = .ok (.putfield 150, 3) := by decide +kernel
theorem dX9_find_101 : decode cX9_find 101 = .ok (.aload_n 0, 1) := by decide +kernel
theorem dX9_find_102 : decode cX9_find 102 = .ok (.aload_n 0, 1) := by decide +kernel
theorem dX9_find_103 : decode cX9_find 103 = .ok (.getfield 122, 3) := by decide +kernel
theorem dX9_find_106 : decode cX9_find 106 = .ok (.putfield 153, 3) := by decide +kernel
theorem dX9_find_109 : decode cX9_find 109 = .ok (.aload_n 0, 1) := by decide +kernel
theorem dX9_find_110 : decode cX9_find 110 = .ok (.iconst 0, 1) := by decide +kernel
theorem dX9_find_111 : decode cX9_find 111 = .ok (.putfield 156, 3) := by decide +kernel
theorem dX9_find_114 : decode cX9_find 114 = .ok (.aload_n 0, 1) := by decide +kernel
theorem dX9_find_115 : decode cX9_find 115 = .ok (.iconst (-1), 1) := by decide +kernel
theorem dX9_find_116 : decode cX9_find 116 = .ok (.putfield 159, 3) := by decide +kernel
theorem dX9_find_119 : decode cX9_find 119 = .ok (.aload_n 0, 1) := by decide +kernel
theorem dX9_find_120 : decode cX9_find 120 = .ok (.iconst 0, 1) := by decide +kernel
theorem dX9_find_121 : decode cX9_find 121 = .ok (.putfield 162, 3) := by decide +kernel
theorem dX9_find_124 : decode cX9_find 124 = .ok (.aload_n 0, 1) := by decide +kernel
theorem dX9_find_125 : decode cX9_find 125 = .ok (.getfield 122, 3) := by decide +kernel
theorem dX9_find_128 : decode cX9_find 128 = .ok (.aload_n 0, 1) := by decide +kernel
theorem dX9_find_129 : decode cX9_find 129 = .ok (.getfield 153, 3) := by decide +kernel
theorem dX9_find_132 : decode cX9_find 132 = .ok (.lcmp, 1) := by decide +kernel
theorem dX9_find_133 : decode cX9_find 133 = .ok (.ifCond .ne 33, 3) := by decide +kernel
theorem dX9_find_136 : decode cX9_find 136 = .ok (.aload_n 0, 1) := by decide +kernel
theorem dX9_find_137 : decode cX9_find 137 = .ok (.dup, 1) := by decide +kernel
theorem dX9_find_138 : decode cX9_find 138 = .ok (.getfield 156, 3) := by decide +kernel
theorem dX9_find_141 : decode cX9_find 141 = .ok (.iconst 1, 1) := by decide +kernel
theorem dX9_find_142 : decode cX9_find 142 = .ok (.iadd, 1) := by decide +kernel
theorem dX9_find_143 : decode cX9_find 143 = .ok (.putfield 156, 3) := by decide +kernel
theorem dX9_find_146 : decode cX9_find 146 = .ok (.aload_n 0, 1) := by decide +kernel
theorem dX9_find_147 : decode cX9_find 147 = .ok (.aload_n 0, 1) := by decide +kernel
theorem dX9_find_148 : decode cX9_find 148 = .ok (.getfield 159, 3) := by decide +kernel
theorem dX9_find_151 : decode cX9_find 151 = .ok (.iload_n 3, 1) := by decide +kernel
theorem dX9_find_152 : decode cX9_find 152 = .ok (.iand, 1) := by decide +kernel
theorem dX9_find_153 : decode cX9_find 153 = .ok (.putfield 159, 3) := by decide +kernel
theorem dX9_find_156 : decode cX9_find 156 = .ok (.aload_n 0, 1) := by decide +kernel
theorem dX9_find_157 : decode cX9_find 157 = .ok (.aload_n 0, 1) := by decide +kernel
theorem dX9_find_158 : decode cX9_find 158 = .ok (.getfield 162, 3) := by decide +kernel
theorem dX9_find_161 : decode cX9_find 161 = .ok (.iload_n 3, 1) := by decide +kernel
theorem dX9_find_162 : decode cX9_find 162 = .ok (.ior, 1) := by decide +kernel
theorem dX9_find_163 : decode cX9_find 163 = .ok (.putfield 162, 3) := by decide +kernel
theorem dX9_find_166 : decode cX9_find 166 = .ok (.iinc 3 1, 3) := by decide +kernel
theorem dX9_find_169 : decode cX9_find 169 = .ok (.goto (-135), 3) := by decide +kernel
theorem dX9_find_172 : decode cX9_find 172 = .ok (.return_, 1) := by decide +kernel
theorem dX9_least_0 : decode cX9_least 0 = .ok (.aload_n 0, 1) := by decide +kernel
theorem dX9_least_1 : decode cX9_least 1 = .ok (.bipush (-4), 2) := by decide +kernel
theorem dX9_least_3 : decode cX9_least 3 = .ok (.iconst 0, 1) := by decide +kernel
theorem dX9_least_4 : decode cX9_least 4 = .ok (.invokevirtual 165, 3) := by decide +kernel
theorem dX9_least_7 : decode cX9_least 7 = .ok (.aload_n 0, 1) := by decide +kernel
theorem dX9_least_8 : decode cX9_least 8 = .ok (.getfield 153, 3) := by decide +kernel
theorem dX9_least_11 : decode cX9_least 11 = .ok (.lreturn, 1) := by decide +kernel
theorem dX9_best_0 : decode cX9_best 0 = .ok (.aload_n 0, 1) := by decide +kernel
theorem dX9_best_1 : decode cX9_best 1 = .ok (.bipush (-4), 2) := by decide +kernel
theorem dX9_best_3 : decode cX9_best 3 = .ok (.iconst 0, 1) := by decide +kernel
theorem dX9_best_4 : decode cX9_best 4 = .ok (.invokevirtual 165, 3) := by decide +kernel
theorem dX9_best_7 : decode cX9_best 7 = .ok (.aload_n 0, 1) := by decide +kernel
theorem dX9_best_8 : decode cX9_best 8 = .ok (.getfield 150, 3) := by decide +kernel
theorem dX9_best_11 : decode cX9_best 11 = .ok (.ireturn, 1) := by decide +kernel
theorem dX9_many_0 : decode cX9_many 0 = .ok (.aload_n 0, 1) := by decide +kernel
theorem dX9_many_1 : decode cX9_many 1 = .ok (.bipush (-4), 2) := by decide +kernel
theorem dX9_many_3 : decode cX9_many 3 = .ok (.iconst 0, 1) := by decide +kernel
theorem dX9_many_4 : decode cX9_many 4 = .ok (.invokevirtual 165, 3) := by decide +kernel
theorem dX9_many_7 : decode cX9_many 7 = .ok (.aload_n 0, 1) := by decide +kernel
theorem dX9_many_8 : decode cX9_many 8 = .ok (.getfield 156, 3) := by decide +kernel
theorem dX9_many_11 : decode cX9_many 11 = .ok (.ireturn, 1) := by decide +kernel
theorem dX9_every_0 : decode cX9_every 0 = .ok (.aload_n 0, 1) := by decide +kernel
theorem dX9_every_1 : decode cX9_every 1 = .ok (.iload_n 1, 1) := by decide +kernel
theorem dX9_every_2 : decode cX9_every 2 = .ok (.invokevirtual 101, 3) := by decide +kernel
theorem dX9_every_5 : decode cX9_every 5 = .ok (.ifCond .ne 5, 3) := by decide +kernel
theorem dX9_every_8 : decode cX9_every 8 = .ok (.iconst (-1), 1) := by decide +kernel
theorem dX9_every_9 : decode cX9_every 9 = .ok (.ireturn, 1) := by decide +kernel
theorem dX9_every_10 : decode cX9_every 10 = .ok (.aload_n 0, 1) := by decide +kernel
theorem dX9_every_11 : decode cX9_every 11 = .ok (.bipush (-4), 2) := by decide +kernel
theorem dX9_every_13 : decode cX9_every 13 = .ok (.iconst 0, 1) := by decide +kernel
theorem dX9_every_14 : decode cX9_every 14 = .ok (.invokevirtual 165, 3) := by decide +kernel
theorem dX9_every_17 : decode cX9_every 17 = .ok (.aload_n 0, 1) := by decide +kernel
theorem dX9_every_18 : decode cX9_every 18 = .ok (.getfield 156, 3) := by decide +kernel
theorem dX9_every_21 : decode cX9_every 21 = .ok (.ifCond .ne 6, 3) := by decide +kernel
theorem dX9_every_24 : decode cX9_every 24 = .ok (.bipush (-4), 2) := by decide +kernel
theorem dX9_every_26 : decode cX9_every 26 = .ok (.ireturn, 1) := by decide +kernel
theorem dX9_every_27 : decode cX9_every 27 = .ok (.aload_n 0, 1) := by decide +kernel
theorem dX9_every_28 : decode cX9_every 28 = .ok (.getfield 159, 3) := by decide +kernel
theorem dX9_every_31 : decode cX9_every 31 = .ok (.iload_n 1, 1) := by decide +kernel
theorem dX9_every_32 : decode cX9_every 32 = .ok (.ishr, 1) := by decide +kernel
theorem dX9_every_33 : decode cX9_every 33 = .ok (.iconst 1, 1) := by decide +kernel
theorem dX9_every_34 : decode cX9_every 34 = .ok (.iand, 1) := by decide +kernel
theorem dX9_every_35 : decode cX9_every 35 = .ok (.iconst 1, 1) := by decide +kernel
theorem dX9_every_36 : decode cX9_every 36 = .ok (.if_icmp .ne 7, 3) := by decide +kernel
theorem dX9_every_39 : decode cX9_every 39 = .ok (.iconst 1, 1) := by decide +kernel
theorem dX9_every_40 : decode cX9_every 40 = .ok (.goto 21, 3) := by decide +kernel
theorem dX9_every_43 : decode cX9_every 43 = .ok (.aload_n 0, 1) := by decide +kernel
theorem dX9_every_44 : decode cX9_every 44 = .ok (.getfield 162, 3) := by decide +kernel
theorem dX9_every_47 : decode cX9_every 47 = .ok (.iload_n 1, 1) := by decide +kernel
theorem dX9_every_48 : decode cX9_every 48 = .ok (.ishr, 1) := by decide +kernel
theorem dX9_every_49 : decode cX9_every 49 = .ok (.iconst 1, 1) := by decide +kernel
theorem dX9_every_50 : decode cX9_every 50 = .ok (.iand, 1) := by decide +kernel
theorem dX9_every_51 : decode cX9_every 51 = .ok (.iconst 1, 1) := by decide +kernel
theorem dX9_every_52 : decode cX9_every 52 = .ok (.if_icmp .ne 7, 3) := by decide +kernel
theorem dX9_every_55 : decode cX9_every 55 = .ok (.iconst 0, 1) := by decide +kernel
theorem dX9_every_56 : decode cX9_every 56 = .ok (.goto 5, 3) := by decide +kernel
theorem dX9_every_59 : decode cX9_every 59 = .ok (.bipush (-5), 2) := by decide +kernel
theorem dX9_every_61 : decode cX9_every 61 = .ok (.ireturn, 1) := by decide +kernel
theorem dX9_second_0 : decode cX9_second 0 = .ok (.aload_n 0, 1) := by decide +kernel
theorem dX9_second_1 : decode cX9_second 1 = .ok (.iload_n 1, 1) := by decide +kernel
theorem dX9_second_2 : decode cX9_second 2 = .ok (.invokevirtual 136, 3) := by decide +kernel
theorem dX9_second_5 : decode cX9_second 5 = .ok (.ifCond .ne 5, 3) := by decide +kernel
theorem dX9_second_8 : decode cX9_second 8 = .ok (.iconst (-1), 1) := by decide +kernel
theorem dX9_second_9 : decode cX9_second 9 = .ok (.ireturn, 1) := by decide +kernel
theorem dX9_second_10 : decode cX9_second 10 = .ok (.aload_n 0, 1) := by decide +kernel
theorem dX9_second_11 : decode cX9_second 11 = .ok (.iload_n 1, 1) := by decide +kernel
theorem dX9_second_12 : decode cX9_second 12 = .ok (.iconst 0, 1) := by decide +kernel
theorem dX9_second_13 : decode cX9_second 13 = .ok (.invokevirtual 165, 3) := by decide +kernel
theorem dX9_second_16 : decode cX9_second 16 = .ok (.aload_n 0, 1) := by decide +kernel
theorem dX9_second_17 : decode cX9_second 17 = .ok (.getfield 150, 3) := by decide +kernel
theorem dX9_second_20 : decode cX9_second 20 = .ok (.ireturn, 1) := by decide +kernel
theorem dX9_lose_0 : decode cX9_lose 0 = .ok (.aload_n 0, 1) := by decide +kernel
theorem dX9_lose_1 : decode cX9_lose 1 = .ok (.iload_n 1, 1) := by decide +kernel
theorem dX9_lose_2 : decode cX9_lose 2 = .ok (.invokevirtual 101, 3) := by decide +kernel
theorem dX9_lose_5 : decode cX9_lose 5 = .ok (.ifCond .ne 7, 3) := by decide +kernel
theorem dX9_lose_8 : decode cX9_lose 8 = .ok (.ldc2_w 142, 3) := by decide +kernel
theorem dX9_lose_11 : decode cX9_lose 11 = .ok (.lreturn, 1) := by decide +kernel
theorem dX9_lose_12 : decode cX9_lose 12 = .ok (.aload_n 0, 1) := by decide +kernel
theorem dX9_lose_13 : decode cX9_lose 13 = .ok (.getfield 23, 3) := by decide +kernel
theorem dX9_lose_16 : decode cX9_lose 16 = .ok (.iload_n 1, 1) := by decide +kernel
theorem dX9_lose_17 : decode cX9_lose 17 = .ok (.iaload, 1) := by decide +kernel
theorem dX9_lose_18 : decode cX9_lose 18 = .ok (.iconst 3, 1) := by decide +kernel
theorem dX9_lose_19 : decode cX9_lose 19 = .ok (.if_icmp .ne 7, 3) := by decide +kernel
theorem dX9_lose_22 : decode cX9_lose 22 = .ok (.ldc2_w 169, 3) := by decide +kernel
theorem dX9_lose_25 : decode cX9_lose 25 = .ok (.lreturn, 1) := by decide +kernel
theorem dX9_lose_26 : decode cX9_lose 26 = .ok (.aload_n 0, 1) := by decide +kernel
theorem dX9_lose_27 : decode cX9_lose 27 = .ok (.bipush (-4), 2) := by decide +kernel
theorem dX9_lose_29 : decode cX9_lose 29 = .ok (.iconst 1, 1) := by decide +kernel
theorem dX9_lose_30 : decode cX9_lose 30 = .ok (.iload_n 1, 1) := by decide +kernel
theorem dX9_lose_31 : decode cX9_lose 31 = .ok (.ishl, 1) := by decide +kernel
theorem dX9_lose_32 : decode cX9_lose 32 = .ok (.invokevirtual 165, 3) := by decide +kernel
theorem dX9_lose_35 : decode cX9_lose 35 = .ok (.aload_n 0, 1) := by decide +kernel
theorem dX9_lose_36 : decode cX9_lose 36 = .ok (.getfield 153, 3) := by decide +kernel
theorem dX9_lose_39 : decode cX9_lose 39 = .ok (.lreturn, 1) := by decide +kernel
theorem dX9_worst_0 : decode cX9_worst 0 = .ok (.aload_n 0, 1) := by decide +kernel
theorem dX9_worst_1 : decode cX9_worst 1 = .ok (.bipush (-4), 2) := by decide +kernel
theorem dX9_worst_3 : decode cX9_worst 3 = .ok (.iconst 0, 1) := by decide +kernel
theorem dX9_worst_4 : decode cX9_worst 4 = .ok (.invokevirtual 165, 3) := by decide +kernel
theorem dX9_worst_7 : decode cX9_worst 7 = .ok (.aload_n 0, 1) := by decide +kernel
theorem dX9_worst_8 : decode cX9_worst 8 = .ok (.getfield 150, 3) := by decide +kernel
theorem dX9_worst_11 : decode cX9_worst 11 = .ok (.bipush (-4), 2) := by decide +kernel
theorem dX9_worst_13 : decode cX9_worst 13 = .ok (.if_icmp .ne 6, 3) := by decide +kernel
theorem dX9_worst_16 : decode cX9_worst 16 = .ok (.bipush (-4), 2) := by decide +kernel
theorem dX9_worst_18 : decode cX9_worst 18 = .ok (.ireturn, 1) := by decide +kernel
theorem dX9_worst_19 : decode cX9_worst 19 = .ok (.bipush (-4), 2) := by decide +kernel
theorem dX9_worst_21 : decode cX9_worst 21 = .ok (.istore_n 1, 1) := by decide +kernel
theorem dX9_worst_22 : decode cX9_worst 22 = .ok (.lconst 0, 1) := by decide +kernel
theorem dX9_worst_23 : decode cX9_worst 23 = .ok (.lstore_n 2, 1) := by decide +kernel
theorem dX9_worst_24 : decode cX9_worst 24 = .ok (.iconst 0, 1) := by decide +kernel
theorem dX9_worst_25 : decode cX9_worst 25 = .ok (.istore 4, 2) := by decide +kernel
theorem dX9_worst_27 : decode cX9_worst 27 = .ok (.iload 4, 2) := by decide +kernel
theorem dX9_worst_29 : decode cX9_worst 29 = .ok (.aload_n 0, 1) := by decide +kernel
theorem dX9_worst_30 : decode cX9_worst 30 = .ok (.getfield 78, 3) := by decide +kernel
theorem dX9_worst_33 : decode cX9_worst 33 = .ok (.if_icmp .ge 70, 3) := by decide +kernel
theorem dX9_worst_36 : decode cX9_worst 36 = .ok (.aload_n 0, 1) := by decide +kernel
theorem dX9_worst_37 : decode cX9_worst 37 = .ok (.getfield 23, 3) := by decide +kernel
theorem dX9_worst_40 : decode cX9_worst 40 = .ok (.iload 4, 2) := by decide +kernel
theorem dX9_worst_42 : decode cX9_worst 42 = .ok (.iaload, 1) := by decide +kernel
theorem dX9_worst_43 : decode cX9_worst 43 = .ok (.iconst 3, 1) := by decide +kernel
theorem dX9_worst_44 : decode cX9_worst 44 = .ok (.if_icmp .eq 53, 3) := by decide +kernel
theorem dX9_worst_47 : decode cX9_worst 47 = .ok (.aload_n 0, 1) := by decide +kernel
theorem dX9_worst_48 : decode cX9_worst 48 = .ok (.bipush (-4), 2) := by decide +kernel
theorem dX9_worst_50 : decode cX9_worst 50 = .ok (.iconst 1, 1) := by decide +kernel
theorem dX9_worst_51 : decode cX9_worst 51 = .ok (.iload 4, 2) := by decide +kernel
theorem dX9_worst_53 : decode cX9_worst 53 = .ok (.ishl, 1) := by decide +kernel
theorem dX9_worst_54 : decode cX9_worst 54 = .ok (.invokevirtual 165, 3) := by decide +kernel
theorem dX9_worst_57 : decode cX9_worst 57 = .ok (.aload_n 0, 1) := by decide +kernel
theorem dX9_worst_58 : decode cX9_worst 58 = .ok (.getfield 150, 3) := by decide +kernel
theorem dX9_worst_61 : decode cX9_worst 61 = .ok (.bipush (-4), 2) := by decide +kernel
theorem dX9_worst_63 : decode cX9_worst 63 = .ok (.if_icmp .ne 9, 3) := by decide +kernel
theorem dX9_worst_66 : decode cX9_worst 66 = .ok (.ldc2_w 171, 3) := by decide +kernel
theorem dX9_worst_69 : decode cX9_worst 69 = .ok (.goto 7, 3) := by decide +kernel
theorem dX9_worst_72 : decode cX9_worst 72 = .ok (.aload_n 0, 1) := by decide +kernel
theorem dX9_worst_73 : decode cX9_worst 73 = .ok (.getfield 153, 3) := by decide +kernel
theorem dX9_worst_76 : decode cX9_worst 76 = .ok (.lstore 5, 2) := by decide +kernel
theorem dX9_worst_78 : decode cX9_worst 78 = .ok (.iload_n 1, 1) := by decide +kernel
theorem dX9_worst_79 : decode cX9_worst 79 = .ok (.bipush (-4), 2) := by decide +kernel
theorem dX9_worst_81 : decode cX9_worst 81 = .ok (.if_icmp .eq 10, 3) := by decide +kernel
theorem dX9_worst_84 : decode cX9_worst 84 = .ok (.lload 5, 2) := by decide +kernel
theorem dX9_worst_86 : decode cX9_worst 86 = .ok (.lload_n 2, 1) := by decide +kernel
theorem dX9_worst_87 : decode cX9_worst 87 = .ok (.lcmp, 1) := by decide +kernel
theorem dX9_worst_88 : decode cX9_worst 88 = .ok (.ifCond .le 9, 3) := by decide +kernel
theorem dX9_worst_91 : decode cX9_worst 91 = .ok (.iload 4, 2) := by decide +kernel
theorem dX9_worst_93 : decode cX9_worst 93 = .ok (.istore_n 1, 1) := by decide +kernel
theorem dX9_worst_94 : decode cX9_worst 94 = .ok (.lload 5, 2) := by decide +kernel
theorem dX9_worst_96 : decode cX9_worst 96 = .ok (.lstore_n 2, 1) := by decide +kernel
theorem dX9_worst_97 : decode cX9_worst 97 = .ok (.iinc 4 1, 3) := by decide +kernel
theorem dX9_worst_100 : decode cX9_worst 100 = .ok (.goto (-73), 3) := by decide +kernel
theorem dX9_worst_103 : decode cX9_worst 103 = .ok (.iload_n 1, 1) := by decide +kernel
theorem dX9_worst_104 : decode cX9_worst 104 = .ok (.ireturn, 1) := by decide +kernel
theorem dX9_findNearest_0 : decode cX9_findNearest 0 = .ok (.aload_n 0, 1) := by decide +kernel
theorem dX9_findNearest_1 : decode cX9_findNearest 1 = .ok (.invokevirtual 112, 3) := by decide +kernel
theorem dX9_findNearest_4 : decode cX9_findNearest 4 = .ok (.aload_n 0, 1) := by decide +kernel
theorem dX9_findNearest_5 : decode cX9_findNearest 5 = .ok (.bipush (-4), 2) := by decide +kernel
theorem dX9_findNearest_7 : decode cX9_findNearest 7 = .ok (.putfield 173, 3) := by decide +kernel
theorem dX9_findNearest_10 : decode cX9_findNearest 10 = .ok (.aload_n 0, 1) := by decide +kernel
theorem dX9_findNearest_11 : decode cX9_findNearest 11 = .ok (.bipush (-4), 2) := by decide +kernel
theorem dX9_findNearest_13 : decode cX9_findNearest 13 = .ok (.putfield 176, 3) := by decide +kernel
theorem dX9_findNearest_16 : decode cX9_findNearest 16 = .ok (.iconst 0, 1) := by decide +kernel
theorem dX9_findNearest_17 : decode cX9_findNearest 17 = .ok (.istore_n 1, 1) := by decide +kernel
theorem dX9_findNearest_18 : decode cX9_findNearest 18 = .ok (.iload_n 1, 1) := by decide +kernel
theorem dX9_findNearest_19 : decode cX9_findNearest 19 = .ok (.iconst 1, 1) := by decide +kernel
theorem dX9_findNearest_20 : decode cX9_findNearest 20 = .ok (.aload_n 0, 1) := by decide +kernel
theorem dX9_findNearest_21 : decode cX9_findNearest 21 = .ok (.getfield 78, 3) := by decide +kernel
theorem dX9_findNearest_24 : decode cX9_findNearest 24 = .ok (.ishl, 1) := by decide +kernel
theorem dX9_findNearest_25 : decode cX9_findNearest 25 = .ok (.if_icmp .ge 62, 3) := by decide +kernel
theorem dX9_findNearest_28 : decode cX9_findNearest 28 = .ok (.aload_n 0, 1) := by decide +kernel
theorem dX9_findNearest_29 : decode cX9_findNearest 29 = .ok (.iload_n 1, 1) := by decide +kernel
theorem dX9_findNearest_30 : decode cX9_findNearest 30 = .ok (.invokevirtual 139, 3) := by decide +kernel
theorem dX9_findNearest_33 : decode cX9_findNearest 33 = .ok (.ifCond .eq 48, 3) := by decide +kernel
theorem dX9_findNearest_36 : decode cX9_findNearest 36 = .ok (.aload_n 0, 1) := by decide +kernel
theorem dX9_findNearest_37 : decode cX9_findNearest 37 = .ok (.iload_n 1, 1) := by decide +kernel
theorem dX9_findNearest_38 : decode cX9_findNearest 38 = .ok (.invokevirtual 144, 3) := by decide +kernel
theorem dX9_findNearest_41 : decode cX9_findNearest 41 = .ok (.aload_n 0, 1) := by decide +kernel
theorem dX9_findNearest_42 : decode cX9_findNearest 42 = .ok (.getfield 119, 3) := by decide +kernel
theorem dX9_findNearest_45 : decode cX9_findNearest 45 = .ok (.ifCond .ne 36, 3) := by decide +kernel
theorem dX9_findNearest_48 : decode cX9_findNearest 48 = .ok (.aload_n 0, 1) := by decide +kernel
theorem dX9_findNearest_49 : decode cX9_findNearest 49 = .ok (.getfield 173, 3) := by decide +kernel
theorem dX9_findNearest_52 : decode cX9_findNearest 52 = .ok (.bipush (-4), 2) := by decide +kernel
theorem dX9_findNearest_54 : decode cX9_findNearest 54 = .ok (.if_icmp .eq 14, 3) := by decide +kernel
theorem dX9_findNearest_57 : decode cX9_findNearest 57 = .ok (.aload_n 0, 1) := by decide +kernel
theorem dX9_findNearest_58 : decode cX9_findNearest 58 = .ok (.getfield 126, 3) := by decide +kernel
theorem dX9_findNearest_61 : decode cX9_findNearest 61 = .ok (.aload_n 0, 1) := by decide +kernel
theorem dX9_findNearest_62 : decode cX9_findNearest 62 = .ok (.getfield 176, 3) := by decide +kernel
theorem dX9_findNearest_65 : decode cX9_findNearest 65 = .ok (.if_icmp .ge 16, 3) := by decide +kernel
theorem dX9_findNearest_68 : decode cX9_findNearest 68 = .ok (.aload_n 0, 1) := by decide +kernel
theorem dX9_findNearest_69 : decode cX9_findNearest 69 = .ok (.iload_n 1, 1) := by decide +kernel
theorem dX9_findNearest_70 : decode cX9_findNearest 70 = .ok (.putfield 173, 3) := by decide +kernel
theorem dX9_findNearest_73 : decode cX9_findNearest 73 = .ok (.aload_n 0, 1) := by decide +kernel
theorem dX9_findNearest_74 : decode cX9_findNearest 74 = .ok (.aload_n 0, 1) := by decide +kernel
theorem dX9_findNearest_75 : decode cX9_findNearest 75 = .ok (.getfield 126, 3) := by decide +kernel
theorem dX9_findNearest_78 : decode cX9_findNearest 78 = .ok (.putfield 176, 3) := by decide +kernel
theorem dX9_findNearest_81 : decode cX9_findNearest 81 = .ok (.iinc 1 1, 3) := by decide +kernel
theorem dX9_findNearest_84 : decode cX9_findNearest 84 = .ok (.goto (-66), 3) := by decide +kernel
theorem dX9_findNearest_87 : decode cX9_findNearest 87 = .ok (.return_, 1) := by decide +kernel
theorem dX9_farthest_0 : decode cX9_farthest 0 = .ok (.aload_n 0, 1) := by decide +kernel
theorem dX9_farthest_1 : decode cX9_farthest 1 = .ok (.invokevirtual 179, 3) := by decide +kernel
theorem dX9_farthest_4 : decode cX9_farthest 4 = .ok (.aload_n 0, 1) := by decide +kernel
theorem dX9_farthest_5 : decode cX9_farthest 5 = .ok (.getfield 176, 3) := by decide +kernel
theorem dX9_farthest_8 : decode cX9_farthest 8 = .ok (.ireturn, 1) := by decide +kernel
theorem dX9_nearest_0 : decode cX9_nearest 0 = .ok (.aload_n 0, 1) := by decide +kernel
theorem dX9_nearest_1 : decode cX9_nearest 1 = .ok (.invokevirtual 179, 3) := by decide +kernel
theorem dX9_nearest_4 : decode cX9_nearest 4 = .ok (.aload_n 0, 1) := by decide +kernel
theorem dX9_nearest_5 : decode cX9_nearest 5 = .ok (.getfield 173, 3) := by decide +kernel
theorem dX9_nearest_8 : decode cX9_nearest 8 = .ok (.ireturn, 1) := by decide +kernel
theorem dX9_shrines_0 : decode cX9_shrines 0 = .ok (.iconst 0, 1) := by decide +kernel
theorem dX9_shrines_1 : decode cX9_shrines 1 = .ok (.istore_n 1, 1) := by decide +kernel
theorem dX9_shrines_2 : decode cX9_shrines 2 = .ok (.iconst 0, 1) := by decide +kernel
theorem dX9_shrines_3 : decode cX9_shrines 3 = .ok (.istore_n 2, 1) := by decide +kernel
theorem dX9_shrines_4 : decode cX9_shrines 4 = .ok (.iload_n 2, 1) := by decide +kernel
theorem dX9_shrines_5 : decode cX9_shrines 5 = .ok (.aload_n 0, 1) := by decide +kernel
theorem dX9_shrines_6 : decode cX9_shrines 6 = .ok (.getfield 78, 3) := by decide +kernel
theorem dX9_shrines_9 : decode cX9_shrines 9 = .ok (.if_icmp .ge 29, 3) := by decide +kernel
theorem dX9_shrines_12 : decode cX9_shrines 12 = .ok (.iload_n 1, 1) := by decide +kernel
theorem dX9_shrines_13 : decode cX9_shrines 13 = .ok (.aload_n 0, 1) := by decide +kernel
theorem dX9_shrines_14 : decode cX9_shrines 14 = .ok (.getfield 23, 3) := by decide +kernel
theorem dX9_shrines_17 : decode cX9_shrines 17 = .ok (.iload_n 2, 1) := by decide +kernel
theorem dX9_shrines_18 : decode cX9_shrines 18 = .ok (.iaload, 1) := by decide +kernel
theorem dX9_shrines_19 : decode cX9_shrines 19 = .ok (.iconst 3, 1) := by decide +kernel
theorem dX9_shrines_20 : decode cX9_shrines 20 = .ok (.if_icmp .ne 9, 3) := by decide +kernel
theorem dX9_shrines_23 : decode cX9_shrines 23 = .ok (.iconst 1, 1) := by decide +kernel
theorem dX9_shrines_24 : decode cX9_shrines 24 = .ok (.iload_n 2, 1) := by decide +kernel
theorem dX9_shrines_25 : decode cX9_shrines 25 = .ok (.ishl, 1) := by decide +kernel
theorem dX9_shrines_26 : decode cX9_shrines 26 = .ok (.goto 4, 3) := by decide +kernel
theorem dX9_shrines_29 : decode cX9_shrines 29 = .ok (.iconst 0, 1) := by decide +kernel
theorem dX9_shrines_30 : decode cX9_shrines 30 = .ok (.iadd, 1) := by decide +kernel
theorem dX9_shrines_31 : decode cX9_shrines 31 = .ok (.istore_n 1, 1) := by decide +kernel
theorem dX9_shrines_32 : decode cX9_shrines 32 = .ok (.iinc 2 1, 3) := by decide +kernel
theorem dX9_shrines_35 : decode cX9_shrines 35 = .ok (.goto (-31), 3) := by decide +kernel
theorem dX9_shrines_38 : decode cX9_shrines 38 = .ok (.iload_n 1, 1) := by decide +kernel
theorem dX9_shrines_39 : decode cX9_shrines 39 = .ok (.ireturn, 1) := by decide +kernel
theorem dX9_isLess_0 : decode cX9_isLess 0 = .ok (.aload_n 0, 1) := by decide +kernel
theorem dX9_isLess_1 : decode cX9_isLess 1 = .ok (.iload_n 1, 1) := by decide +kernel
theorem dX9_isLess_2 : decode cX9_isLess 2 = .ok (.invokevirtual 144, 3) := by decide +kernel
theorem dX9_isLess_5 : decode cX9_isLess 5 = .ok (.aload_n 0, 1) := by decide +kernel
theorem dX9_isLess_6 : decode cX9_isLess 6 = .ok (.getfield 119, 3) := by decide +kernel
theorem dX9_isLess_9 : decode cX9_isLess 9 = .ok (.aload_n 0, 1) := by decide +kernel
theorem dX9_isLess_10 : decode cX9_isLess 10 = .ok (.getfield 182, 3) := by decide +kernel
theorem dX9_isLess_13 : decode cX9_isLess 13 = .ok (.if_icmp .lt 26, 3) := by decide +kernel
theorem dX9_isLess_16 : decode cX9_isLess 16 = .ok (.aload_n 0, 1) := by decide +kernel
theorem dX9_isLess_17 : decode cX9_isLess 17 = .ok (.getfield 119, 3) := by decide +kernel
theorem dX9_isLess_20 : decode cX9_isLess 20 = .ok (.aload_n 0, 1) := by decide +kernel
theorem dX9_isLess_21 : decode cX9_isLess 21 = .ok (.getfield 182, 3) := by decide +kernel
theorem dX9_isLess_24 : decode cX9_isLess 24 = .ok (.if_icmp .ne 19, 3) := by decide +kernel
theorem dX9_isLess_27 : decode cX9_isLess 27 = .ok (.aload_n 0, 1) := by decide +kernel
theorem dX9_isLess_28 : decode cX9_isLess 28 = .ok (.getfield 122, 3) := by decide +kernel
theorem dX9_isLess_31 : decode cX9_isLess 31 = .ok (.aload_n 0, 1) := by decide +kernel
theorem dX9_isLess_32 : decode cX9_isLess 32 = .ok (.getfield 185, 3) := by decide +kernel
theorem dX9_isLess_35 : decode cX9_isLess 35 = .ok (.lcmp, 1) := by decide +kernel
theorem dX9_isLess_36 : decode cX9_isLess 36 = .ok (.ifCond .ge 7, 3) := by decide +kernel
theorem dX9_isLess_39 : decode cX9_isLess 39 = .ok (.iconst 1, 1) := by decide +kernel
theorem dX9_isLess_40 : decode cX9_isLess 40 = .ok (.goto 4, 3) := by decide +kernel
theorem dX9_isLess_43 : decode cX9_isLess 43 = .ok (.iconst 0, 1) := by decide +kernel
theorem dX9_isLess_44 : decode cX9_isLess 44 = .ok (.istore_n 2, 1) := by decide +kernel
theorem dX9_isLess_45 : decode cX9_isLess 45 = .ok (.iload_n 2, 1) := by decide +kernel
theorem dX9_isLess_46 : decode cX9_isLess 46 = .ok (.ifCond .eq 19, 3) := by decide +kernel
theorem dX9_isLess_49 : decode cX9_isLess 49 = .ok (.aload_n 0, 1) := by decide +kernel
theorem dX9_isLess_50 : decode cX9_isLess 50 = .ok (.aload_n 0, 1) := by decide +kernel
theorem dX9_isLess_51 : decode cX9_isLess 51 = .ok (.getfield 119, 3) := by decide +kernel
theorem dX9_isLess_54 : decode cX9_isLess 54 = .ok (.putfield 182, 3) := by decide +kernel
theorem dX9_isLess_57 : decode cX9_isLess 57 = .ok (.aload_n 0, 1) := by decide +kernel
theorem dX9_isLess_58 : decode cX9_isLess 58 = .ok (.aload_n 0, 1) := by decide +kernel
theorem dX9_isLess_59 : decode cX9_isLess 59 = .ok (.getfield 122, 3) := by decide +kernel
theorem dX9_isLess_62 : decode cX9_isLess 62 = .ok (.putfield 185, 3) := by decide +kernel
theorem dX9_isLess_65 : decode cX9_isLess 65 = .ok (.iload_n 2, 1) := by decide +kernel
theorem dX9_isLess_66 : decode cX9_isLess 66 = .ok (.ireturn, 1) := by decide +kernel
theorem dX9_begins_0 : decode cX9_begins 0 = .ok (.aload_n 0, 1) := by decide +kernel
theorem dX9_begins_1 : decode cX9_begins 1 = .ok (.iload_n 1, 1) := by decide +kernel
theorem dX9_begins_2 : decode cX9_begins 2 = .ok (.invokevirtual 144, 3) := by decide +kernel
theorem dX9_begins_5 : decode cX9_begins 5 = .ok (.aload_n 0, 1) := by decide +kernel
theorem dX9_begins_6 : decode cX9_begins 6 = .ok (.aload_n 0, 1) := by decide +kernel
theorem dX9_begins_7 : decode cX9_begins 7 = .ok (.getfield 119, 3) := by decide +kernel
theorem dX9_begins_10 : decode cX9_begins 10 = .ok (.putfield 182, 3) := by decide +kernel
theorem dX9_begins_13 : decode cX9_begins 13 = .ok (.aload_n 0, 1) := by decide +kernel
theorem dX9_begins_14 : decode cX9_begins 14 = .ok (.aload_n 0, 1) := by decide +kernel
theorem dX9_begins_15 : decode cX9_begins 15 = .ok (.getfield 122, 3) := by decide +kernel
theorem dX9_begins_18 : decode cX9_begins 18 = .ok (.putfield 185, 3) := by decide +kernel
theorem dX9_begins_21 : decode cX9_begins 21 = .ok (.return_, 1) := by decide +kernel
theorem dX9_added_0 : decode cX9_added 0 = .ok (.aload_n 0, 1) := by decide +kernel
theorem dX9_added_1 : decode cX9_added 1 = .ok (.invokevirtual 188, 3) := by decide +kernel
theorem dX9_added_4 : decode cX9_added 4 = .ok (.istore_n 1, 1) := by decide +kernel
theorem dX9_added_5 : decode cX9_added 5 = .ok (.aload_n 0, 1) := by decide +kernel
theorem dX9_added_6 : decode cX9_added 6 = .ok (.iload_n 1, 1) := by decide +kernel
theorem dX9_added_7 : decode cX9_added 7 = .ok (.invokevirtual 139, 3) := by decide +kernel
theorem dX9_added_10 : decode cX9_added 10 = .ok (.ifCond .ne 6, 3) := by decide +kernel
theorem dX9_added_13 : decode cX9_added 13 = .ok (.bipush (-2), 2) := by decide +kernel
theorem dX9_added_15 : decode cX9_added 15 = .ok (.ireturn, 1) := by decide +kernel
theorem dX9_added_16 : decode cX9_added 16 = .ok (.aload_n 0, 1) := by decide +kernel
theorem dX9_added_17 : decode cX9_added 17 = .ok (.invokevirtual 112, 3) := by decide +kernel
theorem dX9_added_20 : decode cX9_added 20 = .ok (.aload_n 0, 1) := by decide +kernel
theorem dX9_added_21 : decode cX9_added 21 = .ok (.iconst 0, 1) := by decide +kernel
theorem dX9_added_22 : decode cX9_added 22 = .ok (.putfield 192, 3) := by decide +kernel
theorem dX9_added_25 : decode cX9_added 25 = .ok (.aload_n 0, 1) := by decide +kernel
theorem dX9_added_26 : decode cX9_added 26 = .ok (.iload_n 1, 1) := by decide +kernel
theorem dX9_added_27 : decode cX9_added 27 = .ok (.invokevirtual 195, 3) := by decide +kernel
theorem dX9_added_30 : decode cX9_added 30 = .ok (.iconst 1, 1) := by decide +kernel
theorem dX9_added_31 : decode cX9_added 31 = .ok (.istore_n 2, 1) := by decide +kernel
theorem dX9_added_32 : decode cX9_added 32 = .ok (.iload_n 2, 1) := by decide +kernel
theorem dX9_added_33 : decode cX9_added 33 = .ok (.ifCond .eq 102, 3) := by decide +kernel
theorem dX9_added_36 : decode cX9_added 36 = .ok (.bipush (-4), 2) := by decide +kernel
theorem dX9_added_38 : decode cX9_added 38 = .ok (.istore_n 3, 1) := by decide +kernel
theorem dX9_added_39 : decode cX9_added 39 = .ok (.iconst 0, 1) := by decide +kernel
theorem dX9_added_40 : decode cX9_added 40 = .ok (.istore 4, 2) := by decide +kernel
theorem dX9_added_42 : decode cX9_added 42 = .ok (.iload 4, 2) := by decide +kernel
theorem dX9_added_44 : decode cX9_added 44 = .ok (.aload_n 0, 1) := by decide +kernel
theorem dX9_added_45 : decode cX9_added 45 = .ok (.getfield 78, 3) := by decide +kernel
theorem dX9_added_48 : decode cX9_added 48 = .ok (.if_icmp .ge 44, 3) := by decide +kernel
theorem dX9_added_51 : decode cX9_added 51 = .ok (.iload_n 1, 1) := by decide +kernel
theorem dX9_added_52 : decode cX9_added 52 = .ok (.iconst 1, 1) := by decide +kernel
theorem dX9_added_53 : decode cX9_added 53 = .ok (.iload 4, 2) := by decide +kernel
theorem dX9_added_55 : decode cX9_added 55 = .ok (.ishl, 1) := by decide +kernel
theorem dX9_added_56 : decode cX9_added 56 = .ok (.ior, 1) := by decide +kernel
theorem dX9_added_57 : decode cX9_added 57 = .ok (.istore 5, 2) := by decide +kernel
theorem dX9_added_59 : decode cX9_added 59 = .ok (.iload 5, 2) := by decide +kernel
theorem dX9_added_61 : decode cX9_added 61 = .ok (.iload_n 1, 1) := by decide +kernel
theorem dX9_added_62 : decode cX9_added 62 = .ok (.if_icmp .eq 24, 3) := by decide +kernel
theorem dX9_added_65 : decode cX9_added 65 = .ok (.aload_n 0, 1) := by decide +kernel
theorem dX9_added_66 : decode cX9_added 66 = .ok (.iload 5, 2) := by decide +kernel
theorem dX9_added_68 : decode cX9_added 68 = .ok (.invokevirtual 139, 3) := by decide +kernel
theorem dX9_added_71 : decode cX9_added 71 = .ok (.ifCond .eq 15, 3) := by decide +kernel
theorem dX9_added_74 : decode cX9_added 74 = .ok (.aload_n 0, 1) := by decide +kernel
theorem dX9_added_75 : decode cX9_added 75 = .ok (.iload 5, 2) := by decide +kernel
theorem dX9_added_77 : decode cX9_added 77 = .ok (.invokevirtual 198, 3) := by decide +kernel
theorem dX9_added_80 : decode cX9_added 80 = .ok (.ifCond .eq 6, 3) := by decide +kernel
theorem dX9_added_83 : decode cX9_added 83 = .ok (.iload 5, 2) := by decide +kernel
theorem dX9_added_85 : decode cX9_added 85 = .ok (.istore_n 3, 1) := by decide +kernel
theorem dX9_added_86 : decode cX9_added 86 = .ok (.iinc 4 1, 3) := by decide +kernel
theorem dX9_added_89 : decode cX9_added 89 = .ok (.goto (-47), 3) := by decide +kernel
theorem dX9_added_92 : decode cX9_added 92 = .ok (.iload_n 3, 1) := by decide +kernel
theorem dX9_added_93 : decode cX9_added 93 = .ok (.bipush (-4), 2) := by decide +kernel
theorem dX9_added_95 : decode cX9_added 95 = .ok (.if_icmp .eq 7, 3) := by decide +kernel
theorem dX9_added_98 : decode cX9_added 98 = .ok (.iconst 1, 1) := by decide +kernel
theorem dX9_added_99 : decode cX9_added 99 = .ok (.goto 4, 3) := by decide +kernel
theorem dX9_added_102 : decode cX9_added 102 = .ok (.iconst 0, 1) := by decide +kernel
theorem dX9_added_103 : decode cX9_added 103 = .ok (.istore_n 2, 1) := by decide +kernel
theorem dX9_added_104 : decode cX9_added 104 = .ok (.iload_n 2, 1) := by decide +kernel
theorem dX9_added_105 : decode cX9_added 105 = .ok (.ifCond .eq 7, 3) := by decide +kernel
theorem dX9_added_108 : decode cX9_added 108 = .ok (.iload_n 3, 1) := by decide +kernel
theorem dX9_added_109 : decode cX9_added 109 = .ok (.goto 4, 3) := by decide +kernel
theorem dX9_added_112 : decode cX9_added 112 = .ok (.iload_n 1, 1) := by decide +kernel
theorem dX9_added_113 : decode cX9_added 113 = .ok (.istore_n 1, 1) := by decide +kernel
theorem dX9_added_114 : decode cX9_added 114 = .ok (.aload_n 0, 1) := by decide +kernel
theorem dX9_added_115 : decode cX9_added 115 = .ok (.dup, 1) := by decide +kernel
theorem dX9_added_116 : decode cX9_added 116 = .ok (.getfield 192, 3) := by decide +kernel
theorem dX9_added_119 : decode cX9_added 119 = .ok (.iload_n 2, 1) := by decide +kernel
theorem dX9_added_120 : decode cX9_added 120 = .ok (.ifCond .eq 7, 3) := by decide +kernel
theorem dX9_added_123 : decode cX9_added 123 = .ok (.iconst 1, 1) := by decide +kernel
theorem dX9_added_124 : decode cX9_added 124 = .ok (.goto 4, 3) := by decide +kernel
theorem dX9_added_127 : decode cX9_added 127 = .ok (.iconst 0, 1) := by decide +kernel
theorem dX9_added_128 : decode cX9_added 128 = .ok (.iadd, 1) := by decide +kernel
theorem dX9_added_129 : decode cX9_added 129 = .ok (.putfield 192, 3) := by decide +kernel
theorem dX9_added_132 : decode cX9_added 132 = .ok (.goto (-100), 3) := by decide +kernel
theorem dX9_added_135 : decode cX9_added 135 = .ok (.iload_n 1, 1) := by decide +kernel
theorem dX9_added_136 : decode cX9_added 136 = .ok (.ireturn, 1) := by decide +kernel
theorem dX9_changed_0 : decode cX9_changed 0 = .ok (.aload_n 0, 1) := by decide +kernel
theorem dX9_changed_1 : decode cX9_changed 1 = .ok (.iload_n 1, 1) := by decide +kernel
theorem dX9_changed_2 : decode cX9_changed 2 = .ok (.invokevirtual 136, 3) := by decide +kernel
theorem dX9_changed_5 : decode cX9_changed 5 = .ok (.ifCond .ne 5, 3) := by decide +kernel
theorem dX9_changed_8 : decode cX9_changed 8 = .ok (.iconst (-1), 1) := by decide +kernel
theorem dX9_changed_9 : decode cX9_changed 9 = .ok (.ireturn, 1) := by decide +kernel
theorem dX9_changed_10 : decode cX9_changed 10 = .ok (.aload_n 0, 1) := by decide +kernel
theorem dX9_changed_11 : decode cX9_changed 11 = .ok (.iload_n 1, 1) := by decide +kernel
theorem dX9_changed_12 : decode cX9_changed 12 = .ok (.invokevirtual 139, 3) := by decide +kernel
theorem dX9_changed_15 : decode cX9_changed 15 = .ok (.ifCond .ne 6, 3) := by decide +kernel
theorem dX9_changed_18 : decode cX9_changed 18 = .ok (.bipush (-2), 2) := by decide +kernel
theorem dX9_changed_20 : decode cX9_changed 20 = .ok (.ireturn, 1) := by decide +kernel
theorem dX9_changed_21 : decode cX9_changed 21 = .ok (.aload_n 0, 1) := by decide +kernel
theorem dX9_changed_22 : decode cX9_changed 22 = .ok (.invokevirtual 112, 3) := by decide +kernel
theorem dX9_changed_25 : decode cX9_changed 25 = .ok (.aload_n 0, 1) := by decide +kernel
theorem dX9_changed_26 : decode cX9_changed 26 = .ok (.iconst 0, 1) := by decide +kernel
theorem dX9_changed_27 : decode cX9_changed 27 = .ok (.putfield 192, 3) := by decide +kernel
theorem dX9_changed_30 : decode cX9_changed 30 = .ok (.iload_n 1, 1) := by decide +kernel
theorem dX9_changed_31 : decode cX9_changed 31 = .ok (.istore_n 2, 1) := by decide +kernel
theorem dX9_changed_32 : decode cX9_changed 32 = .ok (.aload_n 0, 1) := by decide +kernel
theorem dX9_changed_33 : decode cX9_changed 33 = .ok (.iload_n 2, 1) := by decide +kernel
theorem dX9_changed_34 : decode cX9_changed 34 = .ok (.invokevirtual 195, 3) := by decide +kernel
theorem dX9_changed_37 : decode cX9_changed 37 = .ok (.iconst 1, 1) := by decide +kernel
theorem dX9_changed_38 : decode cX9_changed 38 = .ok (.istore_n 3, 1) := by decide +kernel
theorem dX9_changed_39 : decode cX9_changed 39 = .ok (.iload_n 3, 1) := by decide +kernel
theorem dX9_changed_40 : decode cX9_changed 40 = .ok (.ifCond .eq 142, 3) := by decide +kernel
theorem dX9_changed_43 : decode cX9_changed 43 = .ok (.bipush (-4), 2) := by decide +kernel
theorem dX9_changed_45 : decode cX9_changed 45 = .ok (.istore 4, 2) := by decide +kernel
theorem dX9_changed_47 : decode cX9_changed 47 = .ok (.iconst 0, 1) := by decide +kernel
theorem dX9_changed_48 : decode cX9_changed 48 = .ok (.istore 5, 2) := by decide +kernel
theorem dX9_changed_50 : decode cX9_changed 50 = .ok (.iload 5, 2) := by decide +kernel
theorem dX9_changed_52 : decode cX9_changed 52 = .ok (.aload_n 0, 1) := by decide +kernel
theorem dX9_changed_53 : decode cX9_changed 53 = .ok (.getfield 78, 3) := by decide +kernel
theorem dX9_changed_56 : decode cX9_changed 56 = .ok (.if_icmp .ge 81, 3) := by decide +kernel
theorem dX9_changed_59 : decode cX9_changed 59 = .ok (.iconst 0, 1) := by decide +kernel
theorem dX9_changed_60 : decode cX9_changed 60 = .ok (.istore 6, 2) := by decide +kernel
theorem dX9_changed_62 : decode cX9_changed 62 = .ok (.iload 6, 2) := by decide +kernel
theorem dX9_changed_64 : decode cX9_changed 64 = .ok (.aload_n 0, 1) := by decide +kernel
theorem dX9_changed_65 : decode cX9_changed 65 = .ok (.getfield 78, 3) := by decide +kernel
theorem dX9_changed_68 : decode cX9_changed 68 = .ok (.if_icmp .ge 63, 3) := by decide +kernel
theorem dX9_changed_71 : decode cX9_changed 71 = .ok (.iload_n 2, 1) := by decide +kernel
theorem dX9_changed_72 : decode cX9_changed 72 = .ok (.iload 5, 2) := by decide +kernel
theorem dX9_changed_74 : decode cX9_changed 74 = .ok (.ishr, 1) := by decide +kernel
theorem dX9_changed_75 : decode cX9_changed 75 = .ok (.iconst 1, 1) := by decide +kernel
theorem dX9_changed_76 : decode cX9_changed 76 = .ok (.iand, 1) := by decide +kernel
theorem dX9_changed_77 : decode cX9_changed 77 = .ok (.iconst 1, 1) := by decide +kernel
theorem dX9_changed_78 : decode cX9_changed 78 = .ok (.if_icmp .ne 47, 3) := by decide +kernel
theorem dX9_changed_81 : decode cX9_changed 81 = .ok (.iload_n 2, 1) := by decide +kernel
theorem dX9_changed_82 : decode cX9_changed 82 = .ok (.iload 6, 2) := by decide +kernel
theorem dX9_changed_84 : decode cX9_changed 84 = .ok (.ishr, 1) := by decide +kernel
theorem dX9_changed_85 : decode cX9_changed 85 = .ok (.iconst 1, 1) := by decide +kernel
theorem dX9_changed_86 : decode cX9_changed 86 = .ok (.iand, 1) := by decide +kernel
theorem dX9_changed_87 : decode cX9_changed 87 = .ok (.ifCond .ne 38, 3) := by decide +kernel
theorem dX9_changed_90 : decode cX9_changed 90 = .ok (.iload_n 2, 1) := by decide +kernel
theorem dX9_changed_91 : decode cX9_changed 91 = .ok (.iconst 1, 1) := by decide +kernel
theorem dX9_changed_92 : decode cX9_changed 92 = .ok (.iload 5, 2) := by decide +kernel
theorem dX9_changed_94 : decode cX9_changed 94 = .ok (.ishl, 1) := by decide +kernel
theorem dX9_changed_95 : decode cX9_changed 95 = .ok (.isub, 1) := by decide +kernel
theorem dX9_changed_96 : decode cX9_changed 96 = .ok (.iconst 1, 1) := by decide +kernel
theorem dX9_changed_97 : decode cX9_changed 97 = .ok (.iload 6, 2) := by decide +kernel
theorem dX9_changed_99 : decode cX9_changed 99 = .ok (.ishl, 1) := by decide +kernel
theorem dX9_changed_100 : decode cX9_changed 100 = .ok (.iadd, 1) := by decide +kernel
theorem dX9_changed_101 : decode cX9_changed 101 = .ok (.istore 7, 2) := by decide +kernel
theorem dX9_changed_103 : decode cX9_changed 103 = .ok (.aload_n 0, 1) := by decide +kernel
theorem dX9_changed_104 : decode cX9_changed 104 = .ok (.iload 7, 2) := by decide +kernel
theorem dX9_changed_106 : decode cX9_changed 106 = .ok (.invokevirtual 139, 3) := by decide +kernel
theorem dX9_changed_109 : decode cX9_changed 109 = .ok (.ifCond .eq 16, 3) := by decide +kernel
theorem dX9_changed_112 : decode cX9_changed 112 = .ok (.aload_n 0, 1) := by decide +kernel
theorem dX9_changed_113 : decode cX9_changed 113 = .ok (.iload 7, 2) := by decide +kernel
theorem dX9_changed_115 : decode cX9_changed 115 = .ok (.invokevirtual 198, 3) := by decide +kernel
theorem dX9_changed_118 : decode cX9_changed 118 = .ok (.ifCond .eq 7, 3) := by decide +kernel
theorem dX9_changed_121 : decode cX9_changed 121 = .ok (.iload 7, 2) := by decide +kernel
theorem dX9_changed_123 : decode cX9_changed 123 = .ok (.istore 4, 2) := by decide +kernel
theorem dX9_changed_125 : decode cX9_changed 125 = .ok (.iinc 6 1, 3) := by decide +kernel
theorem dX9_changed_128 : decode cX9_changed 128 = .ok (.goto (-66), 3) := by decide +kernel
theorem dX9_changed_131 : decode cX9_changed 131 = .ok (.iinc 5 1, 3) := by decide +kernel
theorem dX9_changed_134 : decode cX9_changed 134 = .ok (.goto (-84), 3) := by decide +kernel
theorem dX9_changed_137 : decode cX9_changed 137 = .ok (.iload 4, 2) := by decide +kernel
theorem dX9_changed_139 : decode cX9_changed 139 = .ok (.bipush (-4), 2) := by decide +kernel
theorem dX9_changed_141 : decode cX9_changed 141 = .ok (.if_icmp .eq 7, 3) := by decide +kernel
theorem dX9_changed_144 : decode cX9_changed 144 = .ok (.iconst 1, 1) := by decide +kernel
theorem dX9_changed_145 : decode cX9_changed 145 = .ok (.goto 4, 3) := by decide +kernel
theorem dX9_changed_148 : decode cX9_changed 148 = .ok (.iconst 0, 1) := by decide +kernel
theorem dX9_changed_149 : decode cX9_changed 149 = .ok (.istore_n 3, 1) := by decide +kernel
theorem dX9_changed_150 : decode cX9_changed 150 = .ok (.iload_n 3, 1) := by decide +kernel
theorem dX9_changed_151 : decode cX9_changed 151 = .ok (.ifCond .eq 8, 3) := by decide +kernel
theorem dX9_changed_154 : decode cX9_changed 154 = .ok (.iload 4, 2) := by decide +kernel
theorem dX9_changed_156 : decode cX9_changed 156 = .ok (.goto 4, 3) := by decide +kernel
theorem dX9_changed_159 : decode cX9_changed 159 = .ok (.iload_n 2, 1) := by decide +kernel
theorem dX9_changed_160 : decode cX9_changed 160 = .ok (.istore_n 2, 1) := by decide +kernel
theorem dX9_changed_161 : decode cX9_changed 161 = .ok (.aload_n 0, 1) := by decide +kernel
theorem dX9_changed_162 : decode cX9_changed 162 = .ok (.dup, 1) := by decide +kernel
theorem dX9_changed_163 : decode cX9_changed 163 = .ok (.getfield 192, 3) := by decide +kernel
theorem dX9_changed_166 : decode cX9_changed 166 = .ok (.iload_n 3, 1) := by decide +kernel
theorem dX9_changed_167 : decode cX9_changed 167 = .ok (.ifCond .eq 7, 3) := by decide +kernel
theorem dX9_changed_170 : decode cX9_changed 170 = .ok (.iconst 1, 1) := by decide +kernel
theorem dX9_changed_171 : decode cX9_changed 171 = .ok (.goto 4, 3) := by decide +kernel
theorem dX9_changed_174 : decode cX9_changed 174 = .ok (.iconst 0, 1) := by decide +kernel
theorem dX9_changed_175 : decode cX9_changed 175 = .ok (.iadd, 1) := by decide +kernel
theorem dX9_changed_176 : decode cX9_changed 176 = .ok (.putfield 192, 3) := by decide +kernel
theorem dX9_changed_179 : decode cX9_changed 179 = .ok (.goto (-140), 3) := by decide +kernel
theorem dX9_changed_182 : decode cX9_changed 182 = .ok (.iload_n 2, 1) := by decide +kernel
theorem dX9_changed_183 : decode cX9_changed 183 = .ok (.ireturn, 1) := by decide +kernel
theorem dX9_moves_0 : decode cX9_moves 0 = .ok (.aload_n 0, 1) := by decide +kernel
theorem dX9_moves_1 : decode cX9_moves 1 = .ok (.getfield 192, 3) := by decide +kernel
theorem dX9_moves_4 : decode cX9_moves 4 = .ok (.ireturn, 1) := by decide +kernel
theorem dX9_price_0 : decode cX9_price 0 = .ok (.aload_n 0, 1) := by decide +kernel
theorem dX9_price_1 : decode cX9_price 1 = .ok (.iload_n 1, 1) := by decide +kernel
theorem dX9_price_2 : decode cX9_price 2 = .ok (.invokevirtual 90, 3) := by decide +kernel
theorem dX9_price_5 : decode cX9_price 5 = .ok (.ifCond .eq 15, 3) := by decide +kernel
theorem dX9_price_8 : decode cX9_price 8 = .ok (.iload_n 2, 1) := by decide +kernel
theorem dX9_price_9 : decode cX9_price 9 = .ok (.i2l, 1) := by decide +kernel
theorem dX9_price_10 : decode cX9_price 10 = .ok (.lconst 0, 1) := by decide +kernel
theorem dX9_price_11 : decode cX9_price 11 = .ok (.ldc2_w 201, 3) := by decide +kernel
theorem dX9_price_14 : decode cX9_price 14 = .ok (.invokestatic 81, 3) := by decide +kernel
theorem dX9_price_17 : decode cX9_price 17 = .ok (.ifCond .ne 5, 3) := by decide +kernel
theorem dX9_price_20 : decode cX9_price 20 = .ok (.iconst (-1), 1) := by decide +kernel
theorem dX9_price_21 : decode cX9_price 21 = .ok (.ireturn, 1) := by decide +kernel
theorem dX9_price_22 : decode cX9_price 22 = .ok (.aload_n 0, 1) := by decide +kernel
theorem dX9_price_23 : decode cX9_price 23 = .ok (.getfield 13, 3) := by decide +kernel
theorem dX9_price_26 : decode cX9_price 26 = .ok (.iload_n 1, 1) := by decide +kernel
theorem dX9_price_27 : decode cX9_price 27 = .ok (.iload_n 2, 1) := by decide +kernel
theorem dX9_price_28 : decode cX9_price 28 = .ok (.i2l, 1) := by decide +kernel
theorem dX9_price_29 : decode cX9_price 29 = .ok (.lastore, 1) := by decide +kernel
theorem dX9_price_30 : decode cX9_price 30 = .ok (.iconst 1, 1) := by decide +kernel
theorem dX9_price_31 : decode cX9_price 31 = .ok (.ireturn, 1) := by decide +kernel
theorem dX9_priced_0 : decode cX9_priced 0 = .ok (.aload_n 0, 1) := by decide +kernel
theorem dX9_priced_1 : decode cX9_priced 1 = .ok (.iload_n 1, 1) := by decide +kernel
theorem dX9_priced_2 : decode cX9_priced 2 = .ok (.invokevirtual 90, 3) := by decide +kernel
theorem dX9_priced_5 : decode cX9_priced 5 = .ok (.ifCond .eq 12, 3) := by decide +kernel
theorem dX9_priced_8 : decode cX9_priced 8 = .ok (.aload_n 0, 1) := by decide +kernel
theorem dX9_priced_9 : decode cX9_priced 9 = .ok (.getfield 13, 3) := by decide +kernel
theorem dX9_priced_12 : decode cX9_priced 12 = .ok (.iload_n 1, 1) := by decide +kernel
theorem dX9_priced_13 : decode cX9_priced 13 = .ok (.laload, 1) := by decide +kernel
theorem dX9_priced_14 : decode cX9_priced 14 = .ok (.goto 4, 3) := by decide +kernel
theorem dX9_priced_17 : decode cX9_priced 17 = .ok (.lconst 0, 1) := by decide +kernel
theorem dX9_priced_18 : decode cX9_priced 18 = .ok (.lreturn, 1) := by decide +kernel
theorem dX9_given_0 : decode cX9_given 0 = .ok (.aload_n 0, 1) := by decide +kernel
theorem dX9_given_1 : decode cX9_given 1 = .ok (.getfield 7, 3) := by decide +kernel
theorem dX9_given_4 : decode cX9_given 4 = .ok (.iload_n 2, 1) := by decide +kernel
theorem dX9_given_5 : decode cX9_given 5 = .ok (.iaload, 1) := by decide +kernel
theorem dX9_given_6 : decode cX9_given 6 = .ok (.ifCond .eq 14, 3) := by decide +kernel
theorem dX9_given_9 : decode cX9_given 9 = .ok (.aload_n 0, 1) := by decide +kernel
theorem dX9_given_10 : decode cX9_given 10 = .ok (.iload_n 1, 1) := by decide +kernel
theorem dX9_given_11 : decode cX9_given 11 = .ok (.iload_n 2, 1) := by decide +kernel
theorem dX9_given_12 : decode cX9_given 12 = .ok (.invokevirtual 115, 3) := by decide +kernel
theorem dX9_given_15 : decode cX9_given 15 = .ok (.bipush (-4), 2) := by decide +kernel
theorem dX9_given_17 : decode cX9_given 17 = .ok (.if_icmp .ne 5, 3) := by decide +kernel
theorem dX9_given_20 : decode cX9_given 20 = .ok (.lconst 0, 1) := by decide +kernel
theorem dX9_given_21 : decode cX9_given 21 = .ok (.lreturn, 1) := by decide +kernel
theorem dX9_given_22 : decode cX9_given 22 = .ok (.aload_n 0, 1) := by decide +kernel
theorem dX9_given_23 : decode cX9_given 23 = .ok (.getfield 13, 3) := by decide +kernel
theorem dX9_given_26 : decode cX9_given 26 = .ok (.iload_n 2, 1) := by decide +kernel
theorem dX9_given_27 : decode cX9_given 27 = .ok (.laload, 1) := by decide +kernel
theorem dX9_given_28 : decode cX9_given 28 = .ok (.aload_n 0, 1) := by decide +kernel
theorem dX9_given_29 : decode cX9_given 29 = .ok (.getfield 7, 3) := by decide +kernel
theorem dX9_given_32 : decode cX9_given 32 = .ok (.iload_n 2, 1) := by decide +kernel
theorem dX9_given_33 : decode cX9_given 33 = .ok (.iaload, 1) := by decide +kernel
theorem dX9_given_34 : decode cX9_given 34 = .ok (.i2l, 1) := by decide +kernel
theorem dX9_given_35 : decode cX9_given 35 = .ok (.aload_n 0, 1) := by decide +kernel
theorem dX9_given_36 : decode cX9_given 36 = .ok (.iload_n 1, 1) := by decide +kernel
theorem dX9_given_37 : decode cX9_given 37 = .ok (.iload_n 2, 1) := by decide +kernel
theorem dX9_given_38 : decode cX9_given 38 = .ok (.invokevirtual 115, 3) := by decide +kernel
theorem dX9_given_41 : decode cX9_given 41 = .ok (.i2l, 1) := by decide +kernel
theorem dX9_given_42 : decode cX9_given 42 = .ok (.lmul, 1) := by decide +kernel
theorem dX9_given_43 : decode cX9_given 43 = .ok (.lsub, 1) := by decide +kernel
theorem dX9_given_44 : decode cX9_given 44 = .ok (.lstore_n 3, 1) := by decide +kernel
theorem dX9_given_45 : decode cX9_given 45 = .ok (.lload_n 3, 1) := by decide +kernel
theorem dX9_given_46 : decode cX9_given 46 = .ok (.lconst 0, 1) := by decide +kernel
theorem dX9_given_47 : decode cX9_given 47 = .ok (.lcmp, 1) := by decide +kernel
theorem dX9_given_48 : decode cX9_given 48 = .ok (.ifCond .le 7, 3) := by decide +kernel
theorem dX9_given_51 : decode cX9_given 51 = .ok (.lload_n 3, 1) := by decide +kernel
theorem dX9_given_52 : decode cX9_given 52 = .ok (.goto 4, 3) := by decide +kernel
theorem dX9_given_55 : decode cX9_given 55 = .ok (.lconst 0, 1) := by decide +kernel
theorem dX9_given_56 : decode cX9_given 56 = .ok (.lreturn, 1) := by decide +kernel
theorem dX9_gives_0 : decode cX9_gives 0 = .ok (.aload_n 0, 1) := by decide +kernel
theorem dX9_gives_1 : decode cX9_gives 1 = .ok (.iload_n 1, 1) := by decide +kernel
theorem dX9_gives_2 : decode cX9_gives 2 = .ok (.invokevirtual 101, 3) := by decide +kernel
theorem dX9_gives_5 : decode cX9_gives 5 = .ok (.ifCond .eq 11, 3) := by decide +kernel
theorem dX9_gives_8 : decode cX9_gives 8 = .ok (.aload_n 0, 1) := by decide +kernel
theorem dX9_gives_9 : decode cX9_gives 9 = .ok (.iload_n 2, 1) := by decide +kernel
theorem dX9_gives_10 : decode cX9_gives 10 = .ok (.invokevirtual 90, 3) := by decide +kernel
theorem dX9_gives_13 : decode cX9_gives 13 = .ok (.ifCond .ne 7, 3) := by decide +kernel
theorem dX9_gives_16 : decode cX9_gives 16 = .ok (.ldc2_w 142, 3) := by decide +kernel
theorem dX9_gives_19 : decode cX9_gives 19 = .ok (.lreturn, 1) := by decide +kernel
theorem dX9_gives_20 : decode cX9_gives 20 = .ok (.aload_n 0, 1) := by decide +kernel
theorem dX9_gives_21 : decode cX9_gives 21 = .ok (.invokevirtual 112, 3) := by decide +kernel
theorem dX9_gives_24 : decode cX9_gives 24 = .ok (.aload_n 0, 1) := by decide +kernel
theorem dX9_gives_25 : decode cX9_gives 25 = .ok (.iload_n 1, 1) := by decide +kernel
theorem dX9_gives_26 : decode cX9_gives 26 = .ok (.iload_n 2, 1) := by decide +kernel
theorem dX9_gives_27 : decode cX9_gives 27 = .ok (.invokevirtual 203, 3) := by decide +kernel
theorem dX9_gives_30 : decode cX9_gives 30 = .ok (.lreturn, 1) := by decide +kernel
theorem dX9_worthOf_0 : decode cX9_worthOf 0 = .ok (.aload_n 0, 1) := by decide +kernel
theorem dX9_worthOf_1 : decode cX9_worthOf 1 = .ok (.iload_n 1, 1) := by decide +kernel
theorem dX9_worthOf_2 : decode cX9_worthOf 2 = .ok (.invokevirtual 129, 3) := by decide +kernel
theorem dX9_worthOf_5 : decode cX9_worthOf 5 = .ok (.ineg, 1) := by decide +kernel
theorem dX9_worthOf_6 : decode cX9_worthOf 6 = .ok (.i2l, 1) := by decide +kernel
theorem dX9_worthOf_7 : decode cX9_worthOf 7 = .ok (.lstore_n 2, 1) := by decide +kernel
theorem dX9_worthOf_8 : decode cX9_worthOf 8 = .ok (.iconst 0, 1) := by decide +kernel
theorem dX9_worthOf_9 : decode cX9_worthOf 9 = .ok (.istore 4, 2) := by decide +kernel
theorem dX9_worthOf_11 : decode cX9_worthOf 11 = .ok (.iload 4, 2) := by decide +kernel
theorem dX9_worthOf_13 : decode cX9_worthOf 13 = .ok (.aload_n 0, 1) := by decide +kernel
theorem dX9_worthOf_14 : decode cX9_worthOf 14 = .ok (.getfield 75, 3) := by decide +kernel
theorem dX9_worthOf_17 : decode cX9_worthOf 17 = .ok (.if_icmp .ge 19, 3) := by decide +kernel
theorem dX9_worthOf_20 : decode cX9_worthOf 20 = .ok (.lload_n 2, 1) := by decide +kernel
theorem dX9_worthOf_21 : decode cX9_worthOf 21 = .ok (.aload_n 0, 1) := by decide +kernel
theorem dX9_worthOf_22 : decode cX9_worthOf 22 = .ok (.iload_n 1, 1) := by decide +kernel
theorem dX9_worthOf_23 : decode cX9_worthOf 23 = .ok (.iload 4, 2) := by decide +kernel
theorem dX9_worthOf_25 : decode cX9_worthOf 25 = .ok (.invokevirtual 203, 3) := by decide +kernel
theorem dX9_worthOf_28 : decode cX9_worthOf 28 = .ok (.ladd, 1) := by decide +kernel
theorem dX9_worthOf_29 : decode cX9_worthOf 29 = .ok (.lstore_n 2, 1) := by decide +kernel
theorem dX9_worthOf_30 : decode cX9_worthOf 30 = .ok (.iinc 4 1, 3) := by decide +kernel
theorem dX9_worthOf_33 : decode cX9_worthOf 33 = .ok (.goto (-22), 3) := by decide +kernel
theorem dX9_worthOf_36 : decode cX9_worthOf 36 = .ok (.lload_n 2, 1) := by decide +kernel
theorem dX9_worthOf_37 : decode cX9_worthOf 37 = .ok (.lconst 0, 1) := by decide +kernel
theorem dX9_worthOf_38 : decode cX9_worthOf 38 = .ok (.lcmp, 1) := by decide +kernel
theorem dX9_worthOf_39 : decode cX9_worthOf 39 = .ok (.ifCond .ge 17, 3) := by decide +kernel
theorem dX9_worthOf_42 : decode cX9_worthOf 42 = .ok (.aload_n 0, 1) := by decide +kernel
theorem dX9_worthOf_43 : decode cX9_worthOf 43 = .ok (.getfield 23, 3) := by decide +kernel
theorem dX9_worthOf_46 : decode cX9_worthOf 46 = .ok (.iload_n 1, 1) := by decide +kernel
theorem dX9_worthOf_47 : decode cX9_worthOf 47 = .ok (.iaload, 1) := by decide +kernel
theorem dX9_worthOf_48 : decode cX9_worthOf 48 = .ok (.iconst 3, 1) := by decide +kernel
theorem dX9_worthOf_49 : decode cX9_worthOf 49 = .ok (.if_icmp .eq 7, 3) := by decide +kernel
theorem dX9_worthOf_52 : decode cX9_worthOf 52 = .ok (.lconst 0, 1) := by decide +kernel
theorem dX9_worthOf_53 : decode cX9_worthOf 53 = .ok (.goto 4, 3) := by decide +kernel
theorem dX9_worthOf_56 : decode cX9_worthOf 56 = .ok (.lload_n 2, 1) := by decide +kernel
theorem dX9_worthOf_57 : decode cX9_worthOf 57 = .ok (.lreturn, 1) := by decide +kernel
theorem dX9_worth_0 : decode cX9_worth 0 = .ok (.aload_n 0, 1) := by decide +kernel
theorem dX9_worth_1 : decode cX9_worth 1 = .ok (.iload_n 1, 1) := by decide +kernel
theorem dX9_worth_2 : decode cX9_worth 2 = .ok (.invokevirtual 101, 3) := by decide +kernel
theorem dX9_worth_5 : decode cX9_worth 5 = .ok (.ifCond .ne 5, 3) := by decide +kernel
theorem dX9_worth_8 : decode cX9_worth 8 = .ok (.lconst 0, 1) := by decide +kernel
theorem dX9_worth_9 : decode cX9_worth 9 = .ok (.lreturn, 1) := by decide +kernel
theorem dX9_worth_10 : decode cX9_worth 10 = .ok (.aload_n 0, 1) := by decide +kernel
theorem dX9_worth_11 : decode cX9_worth 11 = .ok (.invokevirtual 112, 3) := by decide +kernel
theorem dX9_worth_14 : decode cX9_worth 14 = .ok (.aload_n 0, 1) := by decide +kernel
theorem dX9_worth_15 : decode cX9_worth 15 = .ok (.iload_n 1, 1) := by decide +kernel
theorem dX9_worth_16 : decode cX9_worth 16 = .ok (.invokevirtual 207, 3) := by decide +kernel
theorem dX9_worth_19 : decode cX9_worth 19 = .ok (.lreturn, 1) := by decide +kernel
theorem dX9_findRichest_0 : decode cX9_findRichest 0 = .ok (.iconst 0, 1) := by decide +kernel
theorem dX9_findRichest_1 : decode cX9_findRichest 1 = .ok (.istore_n 1, 1) := by decide +kernel
theorem dX9_findRichest_2 : decode cX9_findRichest 2 = .ok (.iload_n 1, 1) := by decide +kernel
theorem dX9_findRichest_3 : decode cX9_findRichest 3 = .ok (.aload_n 0, 1) := by decide +kernel
theorem dX9_findRichest_4 : decode cX9_findRichest 4 = .ok (.getfield 78, 3) := by decide +kernel
theorem dX9_findRichest_7 : decode cX9_findRichest 7 = .ok (.if_icmp .ge 20, 3) := by decide +kernel
theorem dX9_findRichest_10 : decode cX9_findRichest 10 = .ok (.aload_n 0, 1) := by decide +kernel
theorem dX9_findRichest_11 : decode cX9_findRichest 11 = .ok (.getfield 69, 3) := by decide +kernel
theorem dX9_findRichest_14 : decode cX9_findRichest 14 = .ok (.iload_n 1, 1) := by decide +kernel
theorem dX9_findRichest_15 : decode cX9_findRichest 15 = .ok (.aload_n 0, 1) := by decide +kernel
theorem dX9_findRichest_16 : decode cX9_findRichest 16 = .ok (.iload_n 1, 1) := by decide +kernel
theorem dX9_findRichest_17 : decode cX9_findRichest 17 = .ok (.invokevirtual 207, 3) := by decide +kernel
theorem dX9_findRichest_20 : decode cX9_findRichest 20 = .ok (.lastore, 1) := by decide +kernel
theorem dX9_findRichest_21 : decode cX9_findRichest 21 = .ok (.iinc 1 1, 3) := by decide +kernel
theorem dX9_findRichest_24 : decode cX9_findRichest 24 = .ok (.goto (-22), 3) := by decide +kernel
theorem dX9_findRichest_27 : decode cX9_findRichest 27 = .ok (.aload_n 0, 1) := by decide +kernel
theorem dX9_findRichest_28 : decode cX9_findRichest 28 = .ok (.bipush (-4), 2) := by decide +kernel
theorem dX9_findRichest_30 : decode cX9_findRichest 30 = .ok (.putfield 211, 3) := by decide +kernel
theorem dX9_findRichest_33 : decode cX9_findRichest 33 = .ok (.aload_n 0, 1) := by decide +kernel
theorem dX9_findRichest_34 : decode cX9_findRichest 34 = .ok (.lconst 0, 1) := by decide +kernel
theorem dX9_findRichest_35 : decode cX9_findRichest 35 = .ok (.putfield 214, 3) := by decide +kernel
theorem dX9_findRichest_38 : decode cX9_findRichest 38 = .ok (.iconst 0, 1) := by decide +kernel
theorem dX9_findRichest_39 : decode cX9_findRichest 39 = .ok (.istore_n 1, 1) := by decide +kernel
theorem dX9_findRichest_40 : decode cX9_findRichest 40 = .ok (.iload_n 1, 1) := by decide +kernel
theorem dX9_findRichest_41 : decode cX9_findRichest 41 = .ok (.iconst 1, 1) := by decide +kernel
theorem dX9_findRichest_42 : decode cX9_findRichest 42 = .ok (.aload_n 0, 1) := by decide +kernel
theorem dX9_findRichest_43 : decode cX9_findRichest 43 = .ok (.getfield 78, 3) := by decide +kernel
theorem dX9_findRichest_46 : decode cX9_findRichest 46 = .ok (.ishl, 1) := by decide +kernel
theorem dX9_findRichest_47 : decode cX9_findRichest 47 = .ok (.if_icmp .ge 89, 3) := by decide +kernel
theorem dX9_findRichest_50 : decode cX9_findRichest 50 = .ok (.aload_n 0, 1) := by decide +kernel
theorem dX9_findRichest_51 : decode cX9_findRichest 51 = .ok (.iload_n 1, 1) := by decide +kernel
theorem dX9_findRichest_52 : decode cX9_findRichest 52 = .ok (.invokevirtual 139, 3) := by decide +kernel
theorem dX9_findRichest_55 : decode cX9_findRichest 55 = .ok (.ifCond .eq 75, 3) := by decide +kernel
theorem dX9_findRichest_58 : decode cX9_findRichest 58 = .ok (.lconst 0, 1) := by decide +kernel
theorem dX9_findRichest_59 : decode cX9_findRichest 59 = .ok (.lstore_n 2, 1) := by decide +kernel
theorem dX9_findRichest_60 : decode cX9_findRichest 60 = .ok (.iconst 0, 1) := by decide +kernel
theorem dX9_findRichest_61 : decode cX9_findRichest 61 = .ok (.istore 4, 2) := by decide +kernel
theorem dX9_findRichest_63 : decode cX9_findRichest 63 = .ok (.iload 4, 2) := by decide +kernel
theorem dX9_findRichest_65 : decode cX9_findRichest 65 = .ok (.aload_n 0, 1) := by decide +kernel
theorem dX9_findRichest_66 : decode cX9_findRichest 66 = .ok (.getfield 78, 3) := by decide +kernel
theorem dX9_findRichest_69 : decode cX9_findRichest 69 = .ok (.if_icmp .ge 33, 3) := by decide +kernel
theorem dX9_findRichest_72 : decode cX9_findRichest 72 = .ok (.lload_n 2, 1) := by decide +kernel
theorem dX9_findRichest_73 : decode cX9_findRichest 73 = .ok (.iload_n 1, 1) := by decide +kernel
theorem dX9_findRichest_74 : decode cX9_findRichest 74 = .ok (.iload 4, 2) := by decide +kernel
theorem dX9_findRichest_76 : decode cX9_findRichest 76 = .ok (.ishr, 1) := by decide +kernel
theorem dX9_findRichest_77 : decode cX9_findRichest 77 = .ok (.iconst 1, 1) := by decide +kernel
theorem dX9_findRichest_78 : decode cX9_findRichest 78 = .ok (.iand, 1) := by decide +kernel
theorem dX9_findRichest_79 : decode cX9_findRichest 79 = .ok (.iconst 1, 1) := by decide +kernel
theorem dX9_findRichest_80 : decode cX9_findRichest 80 = .ok (.if_icmp .ne 13, 3) := by decide +kernel
theorem dX9_findRichest_83 : decode cX9_findRichest 83 = .ok (.aload_n 0, 1) := by decide +kernel
theorem dX9_findRichest_84 : decode cX9_findRichest 84 = .ok (.getfield 69, 3) := by decide +kernel
theorem dX9_findRichest_87 : decode cX9_findRichest 87 = .ok (.iload 4, 2) := by decide +kernel
theorem dX9_findRichest_89 : decode cX9_findRichest 89 = .ok (.laload, 1) := by decide +kernel
theorem dX9_findRichest_90 : decode cX9_findRichest 90 = .ok (.goto 4, 3) := by decide +kernel
theorem dX9_findRichest_93 : decode cX9_findRichest 93 = .ok (.lconst 0, 1) := by decide +kernel
theorem dX9_findRichest_94 : decode cX9_findRichest 94 = .ok (.ladd, 1) := by decide +kernel
theorem dX9_findRichest_95 : decode cX9_findRichest 95 = .ok (.lstore_n 2, 1) := by decide +kernel
theorem dX9_findRichest_96 : decode cX9_findRichest 96 = .ok (.iinc 4 1, 3) := by decide +kernel
theorem dX9_findRichest_99 : decode cX9_findRichest 99 = .ok (.goto (-36), 3) := by decide +kernel
theorem dX9_findRichest_102 : decode cX9_findRichest 102 = .ok (.aload_n 0, 1) := by decide +kernel
theorem dX9_findRichest_103 : decode cX9_findRichest 103 = .ok (.getfield 211, 3) := by decide +kernel
theorem dX9_findRichest_106 : decode cX9_findRichest 106 = .ok (.bipush (-4), 2) := by decide +kernel
theorem dX9_findRichest_108 : decode cX9_findRichest 108 = .ok (.if_icmp .eq 12, 3) := by decide +kernel
theorem dX9_findRichest_111 : decode cX9_findRichest 111 = .ok (.lload_n 2, 1) := by decide +kernel
theorem dX9_findRichest_112 : decode cX9_findRichest 112 = .ok (.aload_n 0, 1) := by decide +kernel
theorem dX9_findRichest_113 : decode cX9_findRichest 113 = .ok (.getfield 214, 3) := by decide +kernel
theorem dX9_findRichest_116 : decode cX9_findRichest 116 = .ok (.lcmp, 1) := by decide +kernel
theorem dX9_findRichest_117 : decode cX9_findRichest 117 = .ok (.ifCond .le 13, 3) := by decide +kernel
theorem dX9_findRichest_120 : decode cX9_findRichest 120 = .ok (.aload_n 0, 1) := by decide +kernel
theorem dX9_findRichest_121 : decode cX9_findRichest 121 = .ok (.iload_n 1, 1) := by decide +kernel
theorem dX9_findRichest_122 : decode cX9_findRichest 122 = .ok (.putfield 211, 3) := by decide +kernel
theorem dX9_findRichest_125 : decode cX9_findRichest 125 = .ok (.aload_n 0, 1) := by decide +kernel
theorem dX9_findRichest_126 : decode cX9_findRichest 126 = .ok (.lload_n 2, 1) := by decide +kernel
theorem dX9_findRichest_127 : decode cX9_findRichest 127 = .ok (.putfield 214, 3) := by decide +kernel
theorem dX9_findRichest_130 : decode cX9_findRichest 130 = .ok (.iinc 1 1, 3) := by decide +kernel
theorem dX9_findRichest_133 : decode cX9_findRichest 133 = .ok (.goto (-93), 3) := by decide +kernel
theorem dX9_findRichest_136 : decode cX9_findRichest 136 = .ok (.return_, 1) := by decide +kernel
theorem dX9_boundNow_0 : decode cX9_boundNow 0 = .ok (.aload_n 0, 1) := by decide +kernel
theorem dX9_boundNow_1 : decode cX9_boundNow 1 = .ok (.invokevirtual 217, 3) := by decide +kernel
theorem dX9_boundNow_4 : decode cX9_boundNow 4 = .ok (.aload_n 0, 1) := by decide +kernel
theorem dX9_boundNow_5 : decode cX9_boundNow 5 = .ok (.getfield 211, 3) := by decide +kernel
theorem dX9_boundNow_8 : decode cX9_boundNow 8 = .ok (.bipush (-4), 2) := by decide +kernel
theorem dX9_boundNow_10 : decode cX9_boundNow 10 = .ok (.if_icmp .ne 7, 3) := by decide +kernel
theorem dX9_boundNow_13 : decode cX9_boundNow 13 = .ok (.ldc2_w 148, 3) := by decide +kernel
theorem dX9_boundNow_16 : decode cX9_boundNow 16 = .ok (.lreturn, 1) := by decide +kernel
theorem dX9_boundNow_17 : decode cX9_boundNow 17 = .ok (.aload_n 0, 1) := by decide +kernel
theorem dX9_boundNow_18 : decode cX9_boundNow 18 = .ok (.getfield 214, 3) := by decide +kernel
theorem dX9_boundNow_21 : decode cX9_boundNow 21 = .ok (.lneg, 1) := by decide +kernel
theorem dX9_boundNow_22 : decode cX9_boundNow 22 = .ok (.lstore_n 1, 1) := by decide +kernel
theorem dX9_boundNow_23 : decode cX9_boundNow 23 = .ok (.iconst 0, 1) := by decide +kernel
theorem dX9_boundNow_24 : decode cX9_boundNow 24 = .ok (.istore_n 3, 1) := by decide +kernel
theorem dX9_boundNow_25 : decode cX9_boundNow 25 = .ok (.iload_n 3, 1) := by decide +kernel
theorem dX9_boundNow_26 : decode cX9_boundNow 26 = .ok (.aload_n 0, 1) := by decide +kernel
theorem dX9_boundNow_27 : decode cX9_boundNow 27 = .ok (.getfield 75, 3) := by decide +kernel
theorem dX9_boundNow_30 : decode cX9_boundNow 30 = .ok (.if_icmp .ge 31, 3) := by decide +kernel
theorem dX9_boundNow_33 : decode cX9_boundNow 33 = .ok (.lload_n 1, 1) := by decide +kernel
theorem dX9_boundNow_34 : decode cX9_boundNow 34 = .ok (.aload_n 0, 1) := by decide +kernel
theorem dX9_boundNow_35 : decode cX9_boundNow 35 = .ok (.getfield 7, 3) := by decide +kernel
theorem dX9_boundNow_38 : decode cX9_boundNow 38 = .ok (.iload_n 3, 1) := by decide +kernel
theorem dX9_boundNow_39 : decode cX9_boundNow 39 = .ok (.iaload, 1) := by decide +kernel
theorem dX9_boundNow_40 : decode cX9_boundNow 40 = .ok (.ifCond .le 12, 3) := by decide +kernel
theorem dX9_boundNow_43 : decode cX9_boundNow 43 = .ok (.aload_n 0, 1) := by decide +kernel
theorem dX9_boundNow_44 : decode cX9_boundNow 44 = .ok (.getfield 13, 3) := by decide +kernel
theorem dX9_boundNow_47 : decode cX9_boundNow 47 = .ok (.iload_n 3, 1) := by decide +kernel
theorem dX9_boundNow_48 : decode cX9_boundNow 48 = .ok (.laload, 1) := by decide +kernel
theorem dX9_boundNow_49 : decode cX9_boundNow 49 = .ok (.goto 4, 3) := by decide +kernel
theorem dX9_boundNow_52 : decode cX9_boundNow 52 = .ok (.lconst 0, 1) := by decide +kernel
theorem dX9_boundNow_53 : decode cX9_boundNow 53 = .ok (.ladd, 1) := by decide +kernel
theorem dX9_boundNow_54 : decode cX9_boundNow 54 = .ok (.lstore_n 1, 1) := by decide +kernel
theorem dX9_boundNow_55 : decode cX9_boundNow 55 = .ok (.iinc 3 1, 3) := by decide +kernel
theorem dX9_boundNow_58 : decode cX9_boundNow 58 = .ok (.goto (-33), 3) := by decide +kernel
theorem dX9_boundNow_61 : decode cX9_boundNow 61 = .ok (.lload_n 1, 1) := by decide +kernel
theorem dX9_boundNow_62 : decode cX9_boundNow 62 = .ok (.lreturn, 1) := by decide +kernel
theorem dX9_bound_0 : decode cX9_bound 0 = .ok (.aload_n 0, 1) := by decide +kernel
theorem dX9_bound_1 : decode cX9_bound 1 = .ok (.invokevirtual 112, 3) := by decide +kernel
theorem dX9_bound_4 : decode cX9_bound 4 = .ok (.aload_n 0, 1) := by decide +kernel
theorem dX9_bound_5 : decode cX9_bound 5 = .ok (.invokevirtual 220, 3) := by decide +kernel
theorem dX9_bound_8 : decode cX9_bound 8 = .ok (.lreturn, 1) := by decide +kernel
theorem dX9_climb_0 : decode cX9_climb 0 = .ok (.iload_n 1, 1) := by decide +kernel
theorem dX9_climb_1 : decode cX9_climb 1 = .ok (.i2l, 1) := by decide +kernel
theorem dX9_climb_2 : decode cX9_climb 2 = .ok (.lconst 0, 1) := by decide +kernel
theorem dX9_climb_3 : decode cX9_climb 3 = .ok (.ldc2_w 224, 3) := by decide +kernel
theorem dX9_climb_6 : decode cX9_climb 6 = .ok (.invokestatic 81, 3) := by decide +kernel
theorem dX9_climb_9 : decode cX9_climb 9 = .ok (.ifCond .eq 15, 3) := by decide +kernel
theorem dX9_climb_12 : decode cX9_climb 12 = .ok (.iload_n 2, 1) := by decide +kernel
theorem dX9_climb_13 : decode cX9_climb 13 = .ok (.i2l, 1) := by decide +kernel
theorem dX9_climb_14 : decode cX9_climb 14 = .ok (.lconst 1, 1) := by decide +kernel
theorem dX9_climb_15 : decode cX9_climb 15 = .ok (.ldc2_w 99, 3) := by decide +kernel
theorem dX9_climb_18 : decode cX9_climb 18 = .ok (.invokestatic 81, 3) := by decide +kernel
theorem dX9_climb_21 : decode cX9_climb 21 = .ok (.ifCond .ne 5, 3) := by decide +kernel
theorem dX9_climb_24 : decode cX9_climb 24 = .ok (.iconst (-1), 1) := by decide +kernel
theorem dX9_climb_25 : decode cX9_climb 25 = .ok (.ireturn, 1) := by decide +kernel
theorem dX9_climb_26 : decode cX9_climb 26 = .ok (.aload_n 0, 1) := by decide +kernel
theorem dX9_climb_27 : decode cX9_climb 27 = .ok (.invokevirtual 112, 3) := by decide +kernel
theorem dX9_climb_30 : decode cX9_climb 30 = .ok (.aload_n 0, 1) := by decide +kernel
theorem dX9_climb_31 : decode cX9_climb 31 = .ok (.invokevirtual 217, 3) := by decide +kernel
theorem dX9_climb_34 : decode cX9_climb 34 = .ok (.aload_n 0, 1) := by decide +kernel
theorem dX9_climb_35 : decode cX9_climb 35 = .ok (.getfield 211, 3) := by decide +kernel
theorem dX9_climb_38 : decode cX9_climb 38 = .ok (.bipush (-4), 2) := by decide +kernel
theorem dX9_climb_40 : decode cX9_climb 40 = .ok (.if_icmp .ne 6, 3) := by decide +kernel
theorem dX9_climb_43 : decode cX9_climb 43 = .ok (.bipush (-2), 2) := by decide +kernel
theorem dX9_climb_45 : decode cX9_climb 45 = .ok (.ireturn, 1) := by decide +kernel
theorem dX9_climb_46 : decode cX9_climb 46 = .ok (.aload_n 0, 1) := by decide +kernel
theorem dX9_climb_47 : decode cX9_climb 47 = .ok (.aload_n 0, 1) := by decide +kernel
theorem dX9_climb_48 : decode cX9_climb 48 = .ok (.invokevirtual 220, 3) := by decide +kernel
theorem dX9_climb_51 : decode cX9_climb 51 = .ok (.putfield 226, 3) := by decide +kernel
theorem dX9_climb_54 : decode cX9_climb 54 = .ok (.iconst 0, 1) := by decide +kernel
theorem dX9_climb_55 : decode cX9_climb 55 = .ok (.istore_n 3, 1) := by decide +kernel
theorem dX9_climb_56 : decode cX9_climb 56 = .ok (.iconst 0, 1) := by decide +kernel
theorem dX9_climb_57 : decode cX9_climb 57 = .ok (.istore 4, 2) := by decide +kernel
theorem dX9_climb_59 : decode cX9_climb 59 = .ok (.iload 4, 2) := by decide +kernel
theorem dX9_climb_61 : decode cX9_climb 61 = .ok (.iload_n 1, 1) := by decide +kernel
theorem dX9_climb_62 : decode cX9_climb 62 = .ok (.if_icmp .ge 227, 3) := by decide +kernel
theorem dX9_climb_65 : decode cX9_climb 65 = .ok (.aload_n 0, 1) := by decide +kernel
theorem dX9_climb_66 : decode cX9_climb 66 = .ok (.invokevirtual 217, 3) := by decide +kernel
theorem dX9_climb_69 : decode cX9_climb 69 = .ok (.iconst 0, 1) := by decide +kernel
theorem dX9_climb_70 : decode cX9_climb 70 = .ok (.istore 5, 2) := by decide +kernel
theorem dX9_climb_72 : decode cX9_climb 72 = .ok (.iload 5, 2) := by decide +kernel
theorem dX9_climb_74 : decode cX9_climb 74 = .ok (.aload_n 0, 1) := by decide +kernel
theorem dX9_climb_75 : decode cX9_climb 75 = .ok (.getfield 75, 3) := by decide +kernel
theorem dX9_climb_78 : decode cX9_climb 78 = .ok (.if_icmp .ge 176, 3) := by decide +kernel
theorem dX9_climb_81 : decode cX9_climb 81 = .ok (.iconst 0, 1) := by decide +kernel
theorem dX9_climb_82 : decode cX9_climb 82 = .ok (.istore 6, 2) := by decide +kernel
theorem dX9_climb_84 : decode cX9_climb 84 = .ok (.iconst 0, 1) := by decide +kernel
theorem dX9_climb_85 : decode cX9_climb 85 = .ok (.istore 7, 2) := by decide +kernel
theorem dX9_climb_87 : decode cX9_climb 87 = .ok (.iload 7, 2) := by decide +kernel
theorem dX9_climb_89 : decode cX9_climb 89 = .ok (.aload_n 0, 1) := by decide +kernel
theorem dX9_climb_90 : decode cX9_climb 90 = .ok (.getfield 78, 3) := by decide +kernel
theorem dX9_climb_93 : decode cX9_climb 93 = .ok (.if_icmp .ge 45, 3) := by decide +kernel
theorem dX9_climb_96 : decode cX9_climb 96 = .ok (.iload 6, 2) := by decide +kernel
theorem dX9_climb_98 : decode cX9_climb 98 = .ok (.aload_n 0, 1) := by decide +kernel
theorem dX9_climb_99 : decode cX9_climb 99 = .ok (.getfield 211, 3) := by decide +kernel
theorem dX9_climb_102 : decode cX9_climb 102 = .ok (.iload 7, 2) := by decide +kernel
theorem dX9_climb_104 : decode cX9_climb 104 = .ok (.ishr, 1) := by decide +kernel
theorem dX9_climb_105 : decode cX9_climb 105 = .ok (.iconst 1, 1) := by decide +kernel
theorem dX9_climb_106 : decode cX9_climb 106 = .ok (.iand, 1) := by decide +kernel
theorem dX9_climb_107 : decode cX9_climb 107 = .ok (.iconst 1, 1) := by decide +kernel
theorem dX9_climb_108 : decode cX9_climb 108 = .ok (.if_icmp .ne 20, 3) := by decide +kernel
theorem dX9_climb_111 : decode cX9_climb 111 = .ok (.aload_n 0, 1) := by decide +kernel
theorem dX9_climb_112 : decode cX9_climb 112 = .ok (.iload 7, 2) := by decide +kernel
theorem dX9_climb_114 : decode cX9_climb 114 = .ok (.iload 5, 2) := by decide +kernel
theorem dX9_climb_116 : decode cX9_climb 116 = .ok (.invokevirtual 203, 3) := by decide +kernel
theorem dX9_climb_119 : decode cX9_climb 119 = .ok (.lconst 0, 1) := by decide +kernel
theorem dX9_climb_120 : decode cX9_climb 120 = .ok (.lcmp, 1) := by decide +kernel
theorem dX9_climb_121 : decode cX9_climb 121 = .ok (.ifCond .le 7, 3) := by decide +kernel
theorem dX9_climb_124 : decode cX9_climb 124 = .ok (.iconst 1, 1) := by decide +kernel
theorem dX9_climb_125 : decode cX9_climb 125 = .ok (.goto 4, 3) := by decide +kernel
theorem dX9_climb_128 : decode cX9_climb 128 = .ok (.iconst 0, 1) := by decide +kernel
theorem dX9_climb_129 : decode cX9_climb 129 = .ok (.iadd, 1) := by decide +kernel
theorem dX9_climb_130 : decode cX9_climb 130 = .ok (.istore 6, 2) := by decide +kernel
theorem dX9_climb_132 : decode cX9_climb 132 = .ok (.iinc 7 1, 3) := by decide +kernel
theorem dX9_climb_135 : decode cX9_climb 135 = .ok (.goto (-48), 3) := by decide +kernel
theorem dX9_climb_138 : decode cX9_climb 138 = .ok (.aload_n 0, 1) := by decide +kernel
theorem dX9_climb_139 : decode cX9_climb 139 = .ok (.getfield 13, 3) := by decide +kernel
theorem dX9_climb_142 : decode cX9_climb 142 = .ok (.iload 5, 2) := by decide +kernel
theorem dX9_climb_144 : decode cX9_climb 144 = .ok (.laload, 1) := by decide +kernel
theorem dX9_climb_145 : decode cX9_climb 145 = .ok (.lstore 7, 2) := by decide +kernel
theorem dX9_climb_147 : decode cX9_climb 147 = .ok (.aload_n 0, 1) := by decide +kernel
theorem dX9_climb_148 : decode cX9_climb 148 = .ok (.getfield 7, 3) := by decide +kernel
theorem dX9_climb_151 : decode cX9_climb 151 = .ok (.iload 5, 2) := by decide +kernel
theorem dX9_climb_153 : decode cX9_climb 153 = .ok (.iaload, 1) := by decide +kernel
theorem dX9_climb_154 : decode cX9_climb 154 = .ok (.ifCond .le 64, 3) := by decide +kernel
theorem dX9_climb_157 : decode cX9_climb 157 = .ok (.iload 6, 2) := by decide +kernel
theorem dX9_climb_159 : decode cX9_climb 159 = .ok (.ifCond .ne 11, 3) := by decide +kernel
theorem dX9_climb_162 : decode cX9_climb 162 = .ok (.lload 7, 2) := by decide +kernel
theorem dX9_climb_164 : decode cX9_climb 164 = .ok (.iload_n 2, 1) := by decide +kernel
theorem dX9_climb_165 : decode cX9_climb 165 = .ok (.i2l, 1) := by decide +kernel
theorem dX9_climb_166 : decode cX9_climb 166 = .ok (.ladd, 1) := by decide +kernel
theorem dX9_climb_167 : decode cX9_climb 167 = .ok (.goto 19, 3) := by decide +kernel
theorem dX9_climb_170 : decode cX9_climb 170 = .ok (.iload 6, 2) := by decide +kernel
theorem dX9_climb_172 : decode cX9_climb 172 = .ok (.iconst 1, 1) := by decide +kernel
theorem dX9_climb_173 : decode cX9_climb 173 = .ok (.if_icmp .le 11, 3) := by decide +kernel
theorem dX9_climb_176 : decode cX9_climb 176 = .ok (.lload 7, 2) := by decide +kernel
theorem dX9_climb_178 : decode cX9_climb 178 = .ok (.iload_n 2, 1) := by decide +kernel
theorem dX9_climb_179 : decode cX9_climb 179 = .ok (.i2l, 1) := by decide +kernel
theorem dX9_climb_180 : decode cX9_climb 180 = .ok (.lsub, 1) := by decide +kernel
theorem dX9_climb_181 : decode cX9_climb 181 = .ok (.goto 5, 3) := by decide +kernel
theorem dX9_climb_184 : decode cX9_climb 184 = .ok (.lload 7, 2) := by decide +kernel
theorem dX9_climb_186 : decode cX9_climb 186 = .ok (.lstore 7, 2) := by decide +kernel
theorem dX9_climb_188 : decode cX9_climb 188 = .ok (.lload 7, 2) := by decide +kernel
theorem dX9_climb_190 : decode cX9_climb 190 = .ok (.lconst 0, 1) := by decide +kernel
theorem dX9_climb_191 : decode cX9_climb 191 = .ok (.lcmp, 1) := by decide +kernel
theorem dX9_climb_192 : decode cX9_climb 192 = .ok (.ifCond .ge 7, 3) := by decide +kernel
theorem dX9_climb_195 : decode cX9_climb 195 = .ok (.lconst 0, 1) := by decide +kernel
theorem dX9_climb_196 : decode cX9_climb 196 = .ok (.goto 20, 3) := by decide +kernel
theorem dX9_climb_199 : decode cX9_climb 199 = .ok (.lload 7, 2) := by decide +kernel
theorem dX9_climb_201 : decode cX9_climb 201 = .ok (.ldc2_w 201, 3) := by decide +kernel
theorem dX9_climb_204 : decode cX9_climb 204 = .ok (.lcmp, 1) := by decide +kernel
theorem dX9_climb_205 : decode cX9_climb 205 = .ok (.ifCond .le 9, 3) := by decide +kernel
theorem dX9_climb_208 : decode cX9_climb 208 = .ok (.ldc2_w 201, 3) := by decide +kernel
theorem dX9_climb_211 : decode cX9_climb 211 = .ok (.goto 5, 3) := by decide +kernel
theorem dX9_climb_214 : decode cX9_climb 214 = .ok (.lload 7, 2) := by decide +kernel
theorem dX9_climb_216 : decode cX9_climb 216 = .ok (.lstore 7, 2) := by decide +kernel
theorem dX9_climb_218 : decode cX9_climb 218 = .ok (.iload_n 3, 1) := by decide +kernel
theorem dX9_climb_219 : decode cX9_climb 219 = .ok (.lload 7, 2) := by decide +kernel
theorem dX9_climb_221 : decode cX9_climb 221 = .ok (.aload_n 0, 1) := by decide +kernel
theorem dX9_climb_222 : decode cX9_climb 222 = .ok (.getfield 13, 3) := by decide +kernel
theorem dX9_climb_225 : decode cX9_climb 225 = .ok (.iload 5, 2) := by decide +kernel
theorem dX9_climb_227 : decode cX9_climb 227 = .ok (.laload, 1) := by decide +kernel
theorem dX9_climb_228 : decode cX9_climb 228 = .ok (.lcmp, 1) := by decide +kernel
theorem dX9_climb_229 : decode cX9_climb 229 = .ok (.ifCond .eq 7, 3) := by decide +kernel
theorem dX9_climb_232 : decode cX9_climb 232 = .ok (.iconst 1, 1) := by decide +kernel
theorem dX9_climb_233 : decode cX9_climb 233 = .ok (.goto 4, 3) := by decide +kernel
theorem dX9_climb_236 : decode cX9_climb 236 = .ok (.iconst 0, 1) := by decide +kernel
theorem dX9_climb_237 : decode cX9_climb 237 = .ok (.iadd, 1) := by decide +kernel
theorem dX9_climb_238 : decode cX9_climb 238 = .ok (.istore_n 3, 1) := by decide +kernel
theorem dX9_climb_239 : decode cX9_climb 239 = .ok (.aload_n 0, 1) := by decide +kernel
theorem dX9_climb_240 : decode cX9_climb 240 = .ok (.getfield 13, 3) := by decide +kernel
theorem dX9_climb_243 : decode cX9_climb 243 = .ok (.iload 5, 2) := by decide +kernel
theorem dX9_climb_245 : decode cX9_climb 245 = .ok (.lload 7, 2) := by decide +kernel
theorem dX9_climb_247 : decode cX9_climb 247 = .ok (.lastore, 1) := by decide +kernel
theorem dX9_climb_248 : decode cX9_climb 248 = .ok (.iinc 5 1, 3) := by decide +kernel
theorem dX9_climb_251 : decode cX9_climb 251 = .ok (.goto (-179), 3) := by decide +kernel
theorem dX9_climb_254 : decode cX9_climb 254 = .ok (.aload_n 0, 1) := by decide +kernel
theorem dX9_climb_255 : decode cX9_climb 255 = .ok (.invokevirtual 220, 3) := by decide +kernel
theorem dX9_climb_258 : decode cX9_climb 258 = .ok (.lstore 5, 2) := by decide +kernel
theorem dX9_climb_260 : decode cX9_climb 260 = .ok (.aload_n 0, 1) := by decide +kernel
theorem dX9_climb_261 : decode cX9_climb 261 = .ok (.lload 5, 2) := by decide +kernel
theorem dX9_climb_263 : decode cX9_climb 263 = .ok (.aload_n 0, 1) := by decide +kernel
theorem dX9_climb_264 : decode cX9_climb 264 = .ok (.getfield 226, 3) := by decide +kernel
theorem dX9_climb_267 : decode cX9_climb 267 = .ok (.lcmp, 1) := by decide +kernel
theorem dX9_climb_268 : decode cX9_climb 268 = .ok (.ifCond .le 8, 3) := by decide +kernel
theorem dX9_climb_271 : decode cX9_climb 271 = .ok (.lload 5, 2) := by decide +kernel
theorem dX9_climb_273 : decode cX9_climb 273 = .ok (.goto 7, 3) := by decide +kernel
theorem dX9_climb_276 : decode cX9_climb 276 = .ok (.aload_n 0, 1) := by decide +kernel
theorem dX9_climb_277 : decode cX9_climb 277 = .ok (.getfield 226, 3) := by decide +kernel
theorem dX9_climb_280 : decode cX9_climb 280 = .ok (.putfield 226, 3) := by decide +kernel
theorem dX9_climb_283 : decode cX9_climb 283 = .ok (.iinc 4 1, 3) := by decide +kernel
theorem dX9_climb_286 : decode cX9_climb 286 = .ok (.goto (-227), 3) := by decide +kernel
theorem dX9_climb_289 : decode cX9_climb 289 = .ok (.iload_n 3, 1) := by decide +kernel
theorem dX9_climb_290 : decode cX9_climb 290 = .ok (.ireturn, 1) := by decide +kernel
theorem dX9_highest_0 : decode cX9_highest 0 = .ok (.aload_n 0, 1) := by decide +kernel
theorem dX9_highest_1 : decode cX9_highest 1 = .ok (.getfield 226, 3) := by decide +kernel
theorem dX9_highest_4 : decode cX9_highest 4 = .ok (.lreturn, 1) := by decide +kernel
theorem dX9_count_0 : decode cX9_count 0 = .ok (.iconst 0, 1) := by decide +kernel
theorem dX9_count_1 : decode cX9_count 1 = .ok (.istore_n 2, 1) := by decide +kernel
theorem dX9_count_2 : decode cX9_count 2 = .ok (.iload_n 1, 1) := by decide +kernel
theorem dX9_count_3 : decode cX9_count 3 = .ok (.tableswitch 182 0 5 #[37, 42, 47, 114, 119, 146], 37) := by decide +kernel
theorem dX9_count_40 : decode cX9_count 40 = .ok (.aload_n 0, 1) := by decide +kernel
theorem dX9_count_41 : decode cX9_count 41 = .ok (.getfield 75, 3) := by decide +kernel
theorem dX9_count_44 : decode cX9_count 44 = .ok (.ireturn, 1) := by decide +kernel
theorem dX9_count_45 : decode cX9_count 45 = .ok (.aload_n 0, 1) := by decide +kernel
theorem dX9_count_46 : decode cX9_count 46 = .ok (.getfield 78, 3) := by decide +kernel
theorem dX9_count_49 : decode cX9_count 49 = .ok (.ireturn, 1) := by decide +kernel
theorem dX9_count_50 : decode cX9_count 50 = .ok (.iconst 0, 1) := by decide +kernel
theorem dX9_count_51 : decode cX9_count 51 = .ok (.istore_n 3, 1) := by decide +kernel
theorem dX9_count_52 : decode cX9_count 52 = .ok (.iload_n 3, 1) := by decide +kernel
theorem dX9_count_53 : decode cX9_count 53 = .ok (.sipush 144, 3) := by decide +kernel
theorem dX9_count_56 : decode cX9_count 56 = .ok (.if_icmp .ge 59, 3) := by decide +kernel
theorem dX9_count_59 : decode cX9_count 59 = .ok (.iload_n 2, 1) := by decide +kernel
theorem dX9_count_60 : decode cX9_count 60 = .ok (.iload_n 3, 1) := by decide +kernel
theorem dX9_count_61 : decode cX9_count 61 = .ok (.bipush 12, 2) := by decide +kernel
theorem dX9_count_63 : decode cX9_count 63 = .ok (.idiv, 1) := by decide +kernel
theorem dX9_count_64 : decode cX9_count 64 = .ok (.iload_n 3, 1) := by decide +kernel
theorem dX9_count_65 : decode cX9_count 65 = .ok (.bipush 12, 2) := by decide +kernel
theorem dX9_count_67 : decode cX9_count 67 = .ok (.irem, 1) := by decide +kernel
theorem dX9_count_68 : decode cX9_count 68 = .ok (.if_icmp .ge 38, 3) := by decide +kernel
theorem dX9_count_71 : decode cX9_count 71 = .ok (.iload_n 3, 1) := by decide +kernel
theorem dX9_count_72 : decode cX9_count 72 = .ok (.bipush 12, 2) := by decide +kernel
theorem dX9_count_74 : decode cX9_count 74 = .ok (.idiv, 1) := by decide +kernel
theorem dX9_count_75 : decode cX9_count 75 = .ok (.aload_n 0, 1) := by decide +kernel
theorem dX9_count_76 : decode cX9_count 76 = .ok (.getfield 75, 3) := by decide +kernel
theorem dX9_count_79 : decode cX9_count 79 = .ok (.if_icmp .ge 27, 3) := by decide +kernel
theorem dX9_count_82 : decode cX9_count 82 = .ok (.iload_n 3, 1) := by decide +kernel
theorem dX9_count_83 : decode cX9_count 83 = .ok (.bipush 12, 2) := by decide +kernel
theorem dX9_count_85 : decode cX9_count 85 = .ok (.irem, 1) := by decide +kernel
theorem dX9_count_86 : decode cX9_count 86 = .ok (.aload_n 0, 1) := by decide +kernel
theorem dX9_count_87 : decode cX9_count 87 = .ok (.getfield 75, 3) := by decide +kernel
theorem dX9_count_90 : decode cX9_count 90 = .ok (.if_icmp .ge 16, 3) := by decide +kernel
theorem dX9_count_93 : decode cX9_count 93 = .ok (.aload_n 0, 1) := by decide +kernel
theorem dX9_count_94 : decode cX9_count 94 = .ok (.getfield 17, 3) := by decide +kernel
theorem dX9_count_97 : decode cX9_count 97 = .ok (.iload_n 3, 1) := by decide +kernel
theorem dX9_count_98 : decode cX9_count 98 = .ok (.iaload, 1) := by decide +kernel
theorem dX9_count_99 : decode cX9_count 99 = .ok (.ifCond .le 7, 3) := by decide +kernel
theorem dX9_count_102 : decode cX9_count 102 = .ok (.iconst 1, 1) := by decide +kernel
theorem dX9_count_103 : decode cX9_count 103 = .ok (.goto 4, 3) := by decide +kernel
theorem dX9_count_106 : decode cX9_count 106 = .ok (.iconst 0, 1) := by decide +kernel
theorem dX9_count_107 : decode cX9_count 107 = .ok (.iadd, 1) := by decide +kernel
theorem dX9_count_108 : decode cX9_count 108 = .ok (.istore_n 2, 1) := by decide +kernel
theorem dX9_count_109 : decode cX9_count 109 = .ok (.iinc 3 1, 3) := by decide +kernel
theorem dX9_count_112 : decode cX9_count 112 = .ok (.goto (-60), 3) := by decide +kernel
theorem dX9_count_115 : decode cX9_count 115 = .ok (.iload_n 2, 1) := by decide +kernel
theorem dX9_count_116 : decode cX9_count 116 = .ok (.ireturn, 1) := by decide +kernel
theorem dX9_count_117 : decode cX9_count 117 = .ok (.aload_n 0, 1) := by decide +kernel
theorem dX9_count_118 : decode cX9_count 118 = .ok (.getfield 32, 3) := by decide +kernel
theorem dX9_count_121 : decode cX9_count 121 = .ok (.ireturn, 1) := by decide +kernel
theorem dX9_count_122 : decode cX9_count 122 = .ok (.iconst 0, 1) := by decide +kernel
theorem dX9_count_123 : decode cX9_count 123 = .ok (.istore_n 3, 1) := by decide +kernel
theorem dX9_count_124 : decode cX9_count 124 = .ok (.iload_n 3, 1) := by decide +kernel
theorem dX9_count_125 : decode cX9_count 125 = .ok (.aload_n 0, 1) := by decide +kernel
theorem dX9_count_126 : decode cX9_count 126 = .ok (.getfield 75, 3) := by decide +kernel
theorem dX9_count_129 : decode cX9_count 129 = .ok (.if_icmp .ge 18, 3) := by decide +kernel
theorem dX9_count_132 : decode cX9_count 132 = .ok (.iload_n 2, 1) := by decide +kernel
theorem dX9_count_133 : decode cX9_count 133 = .ok (.aload_n 0, 1) := by decide +kernel
theorem dX9_count_134 : decode cX9_count 134 = .ok (.getfield 7, 3) := by decide +kernel
theorem dX9_count_137 : decode cX9_count 137 = .ok (.iload_n 3, 1) := by decide +kernel
theorem dX9_count_138 : decode cX9_count 138 = .ok (.iaload, 1) := by decide +kernel
theorem dX9_count_139 : decode cX9_count 139 = .ok (.iadd, 1) := by decide +kernel
theorem dX9_count_140 : decode cX9_count 140 = .ok (.istore_n 2, 1) := by decide +kernel
theorem dX9_count_141 : decode cX9_count 141 = .ok (.iinc 3 1, 3) := by decide +kernel
theorem dX9_count_144 : decode cX9_count 144 = .ok (.goto (-20), 3) := by decide +kernel
theorem dX9_count_147 : decode cX9_count 147 = .ok (.iload_n 2, 1) := by decide +kernel
theorem dX9_count_148 : decode cX9_count 148 = .ok (.ireturn, 1) := by decide +kernel
theorem dX9_count_149 : decode cX9_count 149 = .ok (.iconst 0, 1) := by decide +kernel
theorem dX9_count_150 : decode cX9_count 150 = .ok (.istore_n 3, 1) := by decide +kernel
theorem dX9_count_151 : decode cX9_count 151 = .ok (.iload_n 3, 1) := by decide +kernel
theorem dX9_count_152 : decode cX9_count 152 = .ok (.aload_n 0, 1) := by decide +kernel
theorem dX9_count_153 : decode cX9_count 153 = .ok (.getfield 78, 3) := by decide +kernel
theorem dX9_count_156 : decode cX9_count 156 = .ok (.if_icmp .ge 27, 3) := by decide +kernel
theorem dX9_count_159 : decode cX9_count 159 = .ok (.iload_n 2, 1) := by decide +kernel
theorem dX9_count_160 : decode cX9_count 160 = .ok (.aload_n 0, 1) := by decide +kernel
theorem dX9_count_161 : decode cX9_count 161 = .ok (.getfield 23, 3) := by decide +kernel
theorem dX9_count_164 : decode cX9_count 164 = .ok (.iload_n 3, 1) := by decide +kernel
theorem dX9_count_165 : decode cX9_count 165 = .ok (.iaload, 1) := by decide +kernel
theorem dX9_count_166 : decode cX9_count 166 = .ok (.iconst 3, 1) := by decide +kernel
theorem dX9_count_167 : decode cX9_count 167 = .ok (.if_icmp .ne 7, 3) := by decide +kernel
theorem dX9_count_170 : decode cX9_count 170 = .ok (.iconst 1, 1) := by decide +kernel
theorem dX9_count_171 : decode cX9_count 171 = .ok (.goto 4, 3) := by decide +kernel
theorem dX9_count_174 : decode cX9_count 174 = .ok (.iconst 0, 1) := by decide +kernel
theorem dX9_count_175 : decode cX9_count 175 = .ok (.iadd, 1) := by decide +kernel
theorem dX9_count_176 : decode cX9_count 176 = .ok (.istore_n 2, 1) := by decide +kernel
theorem dX9_count_177 : decode cX9_count 177 = .ok (.iinc 3 1, 3) := by decide +kernel
theorem dX9_count_180 : decode cX9_count 180 = .ok (.goto (-29), 3) := by decide +kernel
theorem dX9_count_183 : decode cX9_count 183 = .ok (.iload_n 2, 1) := by decide +kernel
theorem dX9_count_184 : decode cX9_count 184 = .ok (.ireturn, 1) := by decide +kernel
theorem dX9_count_185 : decode cX9_count 185 = .ok (.iconst (-1), 1) := by decide +kernel
theorem dX9_count_186 : decode cX9_count 186 = .ok (.ireturn, 1) := by decide +kernel
end
section
theorem dL_law_0 : decode cL_law 0 = .ok (.new 7, 3) := by decide +kernel
theorem dL_law_3 : decode cL_law 3 = .ok (.dup, 1) := by decide +kernel
theorem dL_law_4 : decode cL_law 4 = .ok (.invokespecial 9, 3) := by decide +kernel
theorem dL_law_7 : decode cL_law 7 = .ok (.astore_n 1, 1) := by decide +kernel
theorem dL_law_8 : decode cL_law 8 = .ok (.new 10, 3) := by decide +kernel
theorem dL_law_11 : decode cL_law 11 = .ok (.dup, 1) := by decide +kernel
theorem dL_law_12 : decode cL_law 12 = .ok (.invokespecial 12, 3) := by decide +kernel
theorem dL_law_15 : decode cL_law 15 = .ok (.astore_n 2, 1) := by decide +kernel
theorem dL_law_16 : decode cL_law 16 = .ok (.iconst 0, 1) := by decide +kernel
theorem dL_law_17 : decode cL_law 17 = .ok (.istore_n 3, 1) := by decide +kernel
theorem dL_law_18 : decode cL_law 18 = .ok (.iload_n 3, 1) := by decide +kernel
theorem dL_law_19 : decode cL_law 19 = .ok (.aload_n 0, 1) := by decide +kernel
theorem dL_law_20 : decode cL_law 20 = .ok (.arraylength, 1) := by decide +kernel
theorem dL_law_21 : decode cL_law 21 = .ok (.iconst 5, 1) := by decide +kernel
theorem dL_law_22 : decode cL_law 22 = .ok (.isub, 1) := by decide +kernel
theorem dL_law_23 : decode cL_law 23 = .ok (.if_icmp .gt 1141, 3) := by decide +kernel
theorem dL_law_26 : decode cL_law 26 = .ok (.aload_n 0, 1) := by decide +kernel
theorem dL_law_27 : decode cL_law 27 = .ok (.iload_n 3, 1) := by decide +kernel
theorem dL_law_28 : decode cL_law 28 = .ok (.iaload, 1) := by decide +kernel
theorem dL_law_29 : decode cL_law 29 = .ok (.bipush 63, 2) := by decide +kernel
theorem dL_law_31 : decode cL_law 31 = .ok (.iand, 1) := by decide +kernel
theorem dL_law_32 : decode cL_law 32 = .ok (.tableswitch 1126 0 35 #[160, 183, 216, 259, 302, 335, 358, 401, 474, 517, 550, 593, 616, 640, 673, 716, 730, 743, 756, 779, 802, 826, 839, 852, 865, 878, 901, 914, 947, 971, 1005, 1029, 1043, 1076, 1090, 1103], 160) := by decide +kernel
theorem dL_law_192 : decode cL_law 192 = .ok (.aload_n 1, 1) := by decide +kernel
theorem dL_law_193 : decode cL_law 193 = .ok (.aload_n 0, 1) := by decide +kernel
theorem dL_law_194 : decode cL_law 194 = .ok (.iload_n 3, 1) := by decide +kernel
theorem dL_law_195 : decode cL_law 195 = .ok (.iconst 1, 1) := by decide +kernel
theorem dL_law_196 : decode cL_law 196 = .ok (.iadd, 1) := by decide +kernel
theorem dL_law_197 : decode cL_law 197 = .ok (.iaload, 1) := by decide +kernel
theorem dL_law_198 : decode cL_law 198 = .ok (.invokevirtual 13, 3) := by decide +kernel
theorem dL_law_201 : decode cL_law 201 = .ok (.aload_n 2, 1) := by decide +kernel
theorem dL_law_202 : decode cL_law 202 = .ok (.aload_n 0, 1) := by decide +kernel
theorem dL_law_203 : decode cL_law 203 = .ok (.iload_n 3, 1) := by decide +kernel
theorem dL_law_204 : decode cL_law 204 = .ok (.iconst 1, 1) := by decide +kernel
theorem dL_law_205 : decode cL_law 205 = .ok (.iadd, 1) := by decide +kernel
theorem dL_law_206 : decode cL_law 206 = .ok (.iaload, 1) := by decide +kernel
theorem dL_law_207 : decode cL_law 207 = .ok (.invokevirtual 17, 3) := by decide +kernel
theorem dL_law_210 : decode cL_law 210 = .ok (.if_icmp .eq 948, 3) := by decide +kernel
theorem dL_law_213 : decode cL_law 213 = .ok (.iconst 0, 1) := by decide +kernel
theorem dL_law_214 : decode cL_law 214 = .ok (.ireturn, 1) := by decide +kernel
theorem dL_law_215 : decode cL_law 215 = .ok (.aload_n 1, 1) := by decide +kernel
theorem dL_law_216 : decode cL_law 216 = .ok (.aload_n 0, 1) := by decide +kernel
theorem dL_law_217 : decode cL_law 217 = .ok (.iload_n 3, 1) := by decide +kernel
theorem dL_law_218 : decode cL_law 218 = .ok (.iconst 1, 1) := by decide +kernel
theorem dL_law_219 : decode cL_law 219 = .ok (.iadd, 1) := by decide +kernel
theorem dL_law_220 : decode cL_law 220 = .ok (.iaload, 1) := by decide +kernel
theorem dL_law_221 : decode cL_law 221 = .ok (.aload_n 0, 1) := by decide +kernel
theorem dL_law_222 : decode cL_law 222 = .ok (.iload_n 3, 1) := by decide +kernel
theorem dL_law_223 : decode cL_law 223 = .ok (.iconst 2, 1) := by decide +kernel
theorem dL_law_224 : decode cL_law 224 = .ok (.iadd, 1) := by decide +kernel
theorem dL_law_225 : decode cL_law 225 = .ok (.iaload, 1) := by decide +kernel
theorem dL_law_226 : decode cL_law 226 = .ok (.invokevirtual 18, 3) := by decide +kernel
theorem dL_law_229 : decode cL_law 229 = .ok (.aload_n 2, 1) := by decide +kernel
theorem dL_law_230 : decode cL_law 230 = .ok (.aload_n 0, 1) := by decide +kernel
theorem dL_law_231 : decode cL_law 231 = .ok (.iload_n 3, 1) := by decide +kernel
theorem dL_law_232 : decode cL_law 232 = .ok (.iconst 1, 1) := by decide +kernel
theorem dL_law_233 : decode cL_law 233 = .ok (.iadd, 1) := by decide +kernel
theorem dL_law_234 : decode cL_law 234 = .ok (.iaload, 1) := by decide +kernel
theorem dL_law_235 : decode cL_law 235 = .ok (.aload_n 0, 1) := by decide +kernel
theorem dL_law_236 : decode cL_law 236 = .ok (.iload_n 3, 1) := by decide +kernel
theorem dL_law_237 : decode cL_law 237 = .ok (.iconst 2, 1) := by decide +kernel
theorem dL_law_238 : decode cL_law 238 = .ok (.iadd, 1) := by decide +kernel
theorem dL_law_239 : decode cL_law 239 = .ok (.iaload, 1) := by decide +kernel
theorem dL_law_240 : decode cL_law 240 = .ok (.invokevirtual 22, 3) := by decide +kernel
theorem dL_law_243 : decode cL_law 243 = .ok (.if_icmp .eq 915, 3) := by decide +kernel
theorem dL_law_246 : decode cL_law 246 = .ok (.iconst 0, 1) := by decide +kernel
theorem dL_law_247 : decode cL_law 247 = .ok (.ireturn, 1) := by decide +kernel
theorem dL_law_248 : decode cL_law 248 = .ok (.aload_n 1, 1) := by decide +kernel
theorem dL_law_249 : decode cL_law 249 = .ok (.aload_n 0, 1) := by decide +kernel
theorem dL_law_250 : decode cL_law 250 = .ok (.iload_n 3, 1) := by decide +kernel
theorem dL_law_251 : decode cL_law 251 = .ok (.iconst 1, 1) := by decide +kernel
theorem dL_law_252 : decode cL_law 252 = .ok (.iadd, 1) := by decide +kernel
theorem dL_law_253 : decode cL_law 253 = .ok (.iaload, 1) := by decide +kernel
theorem dL_law_254 : decode cL_law 254 = .ok (.aload_n 0, 1) := by decide +kernel
theorem dL_law_255 : decode cL_law 255 = .ok (.iload_n 3, 1) := by decide +kernel
theorem dL_law_256 : decode cL_law 256 = .ok (.iconst 2, 1) := by decide +kernel
theorem dL_law_257 : decode cL_law 257 = .ok (.iadd, 1) := by decide +kernel
theorem dL_law_258 : decode cL_law 258 = .ok (.iaload, 1) := by decide +kernel
theorem dL_law_259 : decode cL_law 259 = .ok (.aload_n 0, 1) := by decide +kernel
theorem dL_law_260 : decode cL_law 260 = .ok (.iload_n 3, 1) := by decide +kernel
theorem dL_law_261 : decode cL_law 261 = .ok (.iconst 3, 1) := by decide +kernel
theorem dL_law_262 : decode cL_law 262 = .ok (.iadd, 1) := by decide +kernel
theorem dL_law_263 : decode cL_law 263 = .ok (.iaload, 1) := by decide +kernel
theorem dL_law_264 : decode cL_law 264 = .ok (.invokevirtual 23, 3) := by decide +kernel
theorem dL_law_267 : decode cL_law 267 = .ok (.aload_n 2, 1) := by decide +kernel
theorem dL_law_268 : decode cL_law 268 = .ok (.aload_n 0, 1) := by decide +kernel
theorem dL_law_269 : decode cL_law 269 = .ok (.iload_n 3, 1) := by decide +kernel
theorem dL_law_270 : decode cL_law 270 = .ok (.iconst 1, 1) := by decide +kernel
theorem dL_law_271 : decode cL_law 271 = .ok (.iadd, 1) := by decide +kernel
theorem dL_law_272 : decode cL_law 272 = .ok (.iaload, 1) := by decide +kernel
theorem dL_law_273 : decode cL_law 273 = .ok (.aload_n 0, 1) := by decide +kernel
theorem dL_law_274 : decode cL_law 274 = .ok (.iload_n 3, 1) := by decide +kernel
theorem dL_law_275 : decode cL_law 275 = .ok (.iconst 2, 1) := by decide +kernel
theorem dL_law_276 : decode cL_law 276 = .ok (.iadd, 1) := by decide +kernel
theorem dL_law_277 : decode cL_law 277 = .ok (.iaload, 1) := by decide +kernel
theorem dL_law_278 : decode cL_law 278 = .ok (.aload_n 0, 1) := by decide +kernel
theorem dL_law_279 : decode cL_law 279 = .ok (.iload_n 3, 1) := by decide +kernel
theorem dL_law_280 : decode cL_law 280 = .ok (.iconst 3, 1) := by decide +kernel
theorem dL_law_281 : decode cL_law 281 = .ok (.iadd, 1) := by decide +kernel
theorem dL_law_282 : decode cL_law 282 = .ok (.iaload, 1) := by decide +kernel
theorem dL_law_283 : decode cL_law 283 = .ok (.invokevirtual 27, 3) := by decide +kernel
theorem dL_law_286 : decode cL_law 286 = .ok (.if_icmp .eq 872, 3) := by decide +kernel
theorem dL_law_289 : decode cL_law 289 = .ok (.iconst 0, 1) := by decide +kernel
theorem dL_law_290 : decode cL_law 290 = .ok (.ireturn, 1) := by decide +kernel
theorem dL_law_291 : decode cL_law 291 = .ok (.aload_n 1, 1) := by decide +kernel
theorem dL_law_292 : decode cL_law 292 = .ok (.aload_n 0, 1) := by decide +kernel
theorem dL_law_293 : decode cL_law 293 = .ok (.iload_n 3, 1) := by decide +kernel
theorem dL_law_294 : decode cL_law 294 = .ok (.iconst 1, 1) := by decide +kernel
theorem dL_law_295 : decode cL_law 295 = .ok (.iadd, 1) := by decide +kernel
theorem dL_law_296 : decode cL_law 296 = .ok (.iaload, 1) := by decide +kernel
theorem dL_law_297 : decode cL_law 297 = .ok (.aload_n 0, 1) := by decide +kernel
theorem dL_law_298 : decode cL_law 298 = .ok (.iload_n 3, 1) := by decide +kernel
theorem dL_law_299 : decode cL_law 299 = .ok (.iconst 2, 1) := by decide +kernel
theorem dL_law_300 : decode cL_law 300 = .ok (.iadd, 1) := by decide +kernel
theorem dL_law_301 : decode cL_law 301 = .ok (.iaload, 1) := by decide +kernel
theorem dL_law_302 : decode cL_law 302 = .ok (.aload_n 0, 1) := by decide +kernel
theorem dL_law_303 : decode cL_law 303 = .ok (.iload_n 3, 1) := by decide +kernel
theorem dL_law_304 : decode cL_law 304 = .ok (.iconst 3, 1) := by decide +kernel
theorem dL_law_305 : decode cL_law 305 = .ok (.iadd, 1) := by decide +kernel
theorem dL_law_306 : decode cL_law 306 = .ok (.iaload, 1) := by decide +kernel
theorem dL_law_307 : decode cL_law 307 = .ok (.invokevirtual 28, 3) := by decide +kernel
theorem dL_law_310 : decode cL_law 310 = .ok (.aload_n 2, 1) := by decide +kernel
theorem dL_law_311 : decode cL_law 311 = .ok (.aload_n 0, 1) := by decide +kernel
theorem dL_law_312 : decode cL_law 312 = .ok (.iload_n 3, 1) := by decide +kernel
theorem dL_law_313 : decode cL_law 313 = .ok (.iconst 1, 1) := by decide +kernel
theorem dL_law_314 : decode cL_law 314 = .ok (.iadd, 1) := by decide +kernel
theorem dL_law_315 : decode cL_law 315 = .ok (.iaload, 1) := by decide +kernel
theorem dL_law_316 : decode cL_law 316 = .ok (.aload_n 0, 1) := by decide +kernel
theorem dL_law_317 : decode cL_law 317 = .ok (.iload_n 3, 1) := by decide +kernel
theorem dL_law_318 : decode cL_law 318 = .ok (.iconst 2, 1) := by decide +kernel
theorem dL_law_319 : decode cL_law 319 = .ok (.iadd, 1) := by decide +kernel
theorem dL_law_320 : decode cL_law 320 = .ok (.iaload, 1) := by decide +kernel
theorem dL_law_321 : decode cL_law 321 = .ok (.aload_n 0, 1) := by decide +kernel
theorem dL_law_322 : decode cL_law 322 = .ok (.iload_n 3, 1) := by decide +kernel
theorem dL_law_323 : decode cL_law 323 = .ok (.iconst 3, 1) := by decide +kernel
theorem dL_law_324 : decode cL_law 324 = .ok (.iadd, 1) := by decide +kernel
theorem dL_law_325 : decode cL_law 325 = .ok (.iaload, 1) := by decide +kernel
theorem dL_law_326 : decode cL_law 326 = .ok (.invokevirtual 31, 3) := by decide +kernel
theorem dL_law_329 : decode cL_law 329 = .ok (.if_icmp .eq 829, 3) := by decide +kernel
theorem dL_law_332 : decode cL_law 332 = .ok (.iconst 0, 1) := by decide +kernel
theorem dL_law_333 : decode cL_law 333 = .ok (.ireturn, 1) := by decide +kernel
theorem dL_law_334 : decode cL_law 334 = .ok (.aload_n 1, 1) := by decide +kernel
theorem dL_law_335 : decode cL_law 335 = .ok (.aload_n 0, 1) := by decide +kernel
theorem dL_law_336 : decode cL_law 336 = .ok (.iload_n 3, 1) := by decide +kernel
theorem dL_law_337 : decode cL_law 337 = .ok (.iconst 1, 1) := by decide +kernel
theorem dL_law_338 : decode cL_law 338 = .ok (.iadd, 1) := by decide +kernel
theorem dL_law_339 : decode cL_law 339 = .ok (.iaload, 1) := by decide +kernel
theorem dL_law_340 : decode cL_law 340 = .ok (.aload_n 0, 1) := by decide +kernel
theorem dL_law_341 : decode cL_law 341 = .ok (.iload_n 3, 1) := by decide +kernel
theorem dL_law_342 : decode cL_law 342 = .ok (.iconst 2, 1) := by decide +kernel
theorem dL_law_343 : decode cL_law 343 = .ok (.iadd, 1) := by decide +kernel
theorem dL_law_344 : decode cL_law 344 = .ok (.iaload, 1) := by decide +kernel
theorem dL_law_345 : decode cL_law 345 = .ok (.invokevirtual 32, 3) := by decide +kernel
theorem dL_law_348 : decode cL_law 348 = .ok (.aload_n 2, 1) := by decide +kernel
theorem dL_law_349 : decode cL_law 349 = .ok (.aload_n 0, 1) := by decide +kernel
theorem dL_law_350 : decode cL_law 350 = .ok (.iload_n 3, 1) := by decide +kernel
theorem dL_law_351 : decode cL_law 351 = .ok (.iconst 1, 1) := by decide +kernel
theorem dL_law_352 : decode cL_law 352 = .ok (.iadd, 1) := by decide +kernel
theorem dL_law_353 : decode cL_law 353 = .ok (.iaload, 1) := by decide +kernel
theorem dL_law_354 : decode cL_law 354 = .ok (.aload_n 0, 1) := by decide +kernel
theorem dL_law_355 : decode cL_law 355 = .ok (.iload_n 3, 1) := by decide +kernel
theorem dL_law_356 : decode cL_law 356 = .ok (.iconst 2, 1) := by decide +kernel
theorem dL_law_357 : decode cL_law 357 = .ok (.iadd, 1) := by decide +kernel
theorem dL_law_358 : decode cL_law 358 = .ok (.iaload, 1) := by decide +kernel
theorem dL_law_359 : decode cL_law 359 = .ok (.invokevirtual 35, 3) := by decide +kernel
theorem dL_law_362 : decode cL_law 362 = .ok (.if_icmp .eq 796, 3) := by decide +kernel
theorem dL_law_365 : decode cL_law 365 = .ok (.iconst 0, 1) := by decide +kernel
theorem dL_law_366 : decode cL_law 366 = .ok (.ireturn, 1) := by decide +kernel
theorem dL_law_367 : decode cL_law 367 = .ok (.aload_n 1, 1) := by decide +kernel
theorem dL_law_368 : decode cL_law 368 = .ok (.aload_n 0, 1) := by decide +kernel
theorem dL_law_369 : decode cL_law 369 = .ok (.iload_n 3, 1) := by decide +kernel
theorem dL_law_370 : decode cL_law 370 = .ok (.iconst 1, 1) := by decide +kernel
theorem dL_law_371 : decode cL_law 371 = .ok (.iadd, 1) := by decide +kernel
theorem dL_law_372 : decode cL_law 372 = .ok (.iaload, 1) := by decide +kernel
theorem dL_law_373 : decode cL_law 373 = .ok (.invokevirtual 36, 3) := by decide +kernel
theorem dL_law_376 : decode cL_law 376 = .ok (.aload_n 2, 1) := by decide +kernel
theorem dL_law_377 : decode cL_law 377 = .ok (.aload_n 0, 1) := by decide +kernel
theorem dL_law_378 : decode cL_law 378 = .ok (.iload_n 3, 1) := by decide +kernel
theorem dL_law_379 : decode cL_law 379 = .ok (.iconst 1, 1) := by decide +kernel
theorem dL_law_380 : decode cL_law 380 = .ok (.iadd, 1) := by decide +kernel
theorem dL_law_381 : decode cL_law 381 = .ok (.iaload, 1) := by decide +kernel
theorem dL_law_382 : decode cL_law 382 = .ok (.invokevirtual 39, 3) := by decide +kernel
theorem dL_law_385 : decode cL_law 385 = .ok (.if_icmp .eq 773, 3) := by decide +kernel
theorem dL_law_388 : decode cL_law 388 = .ok (.iconst 0, 1) := by decide +kernel
theorem dL_law_389 : decode cL_law 389 = .ok (.ireturn, 1) := by decide +kernel
theorem dL_law_390 : decode cL_law 390 = .ok (.aload_n 1, 1) := by decide +kernel
theorem dL_law_391 : decode cL_law 391 = .ok (.aload_n 0, 1) := by decide +kernel
theorem dL_law_392 : decode cL_law 392 = .ok (.iload_n 3, 1) := by decide +kernel
theorem dL_law_393 : decode cL_law 393 = .ok (.iconst 1, 1) := by decide +kernel
theorem dL_law_394 : decode cL_law 394 = .ok (.iadd, 1) := by decide +kernel
theorem dL_law_395 : decode cL_law 395 = .ok (.iaload, 1) := by decide +kernel
theorem dL_law_396 : decode cL_law 396 = .ok (.aload_n 0, 1) := by decide +kernel
theorem dL_law_397 : decode cL_law 397 = .ok (.iload_n 3, 1) := by decide +kernel
theorem dL_law_398 : decode cL_law 398 = .ok (.iconst 2, 1) := by decide +kernel
theorem dL_law_399 : decode cL_law 399 = .ok (.iadd, 1) := by decide +kernel
theorem dL_law_400 : decode cL_law 400 = .ok (.iaload, 1) := by decide +kernel
theorem dL_law_401 : decode cL_law 401 = .ok (.aload_n 0, 1) := by decide +kernel
theorem dL_law_402 : decode cL_law 402 = .ok (.iload_n 3, 1) := by decide +kernel
theorem dL_law_403 : decode cL_law 403 = .ok (.iconst 3, 1) := by decide +kernel
theorem dL_law_404 : decode cL_law 404 = .ok (.iadd, 1) := by decide +kernel
theorem dL_law_405 : decode cL_law 405 = .ok (.iaload, 1) := by decide +kernel
theorem dL_law_406 : decode cL_law 406 = .ok (.invokevirtual 40, 3) := by decide +kernel
theorem dL_law_409 : decode cL_law 409 = .ok (.aload_n 2, 1) := by decide +kernel
theorem dL_law_410 : decode cL_law 410 = .ok (.aload_n 0, 1) := by decide +kernel
theorem dL_law_411 : decode cL_law 411 = .ok (.iload_n 3, 1) := by decide +kernel
theorem dL_law_412 : decode cL_law 412 = .ok (.iconst 1, 1) := by decide +kernel
theorem dL_law_413 : decode cL_law 413 = .ok (.iadd, 1) := by decide +kernel
theorem dL_law_414 : decode cL_law 414 = .ok (.iaload, 1) := by decide +kernel
theorem dL_law_415 : decode cL_law 415 = .ok (.aload_n 0, 1) := by decide +kernel
theorem dL_law_416 : decode cL_law 416 = .ok (.iload_n 3, 1) := by decide +kernel
theorem dL_law_417 : decode cL_law 417 = .ok (.iconst 2, 1) := by decide +kernel
theorem dL_law_418 : decode cL_law 418 = .ok (.iadd, 1) := by decide +kernel
theorem dL_law_419 : decode cL_law 419 = .ok (.iaload, 1) := by decide +kernel
theorem dL_law_420 : decode cL_law 420 = .ok (.aload_n 0, 1) := by decide +kernel
theorem dL_law_421 : decode cL_law 421 = .ok (.iload_n 3, 1) := by decide +kernel
theorem dL_law_422 : decode cL_law 422 = .ok (.iconst 3, 1) := by decide +kernel
theorem dL_law_423 : decode cL_law 423 = .ok (.iadd, 1) := by decide +kernel
theorem dL_law_424 : decode cL_law 424 = .ok (.iaload, 1) := by decide +kernel
theorem dL_law_425 : decode cL_law 425 = .ok (.invokevirtual 43, 3) := by decide +kernel
theorem dL_law_428 : decode cL_law 428 = .ok (.if_icmp .eq 730, 3) := by decide +kernel
theorem dL_law_431 : decode cL_law 431 = .ok (.iconst 0, 1) := by decide +kernel
theorem dL_law_432 : decode cL_law 432 = .ok (.ireturn, 1) := by decide +kernel
theorem dL_law_433 : decode cL_law 433 = .ok (.aload_n 1, 1) := by decide +kernel
theorem dL_law_434 : decode cL_law 434 = .ok (.aload_n 0, 1) := by decide +kernel
theorem dL_law_435 : decode cL_law 435 = .ok (.iload_n 3, 1) := by decide +kernel
theorem dL_law_436 : decode cL_law 436 = .ok (.iconst 1, 1) := by decide +kernel
theorem dL_law_437 : decode cL_law 437 = .ok (.iadd, 1) := by decide +kernel
theorem dL_law_438 : decode cL_law 438 = .ok (.iaload, 1) := by decide +kernel
theorem dL_law_439 : decode cL_law 439 = .ok (.aload_n 0, 1) := by decide +kernel
theorem dL_law_440 : decode cL_law 440 = .ok (.iload_n 3, 1) := by decide +kernel
theorem dL_law_441 : decode cL_law 441 = .ok (.iconst 2, 1) := by decide +kernel
theorem dL_law_442 : decode cL_law 442 = .ok (.iadd, 1) := by decide +kernel
theorem dL_law_443 : decode cL_law 443 = .ok (.iaload, 1) := by decide +kernel
theorem dL_law_444 : decode cL_law 444 = .ok (.aload_n 0, 1) := by decide +kernel
theorem dL_law_445 : decode cL_law 445 = .ok (.iload_n 3, 1) := by decide +kernel
theorem dL_law_446 : decode cL_law 446 = .ok (.iconst 3, 1) := by decide +kernel
theorem dL_law_447 : decode cL_law 447 = .ok (.iadd, 1) := by decide +kernel
theorem dL_law_448 : decode cL_law 448 = .ok (.iaload, 1) := by decide +kernel
theorem dL_law_449 : decode cL_law 449 = .ok (.i2l, 1) := by decide +kernel
theorem dL_law_450 : decode cL_law 450 = .ok (.bipush 32, 2) := by decide +kernel
theorem dL_law_452 : decode cL_law 452 = .ok (.lshl, 1) := by decide +kernel
theorem dL_law_453 : decode cL_law 453 = .ok (.aload_n 0, 1) := by decide +kernel
theorem dL_law_454 : decode cL_law 454 = .ok (.iload_n 3, 1) := by decide +kernel
theorem dL_law_455 : decode cL_law 455 = .ok (.iconst 4, 1) := by decide +kernel
theorem dL_law_456 : decode cL_law 456 = .ok (.iadd, 1) := by decide +kernel
theorem dL_law_457 : decode cL_law 457 = .ok (.iaload, 1) := by decide +kernel
theorem dL_law_458 : decode cL_law 458 = .ok (.i2l, 1) := by decide +kernel
theorem dL_law_459 : decode cL_law 459 = .ok (.ldc2_w 44, 3) := by decide +kernel
theorem dL_law_462 : decode cL_law 462 = .ok (.land, 1) := by decide +kernel
theorem dL_law_463 : decode cL_law 463 = .ok (.lor, 1) := by decide +kernel
theorem dL_law_464 : decode cL_law 464 = .ok (.invokevirtual 46, 3) := by decide +kernel
theorem dL_law_467 : decode cL_law 467 = .ok (.aload_n 2, 1) := by decide +kernel
theorem dL_law_468 : decode cL_law 468 = .ok (.aload_n 0, 1) := by decide +kernel
theorem dL_law_469 : decode cL_law 469 = .ok (.iload_n 3, 1) := by decide +kernel
theorem dL_law_470 : decode cL_law 470 = .ok (.iconst 1, 1) := by decide +kernel
theorem dL_law_471 : decode cL_law 471 = .ok (.iadd, 1) := by decide +kernel
theorem dL_law_472 : decode cL_law 472 = .ok (.iaload, 1) := by decide +kernel
theorem dL_law_473 : decode cL_law 473 = .ok (.aload_n 0, 1) := by decide +kernel
theorem dL_law_474 : decode cL_law 474 = .ok (.iload_n 3, 1) := by decide +kernel
theorem dL_law_475 : decode cL_law 475 = .ok (.iconst 2, 1) := by decide +kernel
theorem dL_law_476 : decode cL_law 476 = .ok (.iadd, 1) := by decide +kernel
theorem dL_law_477 : decode cL_law 477 = .ok (.iaload, 1) := by decide +kernel
theorem dL_law_478 : decode cL_law 478 = .ok (.aload_n 0, 1) := by decide +kernel
theorem dL_law_479 : decode cL_law 479 = .ok (.iload_n 3, 1) := by decide +kernel
theorem dL_law_480 : decode cL_law 480 = .ok (.iconst 3, 1) := by decide +kernel
theorem dL_law_481 : decode cL_law 481 = .ok (.iadd, 1) := by decide +kernel
theorem dL_law_482 : decode cL_law 482 = .ok (.iaload, 1) := by decide +kernel
theorem dL_law_483 : decode cL_law 483 = .ok (.i2l, 1) := by decide +kernel
theorem dL_law_484 : decode cL_law 484 = .ok (.bipush 32, 2) := by decide +kernel
theorem dL_law_486 : decode cL_law 486 = .ok (.lshl, 1) := by decide +kernel
theorem dL_law_487 : decode cL_law 487 = .ok (.aload_n 0, 1) := by decide +kernel
theorem dL_law_488 : decode cL_law 488 = .ok (.iload_n 3, 1) := by decide +kernel
theorem dL_law_489 : decode cL_law 489 = .ok (.iconst 4, 1) := by decide +kernel
theorem dL_law_490 : decode cL_law 490 = .ok (.iadd, 1) := by decide +kernel
theorem dL_law_491 : decode cL_law 491 = .ok (.iaload, 1) := by decide +kernel
theorem dL_law_492 : decode cL_law 492 = .ok (.i2l, 1) := by decide +kernel
theorem dL_law_493 : decode cL_law 493 = .ok (.ldc2_w 44, 3) := by decide +kernel
theorem dL_law_496 : decode cL_law 496 = .ok (.land, 1) := by decide +kernel
theorem dL_law_497 : decode cL_law 497 = .ok (.lor, 1) := by decide +kernel
theorem dL_law_498 : decode cL_law 498 = .ok (.invokevirtual 50, 3) := by decide +kernel
theorem dL_law_501 : decode cL_law 501 = .ok (.if_icmp .eq 657, 3) := by decide +kernel
theorem dL_law_504 : decode cL_law 504 = .ok (.iconst 0, 1) := by decide +kernel
theorem dL_law_505 : decode cL_law 505 = .ok (.ireturn, 1) := by decide +kernel
theorem dL_law_506 : decode cL_law 506 = .ok (.aload_n 1, 1) := by decide +kernel
theorem dL_law_507 : decode cL_law 507 = .ok (.aload_n 0, 1) := by decide +kernel
theorem dL_law_508 : decode cL_law 508 = .ok (.iload_n 3, 1) := by decide +kernel
theorem dL_law_509 : decode cL_law 509 = .ok (.iconst 1, 1) := by decide +kernel
theorem dL_law_510 : decode cL_law 510 = .ok (.iadd, 1) := by decide +kernel
theorem dL_law_511 : decode cL_law 511 = .ok (.iaload, 1) := by decide +kernel
theorem dL_law_512 : decode cL_law 512 = .ok (.aload_n 0, 1) := by decide +kernel
theorem dL_law_513 : decode cL_law 513 = .ok (.iload_n 3, 1) := by decide +kernel
theorem dL_law_514 : decode cL_law 514 = .ok (.iconst 2, 1) := by decide +kernel
theorem dL_law_515 : decode cL_law 515 = .ok (.iadd, 1) := by decide +kernel
theorem dL_law_516 : decode cL_law 516 = .ok (.iaload, 1) := by decide +kernel
theorem dL_law_517 : decode cL_law 517 = .ok (.aload_n 0, 1) := by decide +kernel
theorem dL_law_518 : decode cL_law 518 = .ok (.iload_n 3, 1) := by decide +kernel
theorem dL_law_519 : decode cL_law 519 = .ok (.iconst 3, 1) := by decide +kernel
theorem dL_law_520 : decode cL_law 520 = .ok (.iadd, 1) := by decide +kernel
theorem dL_law_521 : decode cL_law 521 = .ok (.iaload, 1) := by decide +kernel
theorem dL_law_522 : decode cL_law 522 = .ok (.invokevirtual 51, 3) := by decide +kernel
theorem dL_law_525 : decode cL_law 525 = .ok (.aload_n 2, 1) := by decide +kernel
theorem dL_law_526 : decode cL_law 526 = .ok (.aload_n 0, 1) := by decide +kernel
theorem dL_law_527 : decode cL_law 527 = .ok (.iload_n 3, 1) := by decide +kernel
theorem dL_law_528 : decode cL_law 528 = .ok (.iconst 1, 1) := by decide +kernel
theorem dL_law_529 : decode cL_law 529 = .ok (.iadd, 1) := by decide +kernel
theorem dL_law_530 : decode cL_law 530 = .ok (.iaload, 1) := by decide +kernel
theorem dL_law_531 : decode cL_law 531 = .ok (.aload_n 0, 1) := by decide +kernel
theorem dL_law_532 : decode cL_law 532 = .ok (.iload_n 3, 1) := by decide +kernel
theorem dL_law_533 : decode cL_law 533 = .ok (.iconst 2, 1) := by decide +kernel
theorem dL_law_534 : decode cL_law 534 = .ok (.iadd, 1) := by decide +kernel
theorem dL_law_535 : decode cL_law 535 = .ok (.iaload, 1) := by decide +kernel
theorem dL_law_536 : decode cL_law 536 = .ok (.aload_n 0, 1) := by decide +kernel
theorem dL_law_537 : decode cL_law 537 = .ok (.iload_n 3, 1) := by decide +kernel
theorem dL_law_538 : decode cL_law 538 = .ok (.iconst 3, 1) := by decide +kernel
theorem dL_law_539 : decode cL_law 539 = .ok (.iadd, 1) := by decide +kernel
theorem dL_law_540 : decode cL_law 540 = .ok (.iaload, 1) := by decide +kernel
theorem dL_law_541 : decode cL_law 541 = .ok (.invokevirtual 54, 3) := by decide +kernel
theorem dL_law_544 : decode cL_law 544 = .ok (.if_icmp .eq 614, 3) := by decide +kernel
theorem dL_law_547 : decode cL_law 547 = .ok (.iconst 0, 1) := by decide +kernel
theorem dL_law_548 : decode cL_law 548 = .ok (.ireturn, 1) := by decide +kernel
theorem dL_law_549 : decode cL_law 549 = .ok (.aload_n 1, 1) := by decide +kernel
theorem dL_law_550 : decode cL_law 550 = .ok (.aload_n 0, 1) := by decide +kernel
theorem dL_law_551 : decode cL_law 551 = .ok (.iload_n 3, 1) := by decide +kernel
theorem dL_law_552 : decode cL_law 552 = .ok (.iconst 1, 1) := by decide +kernel
theorem dL_law_553 : decode cL_law 553 = .ok (.iadd, 1) := by decide +kernel
theorem dL_law_554 : decode cL_law 554 = .ok (.iaload, 1) := by decide +kernel
theorem dL_law_555 : decode cL_law 555 = .ok (.aload_n 0, 1) := by decide +kernel
theorem dL_law_556 : decode cL_law 556 = .ok (.iload_n 3, 1) := by decide +kernel
theorem dL_law_557 : decode cL_law 557 = .ok (.iconst 2, 1) := by decide +kernel
theorem dL_law_558 : decode cL_law 558 = .ok (.iadd, 1) := by decide +kernel
theorem dL_law_559 : decode cL_law 559 = .ok (.iaload, 1) := by decide +kernel
theorem dL_law_560 : decode cL_law 560 = .ok (.invokevirtual 55, 3) := by decide +kernel
theorem dL_law_563 : decode cL_law 563 = .ok (.aload_n 2, 1) := by decide +kernel
theorem dL_law_564 : decode cL_law 564 = .ok (.aload_n 0, 1) := by decide +kernel
theorem dL_law_565 : decode cL_law 565 = .ok (.iload_n 3, 1) := by decide +kernel
theorem dL_law_566 : decode cL_law 566 = .ok (.iconst 1, 1) := by decide +kernel
theorem dL_law_567 : decode cL_law 567 = .ok (.iadd, 1) := by decide +kernel
theorem dL_law_568 : decode cL_law 568 = .ok (.iaload, 1) := by decide +kernel
theorem dL_law_569 : decode cL_law 569 = .ok (.aload_n 0, 1) := by decide +kernel
theorem dL_law_570 : decode cL_law 570 = .ok (.iload_n 3, 1) := by decide +kernel
theorem dL_law_571 : decode cL_law 571 = .ok (.iconst 2, 1) := by decide +kernel
theorem dL_law_572 : decode cL_law 572 = .ok (.iadd, 1) := by decide +kernel
theorem dL_law_573 : decode cL_law 573 = .ok (.iaload, 1) := by decide +kernel
theorem dL_law_574 : decode cL_law 574 = .ok (.invokevirtual 58, 3) := by decide +kernel
theorem dL_law_577 : decode cL_law 577 = .ok (.if_icmp .eq 581, 3) := by decide +kernel
theorem dL_law_580 : decode cL_law 580 = .ok (.iconst 0, 1) := by decide +kernel
theorem dL_law_581 : decode cL_law 581 = .ok (.ireturn, 1) := by decide +kernel
theorem dL_law_582 : decode cL_law 582 = .ok (.aload_n 1, 1) := by decide +kernel
theorem dL_law_583 : decode cL_law 583 = .ok (.aload_n 0, 1) := by decide +kernel
theorem dL_law_584 : decode cL_law 584 = .ok (.iload_n 3, 1) := by decide +kernel
theorem dL_law_585 : decode cL_law 585 = .ok (.iconst 1, 1) := by decide +kernel
theorem dL_law_586 : decode cL_law 586 = .ok (.iadd, 1) := by decide +kernel
theorem dL_law_587 : decode cL_law 587 = .ok (.iaload, 1) := by decide +kernel
theorem dL_law_588 : decode cL_law 588 = .ok (.aload_n 0, 1) := by decide +kernel
theorem dL_law_589 : decode cL_law 589 = .ok (.iload_n 3, 1) := by decide +kernel
theorem dL_law_590 : decode cL_law 590 = .ok (.iconst 2, 1) := by decide +kernel
theorem dL_law_591 : decode cL_law 591 = .ok (.iadd, 1) := by decide +kernel
theorem dL_law_592 : decode cL_law 592 = .ok (.iaload, 1) := by decide +kernel
theorem dL_law_593 : decode cL_law 593 = .ok (.aload_n 0, 1) := by decide +kernel
theorem dL_law_594 : decode cL_law 594 = .ok (.iload_n 3, 1) := by decide +kernel
theorem dL_law_595 : decode cL_law 595 = .ok (.iconst 3, 1) := by decide +kernel
theorem dL_law_596 : decode cL_law 596 = .ok (.iadd, 1) := by decide +kernel
theorem dL_law_597 : decode cL_law 597 = .ok (.iaload, 1) := by decide +kernel
theorem dL_law_598 : decode cL_law 598 = .ok (.invokevirtual 59, 3) := by decide +kernel
theorem dL_law_601 : decode cL_law 601 = .ok (.aload_n 2, 1) := by decide +kernel
theorem dL_law_602 : decode cL_law 602 = .ok (.aload_n 0, 1) := by decide +kernel
theorem dL_law_603 : decode cL_law 603 = .ok (.iload_n 3, 1) := by decide +kernel
theorem dL_law_604 : decode cL_law 604 = .ok (.iconst 1, 1) := by decide +kernel
theorem dL_law_605 : decode cL_law 605 = .ok (.iadd, 1) := by decide +kernel
theorem dL_law_606 : decode cL_law 606 = .ok (.iaload, 1) := by decide +kernel
theorem dL_law_607 : decode cL_law 607 = .ok (.aload_n 0, 1) := by decide +kernel
theorem dL_law_608 : decode cL_law 608 = .ok (.iload_n 3, 1) := by decide +kernel
theorem dL_law_609 : decode cL_law 609 = .ok (.iconst 2, 1) := by decide +kernel
theorem dL_law_610 : decode cL_law 610 = .ok (.iadd, 1) := by decide +kernel
theorem dL_law_611 : decode cL_law 611 = .ok (.iaload, 1) := by decide +kernel
theorem dL_law_612 : decode cL_law 612 = .ok (.aload_n 0, 1) := by decide +kernel
theorem dL_law_613 : decode cL_law 613 = .ok (.iload_n 3, 1) := by decide +kernel
theorem dL_law_614 : decode cL_law 614 = .ok (.iconst 3, 1) := by decide +kernel
theorem dL_law_615 : decode cL_law 615 = .ok (.iadd, 1) := by decide +kernel
theorem dL_law_616 : decode cL_law 616 = .ok (.iaload, 1) := by decide +kernel
theorem dL_law_617 : decode cL_law 617 = .ok (.invokevirtual 62, 3) := by decide +kernel
theorem dL_law_620 : decode cL_law 620 = .ok (.if_icmp .eq 538, 3) := by decide +kernel
theorem dL_law_623 : decode cL_law 623 = .ok (.iconst 0, 1) := by decide +kernel
theorem dL_law_624 : decode cL_law 624 = .ok (.ireturn, 1) := by decide +kernel
theorem dL_law_625 : decode cL_law 625 = .ok (.aload_n 1, 1) := by decide +kernel
theorem dL_law_626 : decode cL_law 626 = .ok (.aload_n 0, 1) := by decide +kernel
theorem dL_law_627 : decode cL_law 627 = .ok (.iload_n 3, 1) := by decide +kernel
theorem dL_law_628 : decode cL_law 628 = .ok (.iconst 1, 1) := by decide +kernel
theorem dL_law_629 : decode cL_law 629 = .ok (.iadd, 1) := by decide +kernel
theorem dL_law_630 : decode cL_law 630 = .ok (.iaload, 1) := by decide +kernel
theorem dL_law_631 : decode cL_law 631 = .ok (.invokevirtual 63, 3) := by decide +kernel
theorem dL_law_634 : decode cL_law 634 = .ok (.aload_n 2, 1) := by decide +kernel
theorem dL_law_635 : decode cL_law 635 = .ok (.aload_n 0, 1) := by decide +kernel
theorem dL_law_636 : decode cL_law 636 = .ok (.iload_n 3, 1) := by decide +kernel
theorem dL_law_637 : decode cL_law 637 = .ok (.iconst 1, 1) := by decide +kernel
theorem dL_law_638 : decode cL_law 638 = .ok (.iadd, 1) := by decide +kernel
theorem dL_law_639 : decode cL_law 639 = .ok (.iaload, 1) := by decide +kernel
theorem dL_law_640 : decode cL_law 640 = .ok (.invokevirtual 66, 3) := by decide +kernel
theorem dL_law_643 : decode cL_law 643 = .ok (.if_icmp .eq 515, 3) := by decide +kernel
theorem dL_law_646 : decode cL_law 646 = .ok (.iconst 0, 1) := by decide +kernel
theorem dL_law_647 : decode cL_law 647 = .ok (.ireturn, 1) := by decide +kernel
theorem dL_law_648 : decode cL_law 648 = .ok (.aload_n 1, 1) := by decide +kernel
theorem dL_law_649 : decode cL_law 649 = .ok (.aload_n 0, 1) := by decide +kernel
theorem dL_law_650 : decode cL_law 650 = .ok (.iload_n 3, 1) := by decide +kernel
theorem dL_law_651 : decode cL_law 651 = .ok (.iconst 1, 1) := by decide +kernel
theorem dL_law_652 : decode cL_law 652 = .ok (.iadd, 1) := by decide +kernel
theorem dL_law_653 : decode cL_law 653 = .ok (.iaload, 1) := by decide +kernel
theorem dL_law_654 : decode cL_law 654 = .ok (.invokevirtual 67, 3) := by decide +kernel
theorem dL_law_657 : decode cL_law 657 = .ok (.aload_n 2, 1) := by decide +kernel
theorem dL_law_658 : decode cL_law 658 = .ok (.aload_n 0, 1) := by decide +kernel
theorem dL_law_659 : decode cL_law 659 = .ok (.iload_n 3, 1) := by decide +kernel
theorem dL_law_660 : decode cL_law 660 = .ok (.iconst 1, 1) := by decide +kernel
theorem dL_law_661 : decode cL_law 661 = .ok (.iadd, 1) := by decide +kernel
theorem dL_law_662 : decode cL_law 662 = .ok (.iaload, 1) := by decide +kernel
theorem dL_law_663 : decode cL_law 663 = .ok (.invokevirtual 71, 3) := by decide +kernel
theorem dL_law_666 : decode cL_law 666 = .ok (.lcmp, 1) := by decide +kernel
theorem dL_law_667 : decode cL_law 667 = .ok (.ifCond .eq 491, 3) := by decide +kernel
theorem dL_law_670 : decode cL_law 670 = .ok (.iconst 0, 1) := by decide +kernel
theorem dL_law_671 : decode cL_law 671 = .ok (.ireturn, 1) := by decide +kernel
theorem dL_law_672 : decode cL_law 672 = .ok (.aload_n 1, 1) := by decide +kernel
theorem dL_law_673 : decode cL_law 673 = .ok (.aload_n 0, 1) := by decide +kernel
theorem dL_law_674 : decode cL_law 674 = .ok (.iload_n 3, 1) := by decide +kernel
theorem dL_law_675 : decode cL_law 675 = .ok (.iconst 1, 1) := by decide +kernel
theorem dL_law_676 : decode cL_law 676 = .ok (.iadd, 1) := by decide +kernel
theorem dL_law_677 : decode cL_law 677 = .ok (.iaload, 1) := by decide +kernel
theorem dL_law_678 : decode cL_law 678 = .ok (.aload_n 0, 1) := by decide +kernel
theorem dL_law_679 : decode cL_law 679 = .ok (.iload_n 3, 1) := by decide +kernel
theorem dL_law_680 : decode cL_law 680 = .ok (.iconst 2, 1) := by decide +kernel
theorem dL_law_681 : decode cL_law 681 = .ok (.iadd, 1) := by decide +kernel
theorem dL_law_682 : decode cL_law 682 = .ok (.iaload, 1) := by decide +kernel
theorem dL_law_683 : decode cL_law 683 = .ok (.invokevirtual 72, 3) := by decide +kernel
theorem dL_law_686 : decode cL_law 686 = .ok (.aload_n 2, 1) := by decide +kernel
theorem dL_law_687 : decode cL_law 687 = .ok (.aload_n 0, 1) := by decide +kernel
theorem dL_law_688 : decode cL_law 688 = .ok (.iload_n 3, 1) := by decide +kernel
theorem dL_law_689 : decode cL_law 689 = .ok (.iconst 1, 1) := by decide +kernel
theorem dL_law_690 : decode cL_law 690 = .ok (.iadd, 1) := by decide +kernel
theorem dL_law_691 : decode cL_law 691 = .ok (.iaload, 1) := by decide +kernel
theorem dL_law_692 : decode cL_law 692 = .ok (.aload_n 0, 1) := by decide +kernel
theorem dL_law_693 : decode cL_law 693 = .ok (.iload_n 3, 1) := by decide +kernel
theorem dL_law_694 : decode cL_law 694 = .ok (.iconst 2, 1) := by decide +kernel
theorem dL_law_695 : decode cL_law 695 = .ok (.iadd, 1) := by decide +kernel
theorem dL_law_696 : decode cL_law 696 = .ok (.iaload, 1) := by decide +kernel
theorem dL_law_697 : decode cL_law 697 = .ok (.invokevirtual 75, 3) := by decide +kernel
theorem dL_law_700 : decode cL_law 700 = .ok (.if_icmp .eq 458, 3) := by decide +kernel
theorem dL_law_703 : decode cL_law 703 = .ok (.iconst 0, 1) := by decide +kernel
theorem dL_law_704 : decode cL_law 704 = .ok (.ireturn, 1) := by decide +kernel
theorem dL_law_705 : decode cL_law 705 = .ok (.aload_n 1, 1) := by decide +kernel
theorem dL_law_706 : decode cL_law 706 = .ok (.aload_n 0, 1) := by decide +kernel
theorem dL_law_707 : decode cL_law 707 = .ok (.iload_n 3, 1) := by decide +kernel
theorem dL_law_708 : decode cL_law 708 = .ok (.iconst 1, 1) := by decide +kernel
theorem dL_law_709 : decode cL_law 709 = .ok (.iadd, 1) := by decide +kernel
theorem dL_law_710 : decode cL_law 710 = .ok (.iaload, 1) := by decide +kernel
theorem dL_law_711 : decode cL_law 711 = .ok (.aload_n 0, 1) := by decide +kernel
theorem dL_law_712 : decode cL_law 712 = .ok (.iload_n 3, 1) := by decide +kernel
theorem dL_law_713 : decode cL_law 713 = .ok (.iconst 2, 1) := by decide +kernel
theorem dL_law_714 : decode cL_law 714 = .ok (.iadd, 1) := by decide +kernel
theorem dL_law_715 : decode cL_law 715 = .ok (.iaload, 1) := by decide +kernel
theorem dL_law_716 : decode cL_law 716 = .ok (.aload_n 0, 1) := by decide +kernel
theorem dL_law_717 : decode cL_law 717 = .ok (.iload_n 3, 1) := by decide +kernel
theorem dL_law_718 : decode cL_law 718 = .ok (.iconst 3, 1) := by decide +kernel
theorem dL_law_719 : decode cL_law 719 = .ok (.iadd, 1) := by decide +kernel
theorem dL_law_720 : decode cL_law 720 = .ok (.iaload, 1) := by decide +kernel
theorem dL_law_721 : decode cL_law 721 = .ok (.invokevirtual 76, 3) := by decide +kernel
theorem dL_law_724 : decode cL_law 724 = .ok (.aload_n 2, 1) := by decide +kernel
theorem dL_law_725 : decode cL_law 725 = .ok (.aload_n 0, 1) := by decide +kernel
theorem dL_law_726 : decode cL_law 726 = .ok (.iload_n 3, 1) := by decide +kernel
theorem dL_law_727 : decode cL_law 727 = .ok (.iconst 1, 1) := by decide +kernel
theorem dL_law_728 : decode cL_law 728 = .ok (.iadd, 1) := by decide +kernel
theorem dL_law_729 : decode cL_law 729 = .ok (.iaload, 1) := by decide +kernel
theorem dL_law_730 : decode cL_law 730 = .ok (.aload_n 0, 1) := by decide +kernel
theorem dL_law_731 : decode cL_law 731 = .ok (.iload_n 3, 1) := by decide +kernel
theorem dL_law_732 : decode cL_law 732 = .ok (.iconst 2, 1) := by decide +kernel
theorem dL_law_733 : decode cL_law 733 = .ok (.iadd, 1) := by decide +kernel
theorem dL_law_734 : decode cL_law 734 = .ok (.iaload, 1) := by decide +kernel
theorem dL_law_735 : decode cL_law 735 = .ok (.aload_n 0, 1) := by decide +kernel
theorem dL_law_736 : decode cL_law 736 = .ok (.iload_n 3, 1) := by decide +kernel
theorem dL_law_737 : decode cL_law 737 = .ok (.iconst 3, 1) := by decide +kernel
theorem dL_law_738 : decode cL_law 738 = .ok (.iadd, 1) := by decide +kernel
theorem dL_law_739 : decode cL_law 739 = .ok (.iaload, 1) := by decide +kernel
theorem dL_law_740 : decode cL_law 740 = .ok (.invokevirtual 79, 3) := by decide +kernel
theorem dL_law_743 : decode cL_law 743 = .ok (.if_icmp .eq 415, 3) := by decide +kernel
theorem dL_law_746 : decode cL_law 746 = .ok (.iconst 0, 1) := by decide +kernel
theorem dL_law_747 : decode cL_law 747 = .ok (.ireturn, 1) := by decide +kernel
theorem dL_law_748 : decode cL_law 748 = .ok (.aload_n 1, 1) := by decide +kernel
theorem dL_law_749 : decode cL_law 749 = .ok (.invokevirtual 80, 3) := by decide +kernel
theorem dL_law_752 : decode cL_law 752 = .ok (.aload_n 2, 1) := by decide +kernel
theorem dL_law_753 : decode cL_law 753 = .ok (.invokevirtual 84, 3) := by decide +kernel
theorem dL_law_756 : decode cL_law 756 = .ok (.lcmp, 1) := by decide +kernel
theorem dL_law_757 : decode cL_law 757 = .ok (.ifCond .eq 401, 3) := by decide +kernel
theorem dL_law_760 : decode cL_law 760 = .ok (.iconst 0, 1) := by decide +kernel
theorem dL_law_761 : decode cL_law 761 = .ok (.ireturn, 1) := by decide +kernel
theorem dL_law_762 : decode cL_law 762 = .ok (.aload_n 1, 1) := by decide +kernel
theorem dL_law_763 : decode cL_law 763 = .ok (.invokevirtual 85, 3) := by decide +kernel
theorem dL_law_766 : decode cL_law 766 = .ok (.aload_n 2, 1) := by decide +kernel
theorem dL_law_767 : decode cL_law 767 = .ok (.invokevirtual 89, 3) := by decide +kernel
theorem dL_law_770 : decode cL_law 770 = .ok (.if_icmp .eq 388, 3) := by decide +kernel
theorem dL_law_773 : decode cL_law 773 = .ok (.iconst 0, 1) := by decide +kernel
theorem dL_law_774 : decode cL_law 774 = .ok (.ireturn, 1) := by decide +kernel
theorem dL_law_775 : decode cL_law 775 = .ok (.aload_n 1, 1) := by decide +kernel
theorem dL_law_776 : decode cL_law 776 = .ok (.invokevirtual 90, 3) := by decide +kernel
theorem dL_law_779 : decode cL_law 779 = .ok (.aload_n 2, 1) := by decide +kernel
theorem dL_law_780 : decode cL_law 780 = .ok (.invokevirtual 93, 3) := by decide +kernel
theorem dL_law_783 : decode cL_law 783 = .ok (.if_icmp .eq 375, 3) := by decide +kernel
theorem dL_law_786 : decode cL_law 786 = .ok (.iconst 0, 1) := by decide +kernel
theorem dL_law_787 : decode cL_law 787 = .ok (.ireturn, 1) := by decide +kernel
theorem dL_law_788 : decode cL_law 788 = .ok (.aload_n 1, 1) := by decide +kernel
theorem dL_law_789 : decode cL_law 789 = .ok (.aload_n 0, 1) := by decide +kernel
theorem dL_law_790 : decode cL_law 790 = .ok (.iload_n 3, 1) := by decide +kernel
theorem dL_law_791 : decode cL_law 791 = .ok (.iconst 1, 1) := by decide +kernel
theorem dL_law_792 : decode cL_law 792 = .ok (.iadd, 1) := by decide +kernel
theorem dL_law_793 : decode cL_law 793 = .ok (.iaload, 1) := by decide +kernel
theorem dL_law_794 : decode cL_law 794 = .ok (.invokevirtual 94, 3) := by decide +kernel
theorem dL_law_797 : decode cL_law 797 = .ok (.aload_n 2, 1) := by decide +kernel
theorem dL_law_798 : decode cL_law 798 = .ok (.aload_n 0, 1) := by decide +kernel
theorem dL_law_799 : decode cL_law 799 = .ok (.iload_n 3, 1) := by decide +kernel
theorem dL_law_800 : decode cL_law 800 = .ok (.iconst 1, 1) := by decide +kernel
theorem dL_law_801 : decode cL_law 801 = .ok (.iadd, 1) := by decide +kernel
theorem dL_law_802 : decode cL_law 802 = .ok (.iaload, 1) := by decide +kernel
theorem dL_law_803 : decode cL_law 803 = .ok (.invokevirtual 97, 3) := by decide +kernel
theorem dL_law_806 : decode cL_law 806 = .ok (.if_icmp .eq 352, 3) := by decide +kernel
theorem dL_law_809 : decode cL_law 809 = .ok (.iconst 0, 1) := by decide +kernel
theorem dL_law_810 : decode cL_law 810 = .ok (.ireturn, 1) := by decide +kernel
theorem dL_law_811 : decode cL_law 811 = .ok (.aload_n 1, 1) := by decide +kernel
theorem dL_law_812 : decode cL_law 812 = .ok (.aload_n 0, 1) := by decide +kernel
theorem dL_law_813 : decode cL_law 813 = .ok (.iload_n 3, 1) := by decide +kernel
theorem dL_law_814 : decode cL_law 814 = .ok (.iconst 1, 1) := by decide +kernel
theorem dL_law_815 : decode cL_law 815 = .ok (.iadd, 1) := by decide +kernel
theorem dL_law_816 : decode cL_law 816 = .ok (.iaload, 1) := by decide +kernel
theorem dL_law_817 : decode cL_law 817 = .ok (.invokevirtual 98, 3) := by decide +kernel
theorem dL_law_820 : decode cL_law 820 = .ok (.aload_n 2, 1) := by decide +kernel
theorem dL_law_821 : decode cL_law 821 = .ok (.aload_n 0, 1) := by decide +kernel
theorem dL_law_822 : decode cL_law 822 = .ok (.iload_n 3, 1) := by decide +kernel
theorem dL_law_823 : decode cL_law 823 = .ok (.iconst 1, 1) := by decide +kernel
theorem dL_law_824 : decode cL_law 824 = .ok (.iadd, 1) := by decide +kernel
theorem dL_law_825 : decode cL_law 825 = .ok (.iaload, 1) := by decide +kernel
theorem dL_law_826 : decode cL_law 826 = .ok (.invokevirtual 101, 3) := by decide +kernel
theorem dL_law_829 : decode cL_law 829 = .ok (.if_icmp .eq 329, 3) := by decide +kernel
theorem dL_law_832 : decode cL_law 832 = .ok (.iconst 0, 1) := by decide +kernel
theorem dL_law_833 : decode cL_law 833 = .ok (.ireturn, 1) := by decide +kernel
theorem dL_law_834 : decode cL_law 834 = .ok (.aload_n 1, 1) := by decide +kernel
theorem dL_law_835 : decode cL_law 835 = .ok (.aload_n 0, 1) := by decide +kernel
theorem dL_law_836 : decode cL_law 836 = .ok (.iload_n 3, 1) := by decide +kernel
theorem dL_law_837 : decode cL_law 837 = .ok (.iconst 1, 1) := by decide +kernel
theorem dL_law_838 : decode cL_law 838 = .ok (.iadd, 1) := by decide +kernel
theorem dL_law_839 : decode cL_law 839 = .ok (.iaload, 1) := by decide +kernel
theorem dL_law_840 : decode cL_law 840 = .ok (.invokevirtual 102, 3) := by decide +kernel
theorem dL_law_843 : decode cL_law 843 = .ok (.aload_n 2, 1) := by decide +kernel
theorem dL_law_844 : decode cL_law 844 = .ok (.aload_n 0, 1) := by decide +kernel
theorem dL_law_845 : decode cL_law 845 = .ok (.iload_n 3, 1) := by decide +kernel
theorem dL_law_846 : decode cL_law 846 = .ok (.iconst 1, 1) := by decide +kernel
theorem dL_law_847 : decode cL_law 847 = .ok (.iadd, 1) := by decide +kernel
theorem dL_law_848 : decode cL_law 848 = .ok (.iaload, 1) := by decide +kernel
theorem dL_law_849 : decode cL_law 849 = .ok (.invokevirtual 105, 3) := by decide +kernel
theorem dL_law_852 : decode cL_law 852 = .ok (.lcmp, 1) := by decide +kernel
theorem dL_law_853 : decode cL_law 853 = .ok (.ifCond .eq 305, 3) := by decide +kernel
theorem dL_law_856 : decode cL_law 856 = .ok (.iconst 0, 1) := by decide +kernel
theorem dL_law_857 : decode cL_law 857 = .ok (.ireturn, 1) := by decide +kernel
theorem dL_law_858 : decode cL_law 858 = .ok (.aload_n 1, 1) := by decide +kernel
theorem dL_law_859 : decode cL_law 859 = .ok (.invokevirtual 106, 3) := by decide +kernel
theorem dL_law_862 : decode cL_law 862 = .ok (.aload_n 2, 1) := by decide +kernel
theorem dL_law_863 : decode cL_law 863 = .ok (.invokevirtual 109, 3) := by decide +kernel
theorem dL_law_866 : decode cL_law 866 = .ok (.if_icmp .eq 292, 3) := by decide +kernel
theorem dL_law_869 : decode cL_law 869 = .ok (.iconst 0, 1) := by decide +kernel
theorem dL_law_870 : decode cL_law 870 = .ok (.ireturn, 1) := by decide +kernel
theorem dL_law_871 : decode cL_law 871 = .ok (.aload_n 1, 1) := by decide +kernel
theorem dL_law_872 : decode cL_law 872 = .ok (.invokevirtual 110, 3) := by decide +kernel
theorem dL_law_875 : decode cL_law 875 = .ok (.aload_n 2, 1) := by decide +kernel
theorem dL_law_876 : decode cL_law 876 = .ok (.invokevirtual 113, 3) := by decide +kernel
theorem dL_law_879 : decode cL_law 879 = .ok (.if_icmp .eq 279, 3) := by decide +kernel
theorem dL_law_882 : decode cL_law 882 = .ok (.iconst 0, 1) := by decide +kernel
theorem dL_law_883 : decode cL_law 883 = .ok (.ireturn, 1) := by decide +kernel
theorem dL_law_884 : decode cL_law 884 = .ok (.aload_n 1, 1) := by decide +kernel
theorem dL_law_885 : decode cL_law 885 = .ok (.invokevirtual 114, 3) := by decide +kernel
theorem dL_law_888 : decode cL_law 888 = .ok (.aload_n 2, 1) := by decide +kernel
theorem dL_law_889 : decode cL_law 889 = .ok (.invokevirtual 117, 3) := by decide +kernel
theorem dL_law_892 : decode cL_law 892 = .ok (.if_icmp .eq 266, 3) := by decide +kernel
theorem dL_law_895 : decode cL_law 895 = .ok (.iconst 0, 1) := by decide +kernel
theorem dL_law_896 : decode cL_law 896 = .ok (.ireturn, 1) := by decide +kernel
theorem dL_law_897 : decode cL_law 897 = .ok (.aload_n 1, 1) := by decide +kernel
theorem dL_law_898 : decode cL_law 898 = .ok (.invokevirtual 118, 3) := by decide +kernel
theorem dL_law_901 : decode cL_law 901 = .ok (.aload_n 2, 1) := by decide +kernel
theorem dL_law_902 : decode cL_law 902 = .ok (.invokevirtual 121, 3) := by decide +kernel
theorem dL_law_905 : decode cL_law 905 = .ok (.if_icmp .eq 253, 3) := by decide +kernel
theorem dL_law_908 : decode cL_law 908 = .ok (.iconst 0, 1) := by decide +kernel
theorem dL_law_909 : decode cL_law 909 = .ok (.ireturn, 1) := by decide +kernel
theorem dL_law_910 : decode cL_law 910 = .ok (.aload_n 1, 1) := by decide +kernel
theorem dL_law_911 : decode cL_law 911 = .ok (.aload_n 0, 1) := by decide +kernel
theorem dL_law_912 : decode cL_law 912 = .ok (.iload_n 3, 1) := by decide +kernel
theorem dL_law_913 : decode cL_law 913 = .ok (.iconst 1, 1) := by decide +kernel
theorem dL_law_914 : decode cL_law 914 = .ok (.iadd, 1) := by decide +kernel
theorem dL_law_915 : decode cL_law 915 = .ok (.iaload, 1) := by decide +kernel
theorem dL_law_916 : decode cL_law 916 = .ok (.invokevirtual 122, 3) := by decide +kernel
theorem dL_law_919 : decode cL_law 919 = .ok (.aload_n 2, 1) := by decide +kernel
theorem dL_law_920 : decode cL_law 920 = .ok (.aload_n 0, 1) := by decide +kernel
theorem dL_law_921 : decode cL_law 921 = .ok (.iload_n 3, 1) := by decide +kernel
theorem dL_law_922 : decode cL_law 922 = .ok (.iconst 1, 1) := by decide +kernel
theorem dL_law_923 : decode cL_law 923 = .ok (.iadd, 1) := by decide +kernel
theorem dL_law_924 : decode cL_law 924 = .ok (.iaload, 1) := by decide +kernel
theorem dL_law_925 : decode cL_law 925 = .ok (.invokevirtual 125, 3) := by decide +kernel
theorem dL_law_928 : decode cL_law 928 = .ok (.if_icmp .eq 230, 3) := by decide +kernel
theorem dL_law_931 : decode cL_law 931 = .ok (.iconst 0, 1) := by decide +kernel
theorem dL_law_932 : decode cL_law 932 = .ok (.ireturn, 1) := by decide +kernel
theorem dL_law_933 : decode cL_law 933 = .ok (.aload_n 1, 1) := by decide +kernel
theorem dL_law_934 : decode cL_law 934 = .ok (.invokevirtual 126, 3) := by decide +kernel
theorem dL_law_937 : decode cL_law 937 = .ok (.aload_n 2, 1) := by decide +kernel
theorem dL_law_938 : decode cL_law 938 = .ok (.invokevirtual 129, 3) := by decide +kernel
theorem dL_law_941 : decode cL_law 941 = .ok (.if_icmp .eq 217, 3) := by decide +kernel
theorem dL_law_944 : decode cL_law 944 = .ok (.iconst 0, 1) := by decide +kernel
theorem dL_law_945 : decode cL_law 945 = .ok (.ireturn, 1) := by decide +kernel
theorem dL_law_946 : decode cL_law 946 = .ok (.aload_n 1, 1) := by decide +kernel
theorem dL_law_947 : decode cL_law 947 = .ok (.aload_n 0, 1) := by decide +kernel
theorem dL_law_948 : decode cL_law 948 = .ok (.iload_n 3, 1) := by decide +kernel
theorem dL_law_949 : decode cL_law 949 = .ok (.iconst 1, 1) := by decide +kernel
theorem dL_law_950 : decode cL_law 950 = .ok (.iadd, 1) := by decide +kernel
theorem dL_law_951 : decode cL_law 951 = .ok (.iaload, 1) := by decide +kernel
theorem dL_law_952 : decode cL_law 952 = .ok (.aload_n 0, 1) := by decide +kernel
theorem dL_law_953 : decode cL_law 953 = .ok (.iload_n 3, 1) := by decide +kernel
theorem dL_law_954 : decode cL_law 954 = .ok (.iconst 2, 1) := by decide +kernel
theorem dL_law_955 : decode cL_law 955 = .ok (.iadd, 1) := by decide +kernel
theorem dL_law_956 : decode cL_law 956 = .ok (.iaload, 1) := by decide +kernel
theorem dL_law_957 : decode cL_law 957 = .ok (.invokevirtual 130, 3) := by decide +kernel
theorem dL_law_960 : decode cL_law 960 = .ok (.aload_n 2, 1) := by decide +kernel
theorem dL_law_961 : decode cL_law 961 = .ok (.aload_n 0, 1) := by decide +kernel
theorem dL_law_962 : decode cL_law 962 = .ok (.iload_n 3, 1) := by decide +kernel
theorem dL_law_963 : decode cL_law 963 = .ok (.iconst 1, 1) := by decide +kernel
theorem dL_law_964 : decode cL_law 964 = .ok (.iadd, 1) := by decide +kernel
theorem dL_law_965 : decode cL_law 965 = .ok (.iaload, 1) := by decide +kernel
theorem dL_law_966 : decode cL_law 966 = .ok (.aload_n 0, 1) := by decide +kernel
theorem dL_law_967 : decode cL_law 967 = .ok (.iload_n 3, 1) := by decide +kernel
theorem dL_law_968 : decode cL_law 968 = .ok (.iconst 2, 1) := by decide +kernel
theorem dL_law_969 : decode cL_law 969 = .ok (.iadd, 1) := by decide +kernel
theorem dL_law_970 : decode cL_law 970 = .ok (.iaload, 1) := by decide +kernel
theorem dL_law_971 : decode cL_law 971 = .ok (.invokevirtual 133, 3) := by decide +kernel
theorem dL_law_974 : decode cL_law 974 = .ok (.if_icmp .eq 184, 3) := by decide +kernel
theorem dL_law_977 : decode cL_law 977 = .ok (.iconst 0, 1) := by decide +kernel
theorem dL_law_978 : decode cL_law 978 = .ok (.ireturn, 1) := by decide +kernel
theorem dL_law_979 : decode cL_law 979 = .ok (.aload_n 1, 1) := by decide +kernel
theorem dL_law_980 : decode cL_law 980 = .ok (.aload_n 0, 1) := by decide +kernel
theorem dL_law_981 : decode cL_law 981 = .ok (.iload_n 3, 1) := by decide +kernel
theorem dL_law_982 : decode cL_law 982 = .ok (.iconst 1, 1) := by decide +kernel
theorem dL_law_983 : decode cL_law 983 = .ok (.iadd, 1) := by decide +kernel
theorem dL_law_984 : decode cL_law 984 = .ok (.iaload, 1) := by decide +kernel
theorem dL_law_985 : decode cL_law 985 = .ok (.invokevirtual 134, 3) := by decide +kernel
theorem dL_law_988 : decode cL_law 988 = .ok (.aload_n 2, 1) := by decide +kernel
theorem dL_law_989 : decode cL_law 989 = .ok (.aload_n 0, 1) := by decide +kernel
theorem dL_law_990 : decode cL_law 990 = .ok (.iload_n 3, 1) := by decide +kernel
theorem dL_law_991 : decode cL_law 991 = .ok (.iconst 1, 1) := by decide +kernel
theorem dL_law_992 : decode cL_law 992 = .ok (.iadd, 1) := by decide +kernel
theorem dL_law_993 : decode cL_law 993 = .ok (.iaload, 1) := by decide +kernel
theorem dL_law_994 : decode cL_law 994 = .ok (.invokevirtual 137, 3) := by decide +kernel
theorem dL_law_997 : decode cL_law 997 = .ok (.lcmp, 1) := by decide +kernel
theorem dL_law_998 : decode cL_law 998 = .ok (.ifCond .eq 160, 3) := by decide +kernel
theorem dL_law_1001 : decode cL_law 1001 = .ok (.iconst 0, 1) := by decide +kernel
theorem dL_law_1002 : decode cL_law 1002 = .ok (.ireturn, 1) := by decide +kernel
theorem dL_law_1003 : decode cL_law 1003 = .ok (.aload_n 1, 1) := by decide +kernel
theorem dL_law_1004 : decode cL_law 1004 = .ok (.aload_n 0, 1) := by decide +kernel
theorem dL_law_1005 : decode cL_law 1005 = .ok (.iload_n 3, 1) := by decide +kernel
theorem dL_law_1006 : decode cL_law 1006 = .ok (.iconst 1, 1) := by decide +kernel
theorem dL_law_1007 : decode cL_law 1007 = .ok (.iadd, 1) := by decide +kernel
theorem dL_law_1008 : decode cL_law 1008 = .ok (.iaload, 1) := by decide +kernel
theorem dL_law_1009 : decode cL_law 1009 = .ok (.aload_n 0, 1) := by decide +kernel
theorem dL_law_1010 : decode cL_law 1010 = .ok (.iload_n 3, 1) := by decide +kernel
theorem dL_law_1011 : decode cL_law 1011 = .ok (.iconst 2, 1) := by decide +kernel
theorem dL_law_1012 : decode cL_law 1012 = .ok (.iadd, 1) := by decide +kernel
theorem dL_law_1013 : decode cL_law 1013 = .ok (.iaload, 1) := by decide +kernel
theorem dL_law_1014 : decode cL_law 1014 = .ok (.invokevirtual 138, 3) := by decide +kernel
theorem dL_law_1017 : decode cL_law 1017 = .ok (.aload_n 2, 1) := by decide +kernel
theorem dL_law_1018 : decode cL_law 1018 = .ok (.aload_n 0, 1) := by decide +kernel
theorem dL_law_1019 : decode cL_law 1019 = .ok (.iload_n 3, 1) := by decide +kernel
theorem dL_law_1020 : decode cL_law 1020 = .ok (.iconst 1, 1) := by decide +kernel
theorem dL_law_1021 : decode cL_law 1021 = .ok (.iadd, 1) := by decide +kernel
theorem dL_law_1022 : decode cL_law 1022 = .ok (.iaload, 1) := by decide +kernel
theorem dL_law_1023 : decode cL_law 1023 = .ok (.aload_n 0, 1) := by decide +kernel
theorem dL_law_1024 : decode cL_law 1024 = .ok (.iload_n 3, 1) := by decide +kernel
theorem dL_law_1025 : decode cL_law 1025 = .ok (.iconst 2, 1) := by decide +kernel
theorem dL_law_1026 : decode cL_law 1026 = .ok (.iadd, 1) := by decide +kernel
theorem dL_law_1027 : decode cL_law 1027 = .ok (.iaload, 1) := by decide +kernel
theorem dL_law_1028 : decode cL_law 1028 = .ok (.invokevirtual 142, 3) := by decide +kernel
theorem dL_law_1031 : decode cL_law 1031 = .ok (.lcmp, 1) := by decide +kernel
theorem dL_law_1032 : decode cL_law 1032 = .ok (.ifCond .eq 126, 3) := by decide +kernel
theorem dL_law_1035 : decode cL_law 1035 = .ok (.iconst 0, 1) := by decide +kernel
theorem dL_law_1036 : decode cL_law 1036 = .ok (.ireturn, 1) := by decide +kernel
theorem dL_law_1037 : decode cL_law 1037 = .ok (.aload_n 1, 1) := by decide +kernel
theorem dL_law_1038 : decode cL_law 1038 = .ok (.aload_n 0, 1) := by decide +kernel
theorem dL_law_1039 : decode cL_law 1039 = .ok (.iload_n 3, 1) := by decide +kernel
theorem dL_law_1040 : decode cL_law 1040 = .ok (.iconst 1, 1) := by decide +kernel
theorem dL_law_1041 : decode cL_law 1041 = .ok (.iadd, 1) := by decide +kernel
theorem dL_law_1042 : decode cL_law 1042 = .ok (.iaload, 1) := by decide +kernel
theorem dL_law_1043 : decode cL_law 1043 = .ok (.invokevirtual 143, 3) := by decide +kernel
theorem dL_law_1046 : decode cL_law 1046 = .ok (.aload_n 2, 1) := by decide +kernel
theorem dL_law_1047 : decode cL_law 1047 = .ok (.aload_n 0, 1) := by decide +kernel
theorem dL_law_1048 : decode cL_law 1048 = .ok (.iload_n 3, 1) := by decide +kernel
theorem dL_law_1049 : decode cL_law 1049 = .ok (.iconst 1, 1) := by decide +kernel
theorem dL_law_1050 : decode cL_law 1050 = .ok (.iadd, 1) := by decide +kernel
theorem dL_law_1051 : decode cL_law 1051 = .ok (.iaload, 1) := by decide +kernel
theorem dL_law_1052 : decode cL_law 1052 = .ok (.invokevirtual 146, 3) := by decide +kernel
theorem dL_law_1055 : decode cL_law 1055 = .ok (.lcmp, 1) := by decide +kernel
theorem dL_law_1056 : decode cL_law 1056 = .ok (.ifCond .eq 102, 3) := by decide +kernel
theorem dL_law_1059 : decode cL_law 1059 = .ok (.iconst 0, 1) := by decide +kernel
theorem dL_law_1060 : decode cL_law 1060 = .ok (.ireturn, 1) := by decide +kernel
theorem dL_law_1061 : decode cL_law 1061 = .ok (.aload_n 1, 1) := by decide +kernel
theorem dL_law_1062 : decode cL_law 1062 = .ok (.invokevirtual 147, 3) := by decide +kernel
theorem dL_law_1065 : decode cL_law 1065 = .ok (.aload_n 2, 1) := by decide +kernel
theorem dL_law_1066 : decode cL_law 1066 = .ok (.invokevirtual 150, 3) := by decide +kernel
theorem dL_law_1069 : decode cL_law 1069 = .ok (.lcmp, 1) := by decide +kernel
theorem dL_law_1070 : decode cL_law 1070 = .ok (.ifCond .eq 88, 3) := by decide +kernel
theorem dL_law_1073 : decode cL_law 1073 = .ok (.iconst 0, 1) := by decide +kernel
theorem dL_law_1074 : decode cL_law 1074 = .ok (.ireturn, 1) := by decide +kernel
theorem dL_law_1075 : decode cL_law 1075 = .ok (.aload_n 1, 1) := by decide +kernel
theorem dL_law_1076 : decode cL_law 1076 = .ok (.aload_n 0, 1) := by decide +kernel
theorem dL_law_1077 : decode cL_law 1077 = .ok (.iload_n 3, 1) := by decide +kernel
theorem dL_law_1078 : decode cL_law 1078 = .ok (.iconst 1, 1) := by decide +kernel
theorem dL_law_1079 : decode cL_law 1079 = .ok (.iadd, 1) := by decide +kernel
theorem dL_law_1080 : decode cL_law 1080 = .ok (.iaload, 1) := by decide +kernel
theorem dL_law_1081 : decode cL_law 1081 = .ok (.aload_n 0, 1) := by decide +kernel
theorem dL_law_1082 : decode cL_law 1082 = .ok (.iload_n 3, 1) := by decide +kernel
theorem dL_law_1083 : decode cL_law 1083 = .ok (.iconst 2, 1) := by decide +kernel
theorem dL_law_1084 : decode cL_law 1084 = .ok (.iadd, 1) := by decide +kernel
theorem dL_law_1085 : decode cL_law 1085 = .ok (.iaload, 1) := by decide +kernel
theorem dL_law_1086 : decode cL_law 1086 = .ok (.invokevirtual 151, 3) := by decide +kernel
theorem dL_law_1089 : decode cL_law 1089 = .ok (.aload_n 2, 1) := by decide +kernel
theorem dL_law_1090 : decode cL_law 1090 = .ok (.aload_n 0, 1) := by decide +kernel
theorem dL_law_1091 : decode cL_law 1091 = .ok (.iload_n 3, 1) := by decide +kernel
theorem dL_law_1092 : decode cL_law 1092 = .ok (.iconst 1, 1) := by decide +kernel
theorem dL_law_1093 : decode cL_law 1093 = .ok (.iadd, 1) := by decide +kernel
theorem dL_law_1094 : decode cL_law 1094 = .ok (.iaload, 1) := by decide +kernel
theorem dL_law_1095 : decode cL_law 1095 = .ok (.aload_n 0, 1) := by decide +kernel
theorem dL_law_1096 : decode cL_law 1096 = .ok (.iload_n 3, 1) := by decide +kernel
theorem dL_law_1097 : decode cL_law 1097 = .ok (.iconst 2, 1) := by decide +kernel
theorem dL_law_1098 : decode cL_law 1098 = .ok (.iadd, 1) := by decide +kernel
theorem dL_law_1099 : decode cL_law 1099 = .ok (.iaload, 1) := by decide +kernel
theorem dL_law_1100 : decode cL_law 1100 = .ok (.invokevirtual 154, 3) := by decide +kernel
theorem dL_law_1103 : decode cL_law 1103 = .ok (.if_icmp .eq 55, 3) := by decide +kernel
theorem dL_law_1106 : decode cL_law 1106 = .ok (.iconst 0, 1) := by decide +kernel
theorem dL_law_1107 : decode cL_law 1107 = .ok (.ireturn, 1) := by decide +kernel
theorem dL_law_1108 : decode cL_law 1108 = .ok (.aload_n 1, 1) := by decide +kernel
theorem dL_law_1109 : decode cL_law 1109 = .ok (.invokevirtual 155, 3) := by decide +kernel
theorem dL_law_1112 : decode cL_law 1112 = .ok (.aload_n 2, 1) := by decide +kernel
theorem dL_law_1113 : decode cL_law 1113 = .ok (.invokevirtual 158, 3) := by decide +kernel
theorem dL_law_1116 : decode cL_law 1116 = .ok (.lcmp, 1) := by decide +kernel
theorem dL_law_1117 : decode cL_law 1117 = .ok (.ifCond .eq 41, 3) := by decide +kernel
theorem dL_law_1120 : decode cL_law 1120 = .ok (.iconst 0, 1) := by decide +kernel
theorem dL_law_1121 : decode cL_law 1121 = .ok (.ireturn, 1) := by decide +kernel
theorem dL_law_1122 : decode cL_law 1122 = .ok (.aload_n 1, 1) := by decide +kernel
theorem dL_law_1123 : decode cL_law 1123 = .ok (.invokevirtual 159, 3) := by decide +kernel
theorem dL_law_1126 : decode cL_law 1126 = .ok (.aload_n 2, 1) := by decide +kernel
theorem dL_law_1127 : decode cL_law 1127 = .ok (.invokevirtual 162, 3) := by decide +kernel
theorem dL_law_1130 : decode cL_law 1130 = .ok (.if_icmp .eq 28, 3) := by decide +kernel
theorem dL_law_1133 : decode cL_law 1133 = .ok (.iconst 0, 1) := by decide +kernel
theorem dL_law_1134 : decode cL_law 1134 = .ok (.ireturn, 1) := by decide +kernel
theorem dL_law_1135 : decode cL_law 1135 = .ok (.aload_n 1, 1) := by decide +kernel
theorem dL_law_1136 : decode cL_law 1136 = .ok (.aload_n 0, 1) := by decide +kernel
theorem dL_law_1137 : decode cL_law 1137 = .ok (.iload_n 3, 1) := by decide +kernel
theorem dL_law_1138 : decode cL_law 1138 = .ok (.iconst 1, 1) := by decide +kernel
theorem dL_law_1139 : decode cL_law 1139 = .ok (.iadd, 1) := by decide +kernel
theorem dL_law_1140 : decode cL_law 1140 = .ok (.iaload, 1) := by decide +kernel
theorem dL_law_1141 : decode cL_law 1141 = .ok (.invokevirtual 163, 3) := by decide +kernel
theorem dL_law_1144 : decode cL_law 1144 = .ok (.aload_n 2, 1) := by decide +kernel
theorem dL_law_1145 : decode cL_law 1145 = .ok (.aload_n 0, 1) := by decide +kernel
theorem dL_law_1146 : decode cL_law 1146 = .ok (.iload_n 3, 1) := by decide +kernel
theorem dL_law_1147 : decode cL_law 1147 = .ok (.iconst 1, 1) := by decide +kernel
theorem dL_law_1148 : decode cL_law 1148 = .ok (.iadd, 1) := by decide +kernel
theorem dL_law_1149 : decode cL_law 1149 = .ok (.iaload, 1) := by decide +kernel
theorem dL_law_1150 : decode cL_law 1150 = .ok (.invokevirtual 166, 3) := by decide +kernel
theorem dL_law_1153 : decode cL_law 1153 = .ok (.if_icmp .eq 5, 3) := by decide +kernel
theorem dL_law_1156 : decode cL_law 1156 = .ok (.iconst 0, 1) := by decide +kernel
theorem dL_law_1157 : decode cL_law 1157 = .ok (.ireturn, 1) := by decide +kernel
theorem dL_law_1158 : decode cL_law 1158 = .ok (.iinc 3 5, 3) := by decide +kernel
theorem dL_law_1161 : decode cL_law 1161 = .ok (.goto (-1143), 3) := by decide +kernel
theorem dL_law_1164 : decode cL_law 1164 = .ok (.iconst 1, 1) := by decide +kernel
theorem dL_law_1165 : decode cL_law 1165 = .ok (.ireturn, 1) := by decide +kernel
end
section
theorem i_vc : Claimed_1_1 ∧ Claimed_1_2 := sorry
end
