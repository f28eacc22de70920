section
/-- a private method of a class that the tables say can be made, by its rows of tables_1 -/
def lw_okq (q : MethodName × Nat) : Prop := (q.1.cls ≠ "java/lang/invoke/MethodHandle" ∧ q.1.cls ≠ "java/lang/invoke/VarHandle") ∧ Cond.instantiable q.1.cls q.2 ∈ tables_1 ∧ Cond.privateMethod q.1 ∈ tables_1 ∧ Cond.instanceMethod q.1 ∈ tables_1
theorem lw_p0 : lw_okq (⟨"BreadOvens", "keepChange", "()V"⟩, 9) := ⟨⟨by decide +kernel, by decide +kernel⟩, List.mem_of_getElem? (i := 15) (by decide +kernel), List.mem_of_getElem? (i := 297) (by decide +kernel), List.mem_of_getElem? (i := 298) (by decide +kernel)⟩
theorem lw_p1 : lw_okq (⟨"BreadOvens", "workOut", "()V"⟩, 9) := ⟨⟨by decide +kernel, by decide +kernel⟩, List.mem_of_getElem? (i := 15) (by decide +kernel), List.mem_of_getElem? (i := 315) (by decide +kernel), List.mem_of_getElem? (i := 316) (by decide +kernel)⟩
theorem lw_p2 : lw_okq (⟨"BreadOvens$Ways", "takeRoads", "(LBreadOvens$Valley;)V"⟩, 1) := ⟨⟨by decide +kernel, by decide +kernel⟩, List.mem_of_getElem? (i := 100) (by decide +kernel), List.mem_of_getElem? (i := 323) (by decide +kernel), List.mem_of_getElem? (i := 324) (by decide +kernel)⟩
theorem lw_p3 : lw_okq (⟨"BreadOvens$Ways", "shorten", "(III)V"⟩, 1) := ⟨⟨by decide +kernel, by decide +kernel⟩, List.mem_of_getElem? (i := 100) (by decide +kernel), List.mem_of_getElem? (i := 332) (by decide +kernel), List.mem_of_getElem? (i := 333) (by decide +kernel)⟩
theorem lw_p4 : lw_okq (⟨"BreadOvens$Ovens", "carriedOver", "(II)I"⟩, 4) := ⟨⟨by decide +kernel, by decide +kernel⟩, List.mem_of_getElem? (i := 110) (by decide +kernel), List.mem_of_getElem? (i := 349) (by decide +kernel), List.mem_of_getElem? (i := 350) (by decide +kernel)⟩
theorem lw_p5 : lw_okq (⟨"BreadOvens", "refusalToDraw", "(LBreadOvens$Chart;II)I"⟩, 9) := ⟨⟨by decide +kernel, by decide +kernel⟩, List.mem_of_getElem? (i := 15) (by decide +kernel), List.mem_of_getElem? (i := 430) (by decide +kernel), List.mem_of_getElem? (i := 431) (by decide +kernel)⟩
theorem lw_p6 : lw_okq (⟨"BreadOvens", "paveFrom", "(LBreadOvens$Chart;I)V"⟩, 9) := ⟨⟨by decide +kernel, by decide +kernel⟩, List.mem_of_getElem? (i := 15) (by decide +kernel), List.mem_of_getElem? (i := 438) (by decide +kernel), List.mem_of_getElem? (i := 439) (by decide +kernel)⟩
theorem lw_p7 : lw_okq (⟨"BreadOvens$Ways", "nextOf", "(LBreadOvens$Valley;II)I"⟩, 1) := ⟨⟨by decide +kernel, by decide +kernel⟩, List.mem_of_getElem? (i := 100) (by decide +kernel), List.mem_of_getElem? (i := 456) (by decide +kernel), List.mem_of_getElem? (i := 457) (by decide +kernel)⟩
theorem lw_p8 : lw_okq (⟨"BreadOvens$Ovens", "feeds", "(III)Z"⟩, 4) := ⟨⟨by decide +kernel, by decide +kernel⟩, List.mem_of_getElem? (i := 110) (by decide +kernel), List.mem_of_getElem? (i := 519) (by decide +kernel), List.mem_of_getElem? (i := 520) (by decide +kernel)⟩
theorem lw_p9 : lw_okq (⟨"BreadOvens", "surveyChoices", "()V"⟩, 9) := ⟨⟨by decide +kernel, by decide +kernel⟩, List.mem_of_getElem? (i := 15) (by decide +kernel), List.mem_of_getElem? (i := 538) (by decide +kernel), List.mem_of_getElem? (i := 539) (by decide +kernel)⟩
theorem lw_p10 : lw_okq (⟨"BreadOvens$Survey", "forget", "()V"⟩, 10) := ⟨⟨by decide +kernel, by decide +kernel⟩, List.mem_of_getElem? (i := 133) (by decide +kernel), List.mem_of_getElem? (i := 546) (by decide +kernel), List.mem_of_getElem? (i := 547) (by decide +kernel)⟩
theorem lw_p11 : lw_okq (⟨"BreadOvens$Survey", "noteCost", "(IJ)V"⟩, 10) := ⟨⟨by decide +kernel, by decide +kernel⟩, List.mem_of_getElem? (i := 133) (by decide +kernel), List.mem_of_getElem? (i := 555) (by decide +kernel), List.mem_of_getElem? (i := 556) (by decide +kernel)⟩
theorem lw_p12 : lw_okq (⟨"BreadOvens$Survey", "noteLosses", "(IJ)V"⟩, 10) := ⟨⟨by decide +kernel, by decide +kernel⟩, List.mem_of_getElem? (i := 133) (by decide +kernel), List.mem_of_getElem? (i := 559) (by decide +kernel), List.mem_of_getElem? (i := 560) (by decide +kernel)⟩
theorem lw_p13 : lw_okq (⟨"BreadOvens$Survey", "noteFar", "(II)V"⟩, 10) := ⟨⟨by decide +kernel, by decide +kernel⟩, List.mem_of_getElem? (i := 133) (by decide +kernel), List.mem_of_getElem? (i := 571) (by decide +kernel), List.mem_of_getElem? (i := 572) (by decide +kernel)⟩
theorem lw_p14 : lw_okq (⟨"BreadOvens$Builder", "withOneMore", "(I)I"⟩, 4) := ⟨⟨by decide +kernel, by decide +kernel⟩, List.mem_of_getElem? (i := 180) (by decide +kernel), List.mem_of_getElem? (i := 622) (by decide +kernel), List.mem_of_getElem? (i := 623) (by decide +kernel)⟩
theorem lw_p15 : lw_okq (⟨"BreadOvens$Builder", "startFrom", "(I)V"⟩, 4) := ⟨⟨by decide +kernel, by decide +kernel⟩, List.mem_of_getElem? (i := 180) (by decide +kernel), List.mem_of_getElem? (i := 626) (by decide +kernel), List.mem_of_getElem? (i := 627) (by decide +kernel)⟩
def lw_privs_1 : List (MethodName × Nat) := [(⟨"BreadOvens", "keepChange", "()V"⟩, 9), (⟨"BreadOvens", "workOut", "()V"⟩, 9), (⟨"BreadOvens$Ways", "takeRoads", "(LBreadOvens$Valley;)V"⟩, 1), (⟨"BreadOvens$Ways", "shorten", "(III)V"⟩, 1), (⟨"BreadOvens$Ovens", "carriedOver", "(II)I"⟩, 4), (⟨"BreadOvens", "refusalToDraw", "(LBreadOvens$Chart;II)I"⟩, 9), (⟨"BreadOvens", "paveFrom", "(LBreadOvens$Chart;I)V"⟩, 9), (⟨"BreadOvens$Ways", "nextOf", "(LBreadOvens$Valley;II)I"⟩, 1), (⟨"BreadOvens$Ovens", "feeds", "(III)Z"⟩, 4), (⟨"BreadOvens", "surveyChoices", "()V"⟩, 9), (⟨"BreadOvens$Survey", "forget", "()V"⟩, 10), (⟨"BreadOvens$Survey", "noteCost", "(IJ)V"⟩, 10), (⟨"BreadOvens$Survey", "noteLosses", "(IJ)V"⟩, 10), (⟨"BreadOvens$Survey", "noteFar", "(II)V"⟩, 10), (⟨"BreadOvens$Builder", "withOneMore", "(I)I"⟩, 4), (⟨"BreadOvens$Builder", "startFrom", "(I)V"⟩, 4)]
theorem lw_r1 : ∀ q ∈ lw_privs_1, lw_okq q := List.forall_mem_cons.mpr ⟨lw_p0, List.forall_mem_cons.mpr ⟨lw_p1, List.forall_mem_cons.mpr ⟨lw_p2, List.forall_mem_cons.mpr ⟨lw_p3, List.forall_mem_cons.mpr ⟨lw_p4, List.forall_mem_cons.mpr ⟨lw_p5, List.forall_mem_cons.mpr ⟨lw_p6, List.forall_mem_cons.mpr ⟨lw_p7, List.forall_mem_cons.mpr ⟨lw_p8, List.forall_mem_cons.mpr ⟨lw_p9, List.forall_mem_cons.mpr ⟨lw_p10, List.forall_mem_cons.mpr ⟨lw_p11, List.forall_mem_cons.mpr ⟨lw_p12, List.forall_mem_cons.mpr ⟨lw_p13, List.forall_mem_cons.mpr ⟨lw_p14, List.forall_mem_cons.mpr ⟨lw_p15, fun _ h => absurd h List.not_mem_nil⟩⟩⟩⟩⟩⟩⟩⟩⟩⟩⟩⟩⟩⟩⟩⟩
theorem lw_p16 : lw_okq (⟨"BreadOvens$Builder", "consider", "(I)V"⟩, 4) := ⟨⟨by decide +kernel, by decide +kernel⟩, List.mem_of_getElem? (i := 180) (by decide +kernel), List.mem_of_getElem? (i := 632) (by decide +kernel), List.mem_of_getElem? (i := 633) (by decide +kernel)⟩
theorem lw_p17 : lw_okq (⟨"BreadOvens$Builder", "withOneForAnother", "(I)I"⟩, 4) := ⟨⟨by decide +kernel, by decide +kernel⟩, List.mem_of_getElem? (i := 180) (by decide +kernel), List.mem_of_getElem? (i := 645) (by decide +kernel), List.mem_of_getElem? (i := 646) (by decide +kernel)⟩
theorem lw_p18 : lw_okq (⟨"BreadOvens$Purse", "addUpWorths", "()V"⟩, 6) := ⟨⟨by decide +kernel, by decide +kernel⟩, List.mem_of_getElem? (i := 200) (by decide +kernel), List.mem_of_getElem? (i := 693) (by decide +kernel), List.mem_of_getElem? (i := 694) (by decide +kernel)⟩
theorem lw_p19 : lw_okq (⟨"BreadOvens$Purse", "movePrices", "(I)I"⟩, 6) := ⟨⟨by decide +kernel, by decide +kernel⟩, List.mem_of_getElem? (i := 200) (by decide +kernel), List.mem_of_getElem? (i := 713) (by decide +kernel), List.mem_of_getElem? (i := 714) (by decide +kernel)⟩
theorem lw_p20 : lw_okq (⟨"BreadOvens$Purse", "giversOfTop", "(I)I"⟩, 6) := ⟨⟨by decide +kernel, by decide +kernel⟩, List.mem_of_getElem? (i := 200) (by decide +kernel), List.mem_of_getElem? (i := 717) (by decide +kernel), List.mem_of_getElem? (i := 718) (by decide +kernel)⟩
theorem lw_p21 : lw_okq (⟨"BreadOvensModel", "keep", "()V"⟩, 39) := ⟨⟨by decide +kernel, by decide +kernel⟩, List.mem_of_getElem? (i := 758) (by decide +kernel), List.mem_of_getElem? (i := 894) (by decide +kernel), List.mem_of_getElem? (i := 895) (by decide +kernel)⟩
theorem lw_p22 : lw_okq (⟨"BreadOvensModel", "isVillage", "(I)Z"⟩, 39) := ⟨⟨by decide +kernel, by decide +kernel⟩, List.mem_of_getElem? (i := 758) (by decide +kernel), List.mem_of_getElem? (i := 902) (by decide +kernel), List.mem_of_getElem? (i := 903) (by decide +kernel)⟩
theorem lw_p23 : lw_okq (⟨"BreadOvensModel", "isRoad", "(JJJ)Z"⟩, 39) := ⟨⟨by decide +kernel, by decide +kernel⟩, List.mem_of_getElem? (i := 758) (by decide +kernel), List.mem_of_getElem? (i := 910) (by decide +kernel), List.mem_of_getElem? (i := 911) (by decide +kernel)⟩
theorem lw_p24 : lw_okq (⟨"BreadOvensModel", "isPlace", "(I)Z"⟩, 39) := ⟨⟨by decide +kernel, by decide +kernel⟩, List.mem_of_getElem? (i := 758) (by decide +kernel), List.mem_of_getElem? (i := 924) (by decide +kernel), List.mem_of_getElem? (i := 925) (by decide +kernel)⟩
theorem lw_p25 : lw_okq (⟨"BreadOvensModel", "findWays", "()V"⟩, 39) := ⟨⟨by decide +kernel, by decide +kernel⟩, List.mem_of_getElem? (i := 758) (by decide +kernel), List.mem_of_getElem? (i := 952) (by decide +kernel), List.mem_of_getElem? (i := 953) (by decide +kernel)⟩
theorem lw_p26 : lw_okq (⟨"BreadOvensModel", "isChoice", "(I)Z"⟩, 39) := ⟨⟨by decide +kernel, by decide +kernel⟩, List.mem_of_getElem? (i := 758) (by decide +kernel), List.mem_of_getElem? (i := 964) (by decide +kernel), List.mem_of_getElem? (i := 965) (by decide +kernel)⟩
theorem lw_p27 : lw_okq (⟨"BreadOvensModel", "isAllowed", "(I)Z"⟩, 39) := ⟨⟨by decide +kernel, by decide +kernel⟩, List.mem_of_getElem? (i := 758) (by decide +kernel), List.mem_of_getElem? (i := 968) (by decide +kernel), List.mem_of_getElem? (i := 969) (by decide +kernel)⟩
theorem lw_p28 : lw_okq (⟨"BreadOvensModel", "weigh", "(I)V"⟩, 39) := ⟨⟨by decide +kernel, by decide +kernel⟩, List.mem_of_getElem? (i := 758) (by decide +kernel), List.mem_of_getElem? (i := 977) (by decide +kernel), List.mem_of_getElem? (i := 978) (by decide +kernel)⟩
theorem lw_p29 : lw_okq (⟨"BreadOvensModel", "ovenCost", "(I)I"⟩, 39) := ⟨⟨by decide +kernel, by decide +kernel⟩, List.mem_of_getElem? (i := 758) (by decide +kernel), List.mem_of_getElem? (i := 981) (by decide +kernel), List.mem_of_getElem? (i := 982) (by decide +kernel)⟩
theorem lw_p30 : lw_okq (⟨"BreadOvensModel", "servedBy", "(II)I"⟩, 39) := ⟨⟨by decide +kernel, by decide +kernel⟩, List.mem_of_getElem? (i := 758) (by decide +kernel), List.mem_of_getElem? (i := 985) (by decide +kernel), List.mem_of_getElem? (i := 986) (by decide +kernel)⟩
theorem lw_p31 : lw_okq (⟨"BreadOvensModel", "carried", "(II)I"⟩, 39) := ⟨⟨by decide +kernel, by decide +kernel⟩, List.mem_of_getElem? (i := 758) (by decide +kernel), List.mem_of_getElem? (i := 989) (by decide +kernel), List.mem_of_getElem? (i := 990) (by decide +kernel)⟩
def lw_privs_2 : List (MethodName × Nat) := [(⟨"BreadOvens$Builder", "consider", "(I)V"⟩, 4), (⟨"BreadOvens$Builder", "withOneForAnother", "(I)I"⟩, 4), (⟨"BreadOvens$Purse", "addUpWorths", "()V"⟩, 6), (⟨"BreadOvens$Purse", "movePrices", "(I)I"⟩, 6), (⟨"BreadOvens$Purse", "giversOfTop", "(I)I"⟩, 6), (⟨"BreadOvensModel", "keep", "()V"⟩, 39), (⟨"BreadOvensModel", "isVillage", "(I)Z"⟩, 39), (⟨"BreadOvensModel", "isRoad", "(JJJ)Z"⟩, 39), (⟨"BreadOvensModel", "isPlace", "(I)Z"⟩, 39), (⟨"BreadOvensModel", "findWays", "()V"⟩, 39), (⟨"BreadOvensModel", "isChoice", "(I)Z"⟩, 39), (⟨"BreadOvensModel", "isAllowed", "(I)Z"⟩, 39), (⟨"BreadOvensModel", "weigh", "(I)V"⟩, 39), (⟨"BreadOvensModel", "ovenCost", "(I)I"⟩, 39), (⟨"BreadOvensModel", "servedBy", "(II)I"⟩, 39), (⟨"BreadOvensModel", "carried", "(II)I"⟩, 39)]
theorem lw_r2 : ∀ q ∈ lw_privs_2, lw_okq q := List.forall_mem_cons.mpr ⟨lw_p16, List.forall_mem_cons.mpr ⟨lw_p17, List.forall_mem_cons.mpr ⟨lw_p18, List.forall_mem_cons.mpr ⟨lw_p19, List.forall_mem_cons.mpr ⟨lw_p20, List.forall_mem_cons.mpr ⟨lw_p21, List.forall_mem_cons.mpr ⟨lw_p22, List.forall_mem_cons.mpr ⟨lw_p23, List.forall_mem_cons.mpr ⟨lw_p24, List.forall_mem_cons.mpr ⟨lw_p25, List.forall_mem_cons.mpr ⟨lw_p26, List.forall_mem_cons.mpr ⟨lw_p27, List.forall_mem_cons.mpr ⟨lw_p28, List.forall_mem_cons.mpr ⟨lw_p29, List.forall_mem_cons.mpr ⟨lw_p30, List.forall_mem_cons.mpr ⟨lw_p31, fun _ h => absurd h List.not_mem_nil⟩⟩⟩⟩⟩⟩⟩⟩⟩⟩⟩⟩⟩⟩⟩⟩
theorem lw_p32 : lw_okq (⟨"BreadOvensModel", "find", "(II)V"⟩, 39) := ⟨⟨by decide +kernel, by decide +kernel⟩, List.mem_of_getElem? (i := 758) (by decide +kernel), List.mem_of_getElem? (i := 1006) (by decide +kernel), List.mem_of_getElem? (i := 1007) (by decide +kernel)⟩
theorem lw_p33 : lw_okq (⟨"BreadOvensModel", "findNearest", "()V"⟩, 39) := ⟨⟨by decide +kernel, by decide +kernel⟩, List.mem_of_getElem? (i := 758) (by decide +kernel), List.mem_of_getElem? (i := 1040) (by decide +kernel), List.mem_of_getElem? (i := 1041) (by decide +kernel)⟩
theorem lw_p34 : lw_okq (⟨"BreadOvensModel", "shrines", "()I"⟩, 39) := ⟨⟨by decide +kernel, by decide +kernel⟩, List.mem_of_getElem? (i := 758) (by decide +kernel), List.mem_of_getElem? (i := 1052) (by decide +kernel), List.mem_of_getElem? (i := 1053) (by decide +kernel)⟩
theorem lw_p35 : lw_okq (⟨"BreadOvensModel", "begins", "(I)V"⟩, 39) := ⟨⟨by decide +kernel, by decide +kernel⟩, List.mem_of_getElem? (i := 758) (by decide +kernel), List.mem_of_getElem? (i := 1056) (by decide +kernel), List.mem_of_getElem? (i := 1057) (by decide +kernel)⟩
theorem lw_p36 : lw_okq (⟨"BreadOvensModel", "isLess", "(I)Z"⟩, 39) := ⟨⟨by decide +kernel, by decide +kernel⟩, List.mem_of_getElem? (i := 758) (by decide +kernel), List.mem_of_getElem? (i := 1060) (by decide +kernel), List.mem_of_getElem? (i := 1061) (by decide +kernel)⟩
theorem lw_p37 : lw_okq (⟨"BreadOvensModel", "given", "(II)J"⟩, 39) := ⟨⟨by decide +kernel, by decide +kernel⟩, List.mem_of_getElem? (i := 758) (by decide +kernel), List.mem_of_getElem? (i := 1085) (by decide +kernel), List.mem_of_getElem? (i := 1086) (by decide +kernel)⟩
theorem lw_p38 : lw_okq (⟨"BreadOvensModel", "worthOf", "(I)J"⟩, 39) := ⟨⟨by decide +kernel, by decide +kernel⟩, List.mem_of_getElem? (i := 758) (by decide +kernel), List.mem_of_getElem? (i := 1093) (by decide +kernel), List.mem_of_getElem? (i := 1094) (by decide +kernel)⟩
theorem lw_p39 : lw_okq (⟨"BreadOvensModel", "boundNow", "()J"⟩, 39) := ⟨⟨by decide +kernel, by decide +kernel⟩, List.mem_of_getElem? (i := 758) (by decide +kernel), List.mem_of_getElem? (i := 1101) (by decide +kernel), List.mem_of_getElem? (i := 1102) (by decide +kernel)⟩
theorem lw_p40 : lw_okq (⟨"BreadOvensModel", "findRichest", "()V"⟩, 39) := ⟨⟨by decide +kernel, by decide +kernel⟩, List.mem_of_getElem? (i := 758) (by decide +kernel), List.mem_of_getElem? (i := 1105) (by decide +kernel), List.mem_of_getElem? (i := 1106) (by decide +kernel)⟩
def lw_privs_3 : List (MethodName × Nat) := [(⟨"BreadOvensModel", "find", "(II)V"⟩, 39), (⟨"BreadOvensModel", "findNearest", "()V"⟩, 39), (⟨"BreadOvensModel", "shrines", "()I"⟩, 39), (⟨"BreadOvensModel", "begins", "(I)V"⟩, 39), (⟨"BreadOvensModel", "isLess", "(I)Z"⟩, 39), (⟨"BreadOvensModel", "given", "(II)J"⟩, 39), (⟨"BreadOvensModel", "worthOf", "(I)J"⟩, 39), (⟨"BreadOvensModel", "boundNow", "()J"⟩, 39), (⟨"BreadOvensModel", "findRichest", "()V"⟩, 39)]
theorem lw_r3 : ∀ q ∈ lw_privs_3, lw_okq q := List.forall_mem_cons.mpr ⟨lw_p32, List.forall_mem_cons.mpr ⟨lw_p33, List.forall_mem_cons.mpr ⟨lw_p34, List.forall_mem_cons.mpr ⟨lw_p35, List.forall_mem_cons.mpr ⟨lw_p36, List.forall_mem_cons.mpr ⟨lw_p37, List.forall_mem_cons.mpr ⟨lw_p38, List.forall_mem_cons.mpr ⟨lw_p39, List.forall_mem_cons.mpr ⟨lw_p40, fun _ h => absurd h List.not_mem_nil⟩⟩⟩⟩⟩⟩⟩⟩⟩
def lw_privs : List (MethodName × Nat) := lw_privs_1 ++ (lw_privs_2 ++ (lw_privs_3))
def lw_tbl : List Cond := k2_sels lw_privs ++ tables_1
theorem lw_privs_ok : ∀ q ∈ lw_privs, lw_okq q := by
  show ∀ q ∈ lw_privs_1 ++ (lw_privs_2 ++ (lw_privs_3)), lw_okq q
  exact List.forall_mem_append.mpr ⟨lw_r1, List.forall_mem_append.mpr ⟨lw_r2, lw_r3⟩⟩
def RX0 : String := "BreadOvens$Builder"
def TX0 : u_T := fun k => match k with
  | 0 => ("BreadOvens$Builder", "ovens", "LBreadOvens$Ovens;", true)
  | 1 => ("BreadOvens$Builder", "steps", "I", false)
  | 2 => ("BreadOvens$Builder", "found", "I", false)
  | _ => ("BreadOvens$Builder", "foundMeasure", "J", false)
def tyX0 : Nat → FieldType := fun k => match k with
  | 0 => .object "BreadOvens$Ovens"
  | 1 => .int
  | 2 => .int
  | _ => .long
abbrev wsX00 : List Cond := u_ws RX0 TX0 4
theorem nmX0 : ∀ a, a < 4 → ∀ b, b < 4 → a ≠ b → (TX0 a).2.1 ≠ (TX0 b).2.1 := by decide +kernel
theorem tyX0_ok : ∀ k, k < 4 → parseFieldDescriptor (TX0 k).2.2.1 = some (tyX0 k) := by decide +kernel
abbrev cX0_init : ByteArray := prog_2_method_1_code
def yX0_init : MethodName := ⟨RX0, "<init>", "(LBreadOvens$Ovens;)V"⟩
abbrev cX0_putUp : ByteArray := prog_2_method_2_code
def yX0_putUp : MethodName := ⟨RX0, "putUp", "()I"⟩
abbrev cX0_improve : ByteArray := prog_2_method_3_code
def yX0_improve : MethodName := ⟨RX0, "improve", "(I)I"⟩
abbrev cX0_withOneMore : ByteArray := prog_2_method_4_code
def yX0_withOneMore : MethodName := ⟨RX0, "withOneMore", "(I)I"⟩
abbrev cX0_withOneForAnother : ByteArray := prog_2_method_5_code
def yX0_withOneForAnother : MethodName := ⟨RX0, "withOneForAnother", "(I)I"⟩
abbrev cX0_startFrom : ByteArray := prog_2_method_6_code
def yX0_startFrom : MethodName := ⟨RX0, "startFrom", "(I)V"⟩
abbrev cX0_consider : ByteArray := prog_2_method_7_code
def yX0_consider : MethodName := ⟨RX0, "consider", "(I)V"⟩
def RX1 : String := "BreadOvens$Chart"
def TX1 : u_T := fun k => match k with
  | 0 => ("BreadOvens$Chart", "lane", "I", false)
  | 1 => ("BreadOvens$Chart", "size", "I", false)
  | _ => ("BreadOvens$Chart", "cells", "[J", true)
def tyX1 : Nat → FieldType := fun k => match k with
  | 0 => .int
  | 1 => .int
  | _ => .array .long
abbrev wsX10 : List Cond := u_ws RX1 TX1 3
theorem nmX1 : ∀ a, a < 3 → ∀ b, b < 3 → a ≠ b → (TX1 a).2.1 ≠ (TX1 b).2.1 := by decide +kernel
theorem tyX1_ok : ∀ k, k < 3 → parseFieldDescriptor (TX1 k).2.2.1 = some (tyX1 k) := by decide +kernel
abbrev cX1_init : ByteArray := prog_3_method_1_code
def yX1_init : MethodName := ⟨RX1, "<init>", "()V"⟩
abbrev cX1_renew : ByteArray := prog_3_method_2_code
def yX1_renew : MethodName := ⟨RX1, "renew", "(II)V"⟩
abbrev cX1_write : ByteArray := prog_3_method_3_code
def yX1_write : MethodName := ⟨RX1, "write", "(IJ)V"⟩
abbrev cX1_holdsRoad : ByteArray := prog_3_method_4_code
def yX1_holdsRoad : MethodName := ⟨RX1, "holdsRoad", "(I)Z"⟩
def RX2 : String := "BreadOvens$Diary"
def TX2 : u_T := fun k => match k with
  | 0 => ("BreadOvens$Diary", "pages", "[LBreadOvens$Valley;", true)
  | 1 => ("BreadOvens$Diary", "next", "I", false)
  | _ => ("BreadOvens$Diary", "kept", "I", false)
def tyX2 : Nat → FieldType := fun k => match k with
  | 0 => .array (.object "BreadOvens$Valley")
  | 1 => .int
  | _ => .int
abbrev wsX20 : List Cond := u_ws RX2 TX2 3
theorem nmX2 : ∀ a, a < 3 → ∀ b, b < 3 → a ≠ b → (TX2 a).2.1 ≠ (TX2 b).2.1 := by decide +kernel
theorem tyX2_ok : ∀ k, k < 3 → parseFieldDescriptor (TX2 k).2.2.1 = some (tyX2 k) := by decide +kernel
abbrev cX2_init : ByteArray := prog_4_method_1_code
def yX2_init : MethodName := ⟨RX2, "<init>", "()V"⟩
abbrev cX2_open : ByteArray := prog_4_method_2_code
def yX2_open : MethodName := ⟨RX2, "open", "(LBreadOvens$Valley;)V"⟩
abbrev cX2_close : ByteArray := prog_4_method_3_code
def yX2_close : MethodName := ⟨RX2, "close", "(LBreadOvens$Valley;)Z"⟩
abbrev cX2_turnBack : ByteArray := prog_4_method_4_code
def yX2_turnBack : MethodName := ⟨RX2, "turnBack", "(LBreadOvens$Valley;)V"⟩
def RX3 : String := "BreadOvens$Ovens"
def TX3 : u_T := fun k => match k with
  | 0 => ("BreadOvens$Ovens", "valley", "LBreadOvens$Valley;", true)
  | 1 => ("BreadOvens$Ovens", "carried", "[I", true)
  | 2 => ("BreadOvens$Ovens", "shrines", "I", false)
  | _ => ("BreadOvens$Ovens", "bigs", "I", false)
def tyX3 : Nat → FieldType := fun k => match k with
  | 0 => .object "BreadOvens$Valley"
  | 1 => .array .int
  | 2 => .int
  | _ => .int
abbrev wsX30 : List Cond := u_ws RX3 TX3 4
theorem nmX3 : ∀ a, a < 4 → ∀ b, b < 4 → a ≠ b → (TX3 a).2.1 ≠ (TX3 b).2.1 := by decide +kernel
theorem tyX3_ok : ∀ k, k < 4 → parseFieldDescriptor (TX3 k).2.2.1 = some (tyX3 k) := by decide +kernel
abbrev cX3_init : ByteArray := prog_5_method_1_code
def yX3_init : MethodName := ⟨RX3, "<init>", "(LBreadOvens$Valley;)V"⟩
abbrev cX3_carry : ByteArray := prog_5_method_2_code
def yX3_carry : MethodName := ⟨RX3, "carry", "(LBreadOvens$Ways;)V"⟩
abbrev cX3_carriedOver : ByteArray := prog_5_method_3_code
def yX3_carriedOver : MethodName := ⟨RX3, "carriedOver", "(II)I"⟩
abbrev cX3_carriedTo : ByteArray := prog_5_method_4_code
def yX3_carriedTo : MethodName := ⟨RX3, "carriedTo", "(II)I"⟩
abbrev cX3_isChoice : ByteArray := prog_5_method_5_code
def yX3_isChoice : MethodName := ⟨RX3, "isChoice", "(I)Z"⟩
abbrev cX3_mayStand : ByteArray := prog_5_method_6_code
def yX3_mayStand : MethodName := ⟨RX3, "mayStand", "(I)Z"⟩
abbrev cX3_ovenFor : ByteArray := prog_5_method_7_code
def yX3_ovenFor : MethodName := ⟨RX3, "ovenFor", "(II)I"⟩
abbrev cX3_measureOf : ByteArray := prog_5_method_8_code
def yX3_measureOf : MethodName := ⟨RX3, "measureOf", "(I)J"⟩
abbrev cX3_feeds : ByteArray := prog_5_method_9_code
def yX3_feeds : MethodName := ⟨RX3, "feeds", "(III)Z"⟩
abbrev cX3_villagesOf : ByteArray := prog_5_method_10_code
def yX3_villagesOf : MethodName := ⟨RX3, "villagesOf", "(II)I"⟩
abbrev cX3_loavesOf : ByteArray := prog_5_method_11_code
def yX3_loavesOf : MethodName := ⟨RX3, "loavesOf", "(II)I"⟩
abbrev cX3_farthestOf : ByteArray := prog_5_method_12_code
def yX3_farthestOf : MethodName := ⟨RX3, "farthestOf", "(II)I"⟩
abbrev cX3_farthestOfAll : ByteArray := prog_5_method_13_code
def yX3_farthestOfAll : MethodName := ⟨RX3, "farthestOfAll", "(I)I"⟩
def RX4 : String := "BreadOvens$Purse"
def TX4 : u_T := fun k => match k with
  | 0 => ("BreadOvens$Purse", "valley", "LBreadOvens$Valley;", true)
  | 1 => ("BreadOvens$Purse", "ovens", "LBreadOvens$Ovens;", true)
  | 2 => ("BreadOvens$Purse", "prices", "[J", true)
  | 3 => ("BreadOvens$Purse", "worths", "[J", true)
  | 4 => ("BreadOvens$Purse", "topChoice", "I", false)
  | _ => ("BreadOvens$Purse", "highestBound", "J", false)
def tyX4 : Nat → FieldType := fun k => match k with
  | 0 => .object "BreadOvens$Valley"
  | 1 => .object "BreadOvens$Ovens"
  | 2 => .array .long
  | 3 => .array .long
  | 4 => .int
  | _ => .long
abbrev wsX40 : List Cond := u_ws RX4 TX4 6
theorem nmX4 : ∀ a, a < 6 → ∀ b, b < 6 → a ≠ b → (TX4 a).2.1 ≠ (TX4 b).2.1 := by decide +kernel
theorem tyX4_ok : ∀ k, k < 6 → parseFieldDescriptor (TX4 k).2.2.1 = some (tyX4 k) := by decide +kernel
abbrev cX4_init : ByteArray := prog_6_method_1_code
def yX4_init : MethodName := ⟨RX4, "<init>", "(LBreadOvens$Valley;LBreadOvens$Ovens;)V"⟩
abbrev cX4_forgetFrom : ByteArray := prog_6_method_2_code
def yX4_forgetFrom : MethodName := ⟨RX4, "forgetFrom", "(I)V"⟩
abbrev cX4_giftOf : ByteArray := prog_6_method_3_code
def yX4_giftOf : MethodName := ⟨RX4, "giftOf", "(II)J"⟩
abbrev cX4_worthOf : ByteArray := prog_6_method_4_code
def yX4_worthOf : MethodName := ⟨RX4, "worthOf", "(I)J"⟩
abbrev cX4_findTop : ByteArray := prog_6_method_5_code
def yX4_findTop : MethodName := ⟨RX4, "findTop", "()V"⟩
abbrev cX4_addUpWorths : ByteArray := prog_6_method_6_code
def yX4_addUpWorths : MethodName := ⟨RX4, "addUpWorths", "()V"⟩
abbrev cX4_boundOfTop : ByteArray := prog_6_method_7_code
def yX4_boundOfTop : MethodName := ⟨RX4, "boundOfTop", "()J"⟩
abbrev cX4_climbFromTop : ByteArray := prog_6_method_8_code
def yX4_climbFromTop : MethodName := ⟨RX4, "climbFromTop", "(II)I"⟩
abbrev cX4_movePrices : ByteArray := prog_6_method_9_code
def yX4_movePrices : MethodName := ⟨RX4, "movePrices", "(I)I"⟩
abbrev cX4_movedPrice : ByteArray := prog_6_method_10_code
def yX4_movedPrice : MethodName := ⟨RX4, "movedPrice", "(JII)J"⟩
abbrev cX4_giversOfTop : ByteArray := prog_6_method_11_code
def yX4_giversOfTop : MethodName := ⟨RX4, "giversOfTop", "(I)I"⟩
def RX5 : String := "BreadOvens$Survey"
def TX5 : u_T := fun k => match k with
  | 0 => ("BreadOvens$Survey", "leastCost", "J", false)
  | 1 => ("BreadOvens$Survey", "bestChoice", "I", false)
  | 2 => ("BreadOvens$Survey", "howMany", "I", false)
  | 3 => ("BreadOvens$Survey", "inAll", "I", false)
  | 4 => ("BreadOvens$Survey", "inSome", "I", false)
  | 5 => ("BreadOvens$Survey", "nextCost", "J", false)
  | 6 => ("BreadOvens$Survey", "nextChoice", "I", false)
  | 7 => ("BreadOvens$Survey", "leastFar", "I", false)
  | 8 => ("BreadOvens$Survey", "nearChoice", "I", false)
  | _ => ("BreadOvens$Survey", "costWithout", "[J", true)
def tyX5 : Nat → FieldType := fun k => match k with
  | 0 => .long
  | 1 => .int
  | 2 => .int
  | 3 => .int
  | 4 => .int
  | 5 => .long
  | 6 => .int
  | 7 => .int
  | 8 => .int
  | _ => .array .long
abbrev wsX50 : List Cond := u_ws RX5 TX5 10
theorem nmX5 : ∀ a, a < 10 → ∀ b, b < 10 → a ≠ b → (TX5 a).2.1 ≠ (TX5 b).2.1 := by decide +kernel
theorem tyX5_ok : ∀ k, k < 10 → parseFieldDescriptor (TX5 k).2.2.1 = some (tyX5 k) := by decide +kernel
abbrev cX5_init : ByteArray := prog_7_method_1_code
def yX5_init : MethodName := ⟨RX5, "<init>", "()V"⟩
abbrev cX5_take : ByteArray := prog_7_method_2_code
def yX5_take : MethodName := ⟨RX5, "take", "(LBreadOvens$Ovens;)V"⟩
abbrev cX5_forget : ByteArray := prog_7_method_3_code
def yX5_forget : MethodName := ⟨RX5, "forget", "()V"⟩
abbrev cX5_noteCost : ByteArray := prog_7_method_4_code
def yX5_noteCost : MethodName := ⟨RX5, "noteCost", "(IJ)V"⟩
abbrev cX5_noteLosses : ByteArray := prog_7_method_5_code
def yX5_noteLosses : MethodName := ⟨RX5, "noteLosses", "(IJ)V"⟩
abbrev cX5_noteFar : ByteArray := prog_7_method_6_code
def yX5_noteFar : MethodName := ⟨RX5, "noteFar", "(II)V"⟩
abbrev cX5_dearestLoss : ByteArray := prog_7_method_7_code
def yX5_dearestLoss : MethodName := ⟨RX5, "dearestLoss", "(LBreadOvens$Valley;)I"⟩
def RX6 : String := "BreadOvens$Valley"
def TX6 : u_T := fun k => match k with
  | 0 => ("BreadOvens$Valley", "villages", "I", false)
  | 1 => ("BreadOvens$Valley", "places", "I", false)
  | 2 => ("BreadOvens$Valley", "number", "I", false)
  | 3 => ("BreadOvens$Valley", "loaves", "[I", true)
  | 4 => ("BreadOvens$Valley", "lengths", "[I", true)
  | 5 => ("BreadOvens$Valley", "homes", "[I", true)
  | 6 => ("BreadOvens$Valley", "kinds", "[I", true)
  | 7 => ("BreadOvens$Valley", "builds", "[I", true)
  | _ => ("BreadOvens$Valley", "reaches", "[I", true)
def tyX6 : Nat → FieldType := fun k => match k with
  | 0 => .int
  | 1 => .int
  | 2 => .int
  | 3 => .array .int
  | 4 => .array .int
  | 5 => .array .int
  | 6 => .array .int
  | 7 => .array .int
  | _ => .array .int
abbrev wsX60 : List Cond := u_ws RX6 TX6 9
theorem nmX6 : ∀ a, a < 9 → ∀ b, b < 9 → a ≠ b → (TX6 a).2.1 ≠ (TX6 b).2.1 := by decide +kernel
theorem tyX6_ok : ∀ k, k < 9 → parseFieldDescriptor (TX6 k).2.2.1 = some (tyX6 k) := by decide +kernel
abbrev cX6_init : ByteArray := prog_8_method_1_code
def yX6_init : MethodName := ⟨RX6, "<init>", "()V"⟩
abbrev cX6_hasVillage : ByteArray := prog_8_method_2_code
def yX6_hasVillage : MethodName := ⟨RX6, "hasVillage", "(J)Z"⟩
abbrev cX6_hasPlace : ByteArray := prog_8_method_3_code
def yX6_hasPlace : MethodName := ⟨RX6, "hasPlace", "(I)Z"⟩
abbrev cX6_takesRoad : ByteArray := prog_8_method_4_code
def yX6_takesRoad : MethodName := ⟨RX6, "takesRoad", "(JJJ)Z"⟩
abbrev cX6_settle : ByteArray := prog_8_method_5_code
def yX6_settle : MethodName := ⟨RX6, "settle", "(I)I"⟩
abbrev cX6_stake : ByteArray := prog_8_method_6_code
def yX6_stake : MethodName := ⟨RX6, "stake", "(III)I"⟩
abbrev cX6_lengthOf : ByteArray := prog_8_method_7_code
def yX6_lengthOf : MethodName := ⟨RX6, "lengthOf", "(II)I"⟩
abbrev cX6_pave : ByteArray := prog_8_method_8_code
def yX6_pave : MethodName := ⟨RX6, "pave", "(III)V"⟩
abbrev cX6_roads : ByteArray := prog_8_method_9_code
def yX6_roads : MethodName := ⟨RX6, "roads", "()I"⟩
abbrev cX6_allLoaves : ByteArray := prog_8_method_10_code
def yX6_allLoaves : MethodName := ⟨RX6, "allLoaves", "()I"⟩
abbrev cX6_placesOfKind : ByteArray := prog_8_method_11_code
def yX6_placesOfKind : MethodName := ⟨RX6, "placesOfKind", "(I)I"⟩
abbrev cX6_ovenCost : ByteArray := prog_8_method_12_code
def yX6_ovenCost : MethodName := ⟨RX6, "ovenCost", "(I)I"⟩
abbrev cX6_copyFrom : ByteArray := prog_8_method_13_code
def yX6_copyFrom : MethodName := ⟨RX6, "copyFrom", "(LBreadOvens$Valley;)V"⟩
abbrev cX6_isLike : ByteArray := prog_8_method_14_code
def yX6_isLike : MethodName := ⟨RX6, "isLike", "(LBreadOvens$Valley;)Z"⟩
abbrev cX6_sameRows : ByteArray := prog_8_method_15_code
def yX6_sameRows : MethodName := ⟨RX6, "sameRows", "([I[I)Z"⟩
def RX7 : String := "BreadOvens$Ways"
def TX7 : u_T := fun k => match k with
  | _ => ("BreadOvens$Ways", "sums", "[I", true)
def tyX7 : Nat → FieldType := fun k => match k with
  | _ => .array .int
abbrev wsX70 : List Cond := u_ws RX7 TX7 1
theorem nmX7 : ∀ a, a < 1 → ∀ b, b < 1 → a ≠ b → (TX7 a).2.1 ≠ (TX7 b).2.1 := by decide +kernel
theorem tyX7_ok : ∀ k, k < 1 → parseFieldDescriptor (TX7 k).2.2.1 = some (tyX7 k) := by decide +kernel
abbrev cX7_init : ByteArray := prog_9_method_1_code
def yX7_init : MethodName := ⟨RX7, "<init>", "()V"⟩
abbrev cX7_between : ByteArray := prog_9_method_2_code
def yX7_between : MethodName := ⟨RX7, "between", "(II)I"⟩
abbrev cX7_measure : ByteArray := prog_9_method_3_code
def yX7_measure : MethodName := ⟨RX7, "measure", "(LBreadOvens$Valley;)V"⟩
abbrev cX7_takeRoads : ByteArray := prog_9_method_4_code
def yX7_takeRoads : MethodName := ⟨RX7, "takeRoads", "(LBreadOvens$Valley;)V"⟩
abbrev cX7_shorten : ByteArray := prog_9_method_5_code
def yX7_shorten : MethodName := ⟨RX7, "shorten", "(III)V"⟩
abbrev cX7_villageAt : ByteArray := prog_9_method_6_code
def yX7_villageAt : MethodName := ⟨RX7, "villageAt", "(LBreadOvens$Valley;III)I"⟩
abbrev cX7_nextOf : ByteArray := prog_9_method_7_code
def yX7_nextOf : MethodName := ⟨RX7, "nextOf", "(LBreadOvens$Valley;II)I"⟩
def RX8 : String := "BreadOvens"
def TX8 : u_T := fun k => match k with
  | 0 => ("BreadOvens", "valley", "LBreadOvens$Valley;", true)
  | 1 => ("BreadOvens", "diary", "LBreadOvens$Diary;", true)
  | 2 => ("BreadOvens", "charts", "[LBreadOvens$Chart;", true)
  | 3 => ("BreadOvens", "ways", "LBreadOvens$Ways;", true)
  | 4 => ("BreadOvens", "ovens", "LBreadOvens$Ovens;", true)
  | 5 => ("BreadOvens", "survey", "LBreadOvens$Survey;", true)
  | 6 => ("BreadOvens", "builder", "LBreadOvens$Builder;", true)
  | 7 => ("BreadOvens", "purse", "LBreadOvens$Purse;", true)
  | _ => ("BreadOvens", "surveyed", "Z", false)
def tyX8 : Nat → FieldType := fun k => match k with
  | 0 => .object "BreadOvens$Valley"
  | 1 => .object "BreadOvens$Diary"
  | 2 => .array (.object "BreadOvens$Chart")
  | 3 => .object "BreadOvens$Ways"
  | 4 => .object "BreadOvens$Ovens"
  | 5 => .object "BreadOvens$Survey"
  | 6 => .object "BreadOvens$Builder"
  | 7 => .object "BreadOvens$Purse"
  | _ => .boolean
abbrev wsX80 : List Cond := u_ws RX8 TX8 9
theorem nmX8 : ∀ a, a < 9 → ∀ b, b < 9 → a ≠ b → (TX8 a).2.1 ≠ (TX8 b).2.1 := by decide +kernel
theorem tyX8_ok : ∀ k, k < 9 → parseFieldDescriptor (TX8 k).2.2.1 = some (tyX8 k) := by decide +kernel
abbrev cX8_init : ByteArray := prog_1_method_1_code
def yX8_init : MethodName := ⟨RX8, "<init>", "()V"⟩
abbrev cX8_village : ByteArray := prog_1_method_2_code
def yX8_village : MethodName := ⟨RX8, "village", "(I)I"⟩
abbrev cX8_loaves : ByteArray := prog_1_method_3_code
def yX8_loaves : MethodName := ⟨RX8, "loaves", "(II)I"⟩
abbrev cX8_road : ByteArray := prog_1_method_4_code
def yX8_road : MethodName := ⟨RX8, "road", "(III)I"⟩
abbrev cX8_place : ByteArray := prog_1_method_5_code
def yX8_place : MethodName := ⟨RX8, "place", "(III)I"⟩
abbrev cX8_reach : ByteArray := prog_1_method_6_code
def yX8_reach : MethodName := ⟨RX8, "reach", "(II)I"⟩
abbrev cX8_number : ByteArray := prog_1_method_7_code
def yX8_number : MethodName := ⟨RX8, "number", "(I)I"⟩
abbrev cX8_map : ByteArray := prog_1_method_8_code
def yX8_map : MethodName := ⟨RX8, "map", "(III)I"⟩
abbrev cX8_lay : ByteArray := prog_1_method_9_code
def yX8_lay : MethodName := ⟨RX8, "lay", "(IIJ)I"⟩
abbrev cX8_draw : ByteArray := prog_1_method_10_code
def yX8_draw : MethodName := ⟨RX8, "draw", "(III)I"⟩
abbrev cX8_apart : ByteArray := prog_1_method_11_code
def yX8_apart : MethodName := ⟨RX8, "apart", "(II)I"⟩
abbrev cX8_way : ByteArray := prog_1_method_12_code
def yX8_way : MethodName := ⟨RX8, "way", "(III)I"⟩
abbrev cX8_allowed : ByteArray := prog_1_method_13_code
def yX8_allowed : MethodName := ⟨RX8, "allowed", "(I)I"⟩
abbrev cX8_cost : ByteArray := prog_1_method_14_code
def yX8_cost : MethodName := ⟨RX8, "cost", "(I)J"⟩
abbrev cX8_served : ByteArray := prog_1_method_15_code
def yX8_served : MethodName := ⟨RX8, "served", "(II)I"⟩
abbrev cX8_share : ByteArray := prog_1_method_16_code
def yX8_share : MethodName := ⟨RX8, "share", "(III)I"⟩
abbrev cX8_least : ByteArray := prog_1_method_17_code
def yX8_least : MethodName := ⟨RX8, "least", "()J"⟩
abbrev cX8_best : ByteArray := prog_1_method_18_code
def yX8_best : MethodName := ⟨RX8, "best", "()I"⟩
abbrev cX8_many : ByteArray := prog_1_method_19_code
def yX8_many : MethodName := ⟨RX8, "many", "()I"⟩
abbrev cX8_every : ByteArray := prog_1_method_20_code
def yX8_every : MethodName := ⟨RX8, "every", "(I)I"⟩
abbrev cX8_second : ByteArray := prog_1_method_21_code
def yX8_second : MethodName := ⟨RX8, "second", "(I)I"⟩
abbrev cX8_lose : ByteArray := prog_1_method_22_code
def yX8_lose : MethodName := ⟨RX8, "lose", "(I)J"⟩
abbrev cX8_worst : ByteArray := prog_1_method_23_code
def yX8_worst : MethodName := ⟨RX8, "worst", "()I"⟩
abbrev cX8_farthest : ByteArray := prog_1_method_24_code
def yX8_farthest : MethodName := ⟨RX8, "farthest", "()I"⟩
abbrev cX8_nearest : ByteArray := prog_1_method_25_code
def yX8_nearest : MethodName := ⟨RX8, "nearest", "()I"⟩
abbrev cX8_added : ByteArray := prog_1_method_26_code
def yX8_added : MethodName := ⟨RX8, "added", "()I"⟩
abbrev cX8_changed : ByteArray := prog_1_method_27_code
def yX8_changed : MethodName := ⟨RX8, "changed", "(I)I"⟩
abbrev cX8_moves : ByteArray := prog_1_method_28_code
def yX8_moves : MethodName := ⟨RX8, "moves", "()I"⟩
abbrev cX8_price : ByteArray := prog_1_method_29_code
def yX8_price : MethodName := ⟨RX8, "price", "(II)I"⟩
abbrev cX8_priced : ByteArray := prog_1_method_30_code
def yX8_priced : MethodName := ⟨RX8, "priced", "(I)J"⟩
abbrev cX8_gives : ByteArray := prog_1_method_31_code
def yX8_gives : MethodName := ⟨RX8, "gives", "(II)J"⟩
abbrev cX8_worth : ByteArray := prog_1_method_32_code
def yX8_worth : MethodName := ⟨RX8, "worth", "(I)J"⟩
abbrev cX8_bound : ByteArray := prog_1_method_33_code
def yX8_bound : MethodName := ⟨RX8, "bound", "()J"⟩
abbrev cX8_climb : ByteArray := prog_1_method_34_code
def yX8_climb : MethodName := ⟨RX8, "climb", "(II)I"⟩
abbrev cX8_highest : ByteArray := prog_1_method_35_code
def yX8_highest : MethodName := ⟨RX8, "highest", "()J"⟩
abbrev cX8_undo : ByteArray := prog_1_method_36_code
def yX8_undo : MethodName := ⟨RX8, "undo", "()I"⟩
abbrev cX8_count : ByteArray := prog_1_method_37_code
def yX8_count : MethodName := ⟨RX8, "count", "(I)I"⟩
abbrev cX8_isWithin : ByteArray := prog_1_method_38_code
def yX8_isWithin : MethodName := ⟨RX8, "isWithin", "(JJJ)Z"⟩
abbrev cX8_isMap : ByteArray := prog_1_method_39_code
def yX8_isMap : MethodName := ⟨RX8, "isMap", "(I)Z"⟩
abbrev cX8_isLane : ByteArray := prog_1_method_40_code
def yX8_isLane : MethodName := ⟨RX8, "isLane", "(I)Z"⟩
abbrev cX8_isIn : ByteArray := prog_1_method_41_code
def yX8_isIn : MethodName := ⟨RX8, "isIn", "(II)Z"⟩
abbrev cX8_keepChange : ByteArray := prog_1_method_42_code
def yX8_keepChange : MethodName := ⟨RX8, "keepChange", "()V"⟩
abbrev cX8_workOut : ByteArray := prog_1_method_43_code
def yX8_workOut : MethodName := ⟨RX8, "workOut", "()V"⟩
abbrev cX8_surveyChoices : ByteArray := prog_1_method_44_code
def yX8_surveyChoices : MethodName := ⟨RX8, "surveyChoices", "()V"⟩
abbrev cX8_refusalToDraw : ByteArray := prog_1_method_45_code
def yX8_refusalToDraw : MethodName := ⟨RX8, "refusalToDraw", "(LBreadOvens$Chart;II)I"⟩
abbrev cX8_paveFrom : ByteArray := prog_1_method_46_code
def yX8_paveFrom : MethodName := ⟨RX8, "paveFrom", "(LBreadOvens$Chart;I)V"⟩
def RX9 : String := "BreadOvensModel"
def TX9 : u_T := fun k => match k with
  | 0 => ("BreadOvensModel", "villages", "I", false)
  | 1 => ("BreadOvensModel", "bread", "[I", true)
  | 2 => ("BreadOvensModel", "prices", "[J", true)
  | 3 => ("BreadOvensModel", "roads", "[I", true)
  | 4 => ("BreadOvensModel", "places", "I", false)
  | 5 => ("BreadOvensModel", "at", "[I", true)
  | 6 => ("BreadOvensModel", "kinds", "[I", true)
  | 7 => ("BreadOvensModel", "builds", "[I", true)
  | 8 => ("BreadOvensModel", "reaches", "[I", true)
  | 9 => ("BreadOvensModel", "most", "I", false)
  | 10 => ("BreadOvensModel", "lanes", "[I", true)
  | 11 => ("BreadOvensModel", "sizes", "[I", true)
  | 12 => ("BreadOvensModel", "cells", "[J", true)
  | 13 => ("BreadOvensModel", "kept", "I", false)
  | 14 => ("BreadOvensModel", "oVillages", "[I", true)
  | 15 => ("BreadOvensModel", "oBread", "[I", true)
  | 16 => ("BreadOvensModel", "oRoads", "[I", true)
  | 17 => ("BreadOvensModel", "oPlaces", "[I", true)
  | 18 => ("BreadOvensModel", "oReaches", "[I", true)
  | 19 => ("BreadOvensModel", "oMost", "[I", true)
  | 20 => ("BreadOvensModel", "drafted", "[I", true)
  | 21 => ("BreadOvensModel", "ways", "[I", true)
  | 22 => ("BreadOvensModel", "unserved", "I", false)
  | 23 => ("BreadOvensModel", "costs", "J", false)
  | 24 => ("BreadOvensModel", "far", "I", false)
  | 25 => ("BreadOvensModel", "foundBest", "I", false)
  | 26 => ("BreadOvensModel", "foundLeast", "J", false)
  | 27 => ("BreadOvensModel", "foundMany", "I", false)
  | 28 => ("BreadOvensModel", "foundAll", "I", false)
  | 29 => ("BreadOvensModel", "foundAny", "I", false)
  | 30 => ("BreadOvensModel", "nearestOne", "I", false)
  | 31 => ("BreadOvensModel", "nearestFar", "I", false)
  | 32 => ("BreadOvensModel", "moved", "I", false)
  | 33 => ("BreadOvensModel", "leastUnserved", "I", false)
  | 34 => ("BreadOvensModel", "leastCosts", "J", false)
  | 35 => ("BreadOvensModel", "worths", "[J", true)
  | 36 => ("BreadOvensModel", "richest", "I", false)
  | 37 => ("BreadOvensModel", "riches", "J", false)
  | _ => ("BreadOvensModel", "high", "J", false)
def tyX9 : Nat → FieldType := fun k => match k with
  | 0 => .int
  | 1 => .array .int
  | 2 => .array .long
  | 3 => .array .int
  | 4 => .int
  | 5 => .array .int
  | 6 => .array .int
  | 7 => .array .int
  | 8 => .array .int
  | 9 => .int
  | 10 => .array .int
  | 11 => .array .int
  | 12 => .array .long
  | 13 => .int
  | 14 => .array .int
  | 15 => .array .int
  | 16 => .array .int
  | 17 => .array .int
  | 18 => .array .int
  | 19 => .array .int
  | 20 => .array .int
  | 21 => .array .int
  | 22 => .int
  | 23 => .long
  | 24 => .int
  | 25 => .int
  | 26 => .long
  | 27 => .int
  | 28 => .int
  | 29 => .int
  | 30 => .int
  | 31 => .int
  | 32 => .int
  | 33 => .int
  | 34 => .long
  | 35 => .array .long
  | 36 => .int
  | 37 => .long
  | _ => .long
abbrev wsX90 : List Cond := u_ws RX9 TX9 39
theorem nmX9 : ∀ a, a < 39 → ∀ b, b < 39 → a ≠ b → (TX9 a).2.1 ≠ (TX9 b).2.1 := by decide +kernel
theorem tyX9_ok : ∀ k, k < 39 → parseFieldDescriptor (TX9 k).2.2.1 = some (tyX9 k) := by decide +kernel
abbrev cX9_init : ByteArray := prog_11_method_1_code
def yX9_init : MethodName := ⟨RX9, "<init>", "()V"⟩
abbrev cX9_in : ByteArray := prog_11_method_3_code
def yX9_in : MethodName := ⟨RX9, "in", "(JJJ)Z"⟩
abbrev cX9_keep : ByteArray := prog_11_method_4_code
def yX9_keep : MethodName := ⟨RX9, "keep", "()V"⟩
abbrev cX9_undo : ByteArray := prog_11_method_5_code
def yX9_undo : MethodName := ⟨RX9, "undo", "()I"⟩
abbrev cX9_isVillage : ByteArray := prog_11_method_6_code
def yX9_isVillage : MethodName := ⟨RX9, "isVillage", "(I)Z"⟩
abbrev cX9_isPlace : ByteArray := prog_11_method_7_code
def yX9_isPlace : MethodName := ⟨RX9, "isPlace", "(I)Z"⟩
abbrev cX9_village : ByteArray := prog_11_method_8_code
def yX9_village : MethodName := ⟨RX9, "village", "(I)I"⟩
abbrev cX9_loaves : ByteArray := prog_11_method_9_code
def yX9_loaves : MethodName := ⟨RX9, "loaves", "(II)I"⟩
abbrev cX9_isRoad : ByteArray := prog_11_method_10_code
def yX9_isRoad : MethodName := ⟨RX9, "isRoad", "(JJJ)Z"⟩
abbrev cX9_road : ByteArray := prog_11_method_11_code
def yX9_road : MethodName := ⟨RX9, "road", "(III)I"⟩
abbrev cX9_place : ByteArray := prog_11_method_12_code
def yX9_place : MethodName := ⟨RX9, "place", "(III)I"⟩
abbrev cX9_reach : ByteArray := prog_11_method_13_code
def yX9_reach : MethodName := ⟨RX9, "reach", "(II)I"⟩
abbrev cX9_number : ByteArray := prog_11_method_14_code
def yX9_number : MethodName := ⟨RX9, "number", "(I)I"⟩
abbrev cX9_map : ByteArray := prog_11_method_15_code
def yX9_map : MethodName := ⟨RX9, "map", "(III)I"⟩
abbrev cX9_lay : ByteArray := prog_11_method_16_code
def yX9_lay : MethodName := ⟨RX9, "lay", "(IIJ)I"⟩
abbrev cX9_draw : ByteArray := prog_11_method_17_code
def yX9_draw : MethodName := ⟨RX9, "draw", "(III)I"⟩
abbrev cX9_findWays : ByteArray := prog_11_method_18_code
def yX9_findWays : MethodName := ⟨RX9, "findWays", "()V"⟩
abbrev cX9_apart : ByteArray := prog_11_method_19_code
def yX9_apart : MethodName := ⟨RX9, "apart", "(II)I"⟩
abbrev cX9_way : ByteArray := prog_11_method_20_code
def yX9_way : MethodName := ⟨RX9, "way", "(III)I"⟩
abbrev cX9_carried : ByteArray := prog_11_method_21_code
def yX9_carried : MethodName := ⟨RX9, "carried", "(II)I"⟩
abbrev cX9_ovenCost : ByteArray := prog_11_method_22_code
def yX9_ovenCost : MethodName := ⟨RX9, "ovenCost", "(I)I"⟩
abbrev cX9_isChoice : ByteArray := prog_11_method_23_code
def yX9_isChoice : MethodName := ⟨RX9, "isChoice", "(I)Z"⟩
abbrev cX9_isAllowed : ByteArray := prog_11_method_24_code
def yX9_isAllowed : MethodName := ⟨RX9, "isAllowed", "(I)Z"⟩
abbrev cX9_servedBy : ByteArray := prog_11_method_25_code
def yX9_servedBy : MethodName := ⟨RX9, "servedBy", "(II)I"⟩
abbrev cX9_weigh : ByteArray := prog_11_method_26_code
def yX9_weigh : MethodName := ⟨RX9, "weigh", "(I)V"⟩
abbrev cX9_allowed : ByteArray := prog_11_method_27_code
def yX9_allowed : MethodName := ⟨RX9, "allowed", "(I)I"⟩
abbrev cX9_cost : ByteArray := prog_11_method_28_code
def yX9_cost : MethodName := ⟨RX9, "cost", "(I)J"⟩
abbrev cX9_served : ByteArray := prog_11_method_29_code
def yX9_served : MethodName := ⟨RX9, "served", "(II)I"⟩
abbrev cX9_share : ByteArray := prog_11_method_30_code
def yX9_share : MethodName := ⟨RX9, "share", "(III)I"⟩
abbrev cX9_find : ByteArray := prog_11_method_31_code
def yX9_find : MethodName := ⟨RX9, "find", "(II)V"⟩
abbrev cX9_least : ByteArray := prog_11_method_32_code
def yX9_least : MethodName := ⟨RX9, "least", "()J"⟩
abbrev cX9_best : ByteArray := prog_11_method_33_code
def yX9_best : MethodName := ⟨RX9, "best", "()I"⟩
abbrev cX9_many : ByteArray := prog_11_method_34_code
def yX9_many : MethodName := ⟨RX9, "many", "()I"⟩
abbrev cX9_every : ByteArray := prog_11_method_35_code
def yX9_every : MethodName := ⟨RX9, "every", "(I)I"⟩
abbrev cX9_second : ByteArray := prog_11_method_36_code
def yX9_second : MethodName := ⟨RX9, "second", "(I)I"⟩
abbrev cX9_lose : ByteArray := prog_11_method_37_code
def yX9_lose : MethodName := ⟨RX9, "lose", "(I)J"⟩
abbrev cX9_worst : ByteArray := prog_11_method_38_code
def yX9_worst : MethodName := ⟨RX9, "worst", "()I"⟩
abbrev cX9_findNearest : ByteArray := prog_11_method_39_code
def yX9_findNearest : MethodName := ⟨RX9, "findNearest", "()V"⟩
abbrev cX9_farthest : ByteArray := prog_11_method_40_code
def yX9_farthest : MethodName := ⟨RX9, "farthest", "()I"⟩
abbrev cX9_nearest : ByteArray := prog_11_method_41_code
def yX9_nearest : MethodName := ⟨RX9, "nearest", "()I"⟩
abbrev cX9_shrines : ByteArray := prog_11_method_42_code
def yX9_shrines : MethodName := ⟨RX9, "shrines", "()I"⟩
abbrev cX9_isLess : ByteArray := prog_11_method_43_code
def yX9_isLess : MethodName := ⟨RX9, "isLess", "(I)Z"⟩
abbrev cX9_begins : ByteArray := prog_11_method_44_code
def yX9_begins : MethodName := ⟨RX9, "begins", "(I)V"⟩
abbrev cX9_added : ByteArray := prog_11_method_45_code
def yX9_added : MethodName := ⟨RX9, "added", "()I"⟩
abbrev cX9_changed : ByteArray := prog_11_method_46_code
def yX9_changed : MethodName := ⟨RX9, "changed", "(I)I"⟩
abbrev cX9_moves : ByteArray := prog_11_method_47_code
def yX9_moves : MethodName := ⟨RX9, "moves", "()I"⟩
abbrev cX9_price : ByteArray := prog_11_method_48_code
def yX9_price : MethodName := ⟨RX9, "price", "(II)I"⟩
abbrev cX9_priced : ByteArray := prog_11_method_49_code
def yX9_priced : MethodName := ⟨RX9, "priced", "(I)J"⟩
abbrev cX9_given : ByteArray := prog_11_method_50_code
def yX9_given : MethodName := ⟨RX9, "given", "(II)J"⟩
abbrev cX9_gives : ByteArray := prog_11_method_51_code
def yX9_gives : MethodName := ⟨RX9, "gives", "(II)J"⟩
abbrev cX9_worthOf : ByteArray := prog_11_method_52_code
def yX9_worthOf : MethodName := ⟨RX9, "worthOf", "(I)J"⟩
abbrev cX9_worth : ByteArray := prog_11_method_53_code
def yX9_worth : MethodName := ⟨RX9, "worth", "(I)J"⟩
abbrev cX9_findRichest : ByteArray := prog_11_method_54_code
def yX9_findRichest : MethodName := ⟨RX9, "findRichest", "()V"⟩
abbrev cX9_boundNow : ByteArray := prog_11_method_55_code
def yX9_boundNow : MethodName := ⟨RX9, "boundNow", "()J"⟩
abbrev cX9_bound : ByteArray := prog_11_method_56_code
def yX9_bound : MethodName := ⟨RX9, "bound", "()J"⟩
abbrev cX9_climb : ByteArray := prog_11_method_57_code
def yX9_climb : MethodName := ⟨RX9, "climb", "(II)I"⟩
abbrev cX9_highest : ByteArray := prog_11_method_58_code
def yX9_highest : MethodName := ⟨RX9, "highest", "()J"⟩
abbrev cX9_count : ByteArray := prog_11_method_59_code
def yX9_count : MethodName := ⟨RX9, "count", "(I)I"⟩
def RJ6 : String := "java/lang/Integer"
def TJ6 : u_T := fun k => match k with
  | _ => ("", "", "", false)
def tyJ6 : Nat → FieldType := fun k => match k with
  | _ => .int
abbrev wsJ60 : List Cond := u_ws RJ6 TJ6 0
theorem nmJ6 : ∀ a, a < 0 → ∀ b, b < 0 → a ≠ b → (TJ6 a).2.1 ≠ (TJ6 b).2.1 := by decide +kernel
theorem tyJ6_ok : ∀ k, k < 0 → parseFieldDescriptor (TJ6 k).2.2.1 = some (tyJ6 k) := by decide +kernel
abbrev cJ6_bitCount_0f7a4 : ByteArray := prog_12_method_49_code
def yJ6_bitCount_0f7a4 : MethodName := ⟨RJ6, "bitCount", "(I)I"⟩
def RJ9 : String := "java/lang/Math"
def TJ9 : u_T := fun k => match k with
  | _ => ("", "", "", false)
def tyJ9 : Nat → FieldType := fun k => match k with
  | _ => .int
abbrev wsJ90 : List Cond := u_ws RJ9 TJ9 0
theorem nmJ9 : ∀ a, a < 0 → ∀ b, b < 0 → a ≠ b → (TJ9 a).2.1 ≠ (TJ9 b).2.1 := by decide +kernel
theorem tyJ9_ok : ∀ k, k < 0 → parseFieldDescriptor (TJ9 k).2.2.1 = some (tyJ9 k) := by decide +kernel
abbrev cJ9_max_7cf53 : ByteArray := prog_13_method_65_code
def yJ9_max_7cf53 : MethodName := ⟨RJ9, "max", "(II)I"⟩
abbrev cJ9_max_f86c9 : ByteArray := prog_13_method_66_code
def yJ9_max_f86c9 : MethodName := ⟨RJ9, "max", "(JJ)J"⟩
abbrev cJ9_min_7cf53 : ByteArray := prog_13_method_69_code
def yJ9_min_7cf53 : MethodName := ⟨RJ9, "min", "(II)I"⟩
abbrev cJ9_min_f86c9 : ByteArray := prog_13_method_70_code
def yJ9_min_f86c9 : MethodName := ⟨RJ9, "min", "(JJ)J"⟩
def RJ10 : String := "java/lang/System"
def TJ10 : u_T := fun k => match k with
  | _ => ("", "", "", false)
def tyJ10 : Nat → FieldType := fun k => match k with
  | _ => .int
abbrev wsJ100 : List Cond := u_ws RJ10 TJ10 0
theorem nmJ10 : ∀ a, a < 0 → ∀ b, b < 0 → a ≠ b → (TJ10 a).2.1 ≠ (TJ10 b).2.1 := by decide +kernel
theorem tyJ10_ok : ∀ k, k < 0 → parseFieldDescriptor (TJ10 k).2.2.1 = some (tyJ10 k) := by decide +kernel
def RL : String := "BreadOvensLaw"
abbrev cL_law : ByteArray := code
def yL_law : MethodName := ⟨RL, "law", "([I)Z"⟩
theorem goodIn_sub {big ws : List Cond} (hm : ∀ w ∈ ws, w ∈ big) (h : ws.all goodWord = true) : GoodIn big ws := fun w hw => ⟨hm w hw, good_of_word (List.all_eq_true.mp h w hw)⟩
abbrev vwCl : List vw_C := [(RX0, TX0, 4), (RX1, TX1, 3), (RX2, TX2, 3), (RX3, TX3, 4), (RX4, TX4, 6), (RX5, TX5, 10), (RX6, TX6, 9), (RX7, TX7, 1), (RX8, TX8, 9), (RX9, TX9, 39)]
end
section
/-! whole numbers of 32 and 64 bits as Int -/
def w32 (x : Int) : Int := Int.bmod x 4294967296
def w64 (x : Int) : Int := Int.bmod x 18446744073709551616
def in32 (x : Int) : Prop := -2147483648 ≤ x ∧ x ≤ 2147483647
def in64 (x : Int) : Prop := -9223372036854775808 ≤ x ∧ x ≤ 9223372036854775807
theorem w32_in (x : Int) : in32 (w32 x) := by
  have h1 := Int.bmod_lt (x := x) (m := 4294967296) (by decide)
  have h2 := Int.le_bmod (x := x) (m := 4294967296) (by decide)
  unfold in32 w32
  omega
theorem w64_in (x : Int) : in64 (w64 x) := by
  have h1 := Int.bmod_lt (x := x) (m := 18446744073709551616) (by decide)
  have h2 := Int.le_bmod (x := x) (m := 18446744073709551616) (by decide)
  unfold in64 w64
  omega
theorem o32w (x : Int) : (Int32.ofInt x).toInt = w32 x := Int32.toInt_ofInt
theorem o64w (x : Int) : (Int64.ofInt x).toInt = w64 x := Int64.toInt_ofInt
theorem w32_id {x : Int} (h : in32 x) : w32 x = x := by
  unfold w32
  exact Int.bmod_eq_of_le (by have := h.1; omega) (by have := h.2; omega)
theorem w64_id {x : Int} (h : in64 x) : w64 x = x := by
  unfold w64
  exact Int.bmod_eq_of_le (by have := h.1; omega) (by have := h.2; omega)
theorem o32 {x : Int} (h : in32 x) : (Int32.ofInt x).toInt = x := by rw [o32w, w32_id h]
theorem o64 {x : Int} (h : in64 x) : (Int64.ofInt x).toInt = x := by rw [o64w, w64_id h]
theorem t32 (z : Int32) : in32 z.toInt := ⟨by have := Int32.minValue_le_toInt z; simpa using this, by have := Int32.toInt_lt z; omega⟩
theorem t64 (z : Int64) : in64 z.toInt := ⟨by have := Int64.minValue_le_toInt z; simpa using this, by have := Int64.toInt_lt z; omega⟩
theorem ot32 (z : Int32) : Int32.ofInt z.toInt = z := Int32.ofInt_toInt z
theorem ot64 (z : Int64) : Int64.ofInt z.toInt = z := Int64.ofInt_toInt z
theorem ow32 (x : Int) : Int32.ofInt (w32 x) = Int32.ofInt x := by rw [← o32w, ot32]
theorem ow64 (x : Int) : Int64.ofInt (w64 x) = Int64.ofInt x := by rw [← o64w, ot64]
theorem o32_add (x y : Int) : Int32.ofInt x + Int32.ofInt y = Int32.ofInt (w32 (x + y)) := by rw [ow32, Int32.ofInt_add]
theorem o32_sub (x y : Int) : Int32.ofInt x - Int32.ofInt y = Int32.ofInt (w32 (x - y)) := by rw [ow32, Int32.ofInt_sub]
theorem o32_mul (x y : Int) : Int32.ofInt x * Int32.ofInt y = Int32.ofInt (w32 (x * y)) := by rw [ow32, Int32.ofInt_mul]
theorem o32_neg (x : Int) : - Int32.ofInt x = Int32.ofInt (w32 (-x)) := by rw [ow32, Int32.ofInt_neg]
theorem o64_add (x y : Int) : Int64.ofInt x + Int64.ofInt y = Int64.ofInt (w64 (x + y)) := by rw [ow64, Int64.ofInt_add]
theorem o64_sub (x y : Int) : Int64.ofInt x - Int64.ofInt y = Int64.ofInt (w64 (x - y)) := by rw [ow64, Int64.ofInt_sub]
theorem o64_mul (x y : Int) : Int64.ofInt x * Int64.ofInt y = Int64.ofInt (w64 (x * y)) := by rw [ow64, Int64.ofInt_mul]
theorem o64_neg (x : Int) : - Int64.ofInt x = Int64.ofInt (w64 (-x)) := by rw [ow64, Int64.ofInt_neg]
def a32 (x y : Int) : Int := (Int32.ofInt x &&& Int32.ofInt y).toInt
def r32 (x y : Int) : Int := (Int32.ofInt x ||| Int32.ofInt y).toInt
def x32 (x y : Int) : Int := (Int32.ofInt x ^^^ Int32.ofInt y).toInt
def l32 (x y : Int) : Int := (Int32.ofInt x <<< (Int32.ofInt y &&& 31)).toInt
def s32 (x y : Int) : Int := (Int32.ofInt x >>> (Int32.ofInt y &&& 31)).toInt
def u32 (x y : Int) : Int := ((Int32.ofInt x).toUInt32 >>> ((Int32.ofInt y).toUInt32 &&& Int32.toUInt32 31)).toInt32.toInt
def d32 (x y : Int) : Int := (Int32.ofInt x / Int32.ofInt y).toInt
def m32 (x y : Int) : Int := (Int32.ofInt x - Int32.ofInt x / Int32.ofInt y * Int32.ofInt y).toInt
def b32 (x : Int) : Int := (Int32.ofInt x).toInt8.toInt32.toInt
def a64 (x y : Int) : Int := (Int64.ofInt x &&& Int64.ofInt y).toInt
def r64 (x y : Int) : Int := (Int64.ofInt x ||| Int64.ofInt y).toInt
def l64 (x y : Int) : Int := (Int64.ofInt x <<< ((Int32.ofInt y).toInt64 &&& 63)).toInt
theorem lt32 {x y : Int} (hx : in32 x) (hy : in32 y) : Int32.ofInt x < Int32.ofInt y ↔ x < y := by rw [Int32.lt_iff_toInt_lt, o32 hx, o32 hy]
theorem le32 {x y : Int} (hx : in32 x) (hy : in32 y) : Int32.ofInt x ≤ Int32.ofInt y ↔ x ≤ y := by rw [Int32.le_iff_toInt_le, o32 hx, o32 hy]
theorem eq32 {x y : Int} (hx : in32 x) (hy : in32 y) : Int32.ofInt x = Int32.ofInt y ↔ x = y := ⟨fun h => by rw [← o32 hx, ← o32 hy, h], fun h => by rw [h]⟩
theorem z32 : Int32.ofInt 0 = 0 := rfl
theorem in32_0 : in32 0 := by unfold in32; omega
theorem lt64 {x y : Int} (hx : in64 x) (hy : in64 y) : Int64.ofInt x < Int64.ofInt y ↔ x < y := by rw [Int64.lt_iff_toInt_lt, o64 hx, o64 hy]
theorem le64 {x y : Int} (hx : in64 x) (hy : in64 y) : Int64.ofInt x ≤ Int64.ofInt y ↔ x ≤ y := by rw [Int64.le_iff_toInt_le, o64 hx, o64 hy]
theorem eq64 {x y : Int} (hx : in64 x) (hy : in64 y) : Int64.ofInt x = Int64.ofInt y ↔ x = y := ⟨fun h => by rw [← o64 hx, ← o64 hy, h], fun h => by rw [h]⟩
theorem in32_64 {x : Int} (h : in32 x) : in64 x := by unfold in32 at h; unfold in64; omega
theorem i2l_ok {x : Int} (h : in32 x) : (Int32.ofInt x).toInt64 = Int64.ofInt x := by
  apply Int64.toInt.inj
  rw [Int32.toInt_toInt64, o32 h, o64 (in32_64 h)]
theorem l2i_ok {x : Int} (h : in64 x) : (Int64.ofInt x).toInt32 = Int32.ofInt (w32 x) := by
  apply Int32.toInt.inj
  rw [Int64.toInt_toInt32, o64 h, ow32, o32w]
  rfl
def cmpI (x y : Int) : Int := if y < x then 1 else if x = y then 0 else -1
theorem cmp_ok {x y : Int} (hx : in64 x) (hy : in64 y) : lg_cmp (Int64.ofInt x) (Int64.ofInt y) = Int32.ofInt (cmpI x y) := by
  unfold lg_cmp cmpI
  simp only [gt_iff_lt, lt64 hy hx, eq64 hx hy]
  by_cases h1 : y < x
  · simp [h1]
  · by_cases h2 : x = y
    · simp [h2]
    · simp [h1, h2]
theorem cmp_in (x y : Int) : in32 (cmpI x y) := by unfold cmpI in32; split <;> (try split) <;> omega
theorem nn32 {x : Int} (h : in32 x) : (Int32.ofInt x).toNatClampNeg = x.toNat := by
  show (Int32.ofInt x).toInt.toNat = _
  rw [o32 h]
theorem in_32 {x : Int} {n : Nat} (h : in32 x) (h0 : 0 ≤ x) (h1 : x < n) : vp_in (Int32.ofInt x) n := by
  rw [vp_in_iff, o32 h]
  exact ⟨h0, h1⟩
end
section
/-! the memory as whole numbers: cells by their numbers, places in them; the judgement Go over it -/
abbrev gAV : Type := Nat × Int
abbrev gMem : Type := Nat → Nat → Int
abbrev gShp : Type := List (Nat × Nat)
/-- a method: name, code, its class, places for locals, type of its answer, whether it is a constructor, frames and words below it -/
abbrev gMd : Type := MethodName × ByteArray × String × Nat × Option FieldType × Bool × Nat × Nat
abbrev gNm (m : gMd) : MethodName := m.1
abbrev gCode (m : gMd) : ByteArray := m.2.1
abbrev gOwn (m : gMd) : String := m.2.2.1
abbrev gNL (m : gMd) : Nat := m.2.2.2.1
abbrev gRet (m : gMd) : Option FieldType := m.2.2.2.2.1
abbrev gIni (m : gMd) : Bool := m.2.2.2.2.2.1
abbrev gFr (m : gMd) : Nat := m.2.2.2.2.2.2.1
abbrev gLo (m : gMd) : Nat := m.2.2.2.2.2.2.2
abbrev gI (x : Int) : gAV := (0, x)
abbrev gJ (x : Int) : gAV := (1, x)
abbrev gR (k : Nat) : gAV := (2, (k : Int) + 1)
abbrev gNull : gAV := (2, 0)
abbrev gS : gAV := (4, 0)
def gFt (c : Nat) : List Nat := match c with
  | 0 => [2, 0, 0, 1]
  | 1 => [0, 0, 2]
  | 2 => [2, 0, 0]
  | 3 => [2, 2, 0, 0]
  | 4 => [2, 2, 2, 2, 0, 1]
  | 5 => [1, 0, 0, 0, 0, 1, 0, 0, 0, 2]
  | 6 => [0, 0, 0, 2, 2, 2, 2, 2, 2]
  | 7 => [2]
  | 8 => [2, 2, 2, 2, 2, 2, 2, 2, 3]
  | 9 => [0, 2, 2, 2, 0, 2, 2, 2, 2, 0, 2, 2, 2, 0, 2, 2, 2, 2, 2, 2, 2, 2, 0, 1, 0, 0, 1, 0, 0, 0, 0, 0, 0, 0, 1, 2, 0, 1, 1]
  | _ => []
def gRf (ad : Nat → Nat) (x : Int) : Option Nat := if x = 0 then none else some (ad (x.toNat - 1))
def gVl (ca : Nat → ClassId) (ad : Nat → Nat) (t : Nat) (x : Int) : Value := match t with
  | 0 => .int (Int32.ofInt x)
  | 1 => .long (Int64.ofInt x)
  | 2 => va_rf (gRf ad x)
  | 3 => .int (Int32.ofInt x)
  | _ => .ref (ca 9)
def gEnt (ca : Nat → ClassId) (ad : Nat → Nat) (k : Nat × Nat) (r : Nat → Int) : va_E := match k.1 with
  | 0 => .inr (k.2, (gFt k.2).mapIdx (fun j t => gVl ca ad t (r j)))
  | 1 => .inl (ca 0, k.2, .inl (fun j => Int32.ofInt (r j)))
  | 2 => .inl (ca 1, k.2, .inr (.inl (fun j => Int64.ofInt (r j))))
  | t + 3 => .inl (ca (t + 2), k.2, .inr (.inr (.inr (.inr (fun j => gRf ad (r j))))))
def gW (ca : Nat → ClassId) (ad : Nat → Nat) (sh : gShp) (M : gMem) : va_W := sh.mapIdx (fun i k => (ad i, gEnt ca ad k (M i)))
def gOkV (n t : Nat) (x : Int) : Prop := match t with
  | 0 => in32 x
  | 1 => in64 x
  | 2 => 0 ≤ x ∧ x ≤ n
  | 3 => x = 0 ∨ x = 1
  | _ => True
def gOkK (n : Nat) (k : Nat × Nat) (r : Nat → Int) : Prop := match k.1 with
  | 0 => ∀ j t, (gFt k.2)[j]? = some t → gOkV n t (r j)
  | 1 => ∀ j, in32 (r j)
  | 2 => ∀ j, in64 (r j)
  | _ => ∀ j, 0 ≤ r j ∧ r j ≤ n
def gOk (sh : gShp) (M : gMem) : Prop := ∀ i k, sh[i]? = some k → gOkK sh.length k (M i)
def gKs (k : Nat × Nat) : Nat := if k.1 = 0 then (gFt k.2).length else k.2
def gSz (sh : gShp) : Nat := (sh.map gKs).sum
def gTy (ca : Nat → ClassId) : List (ClassId × FieldType) := [(ca 0, .int), (ca 1, .long), (ca 2, .object "BreadOvens$Valley"), (ca 3, .object "BreadOvens$Chart")]
def gTb : List Cond := lw_tbl.filter goodWord
def gNest : List (String × Nat × MethodName × String) := [("BreadOvens", 13, ⟨"BreadOvens$Valley", "<init>", "()V"⟩, "BreadOvens"), ("BreadOvens$Diary", 24, ⟨"BreadOvens$Valley", "<init>", "()V"⟩, "BreadOvens"), ("BreadOvens", 33, ⟨"BreadOvens$Ways", "<init>", "()V"⟩, "BreadOvens"), ("BreadOvens", 49, ⟨"BreadOvens$Survey", "<init>", "()V"⟩, "BreadOvens"), ("BreadOvens", 76, ⟨"BreadOvens$Chart", "<init>", "()V"⟩, "BreadOvens"), ("BreadOvens$Valley", 40, ⟨"BreadOvens", "isWithin", "(JJJ)Z"⟩, "BreadOvens"), ("BreadOvens$Ovens", 65, ⟨"BreadOvens", "isIn", "(II)Z"⟩, "BreadOvens"), ("BreadOvens$Survey", 86, ⟨"BreadOvens", "isIn", "(II)Z"⟩, "BreadOvens"), ("BreadOvens$Builder", 51, ⟨"BreadOvens", "isIn", "(II)Z"⟩, "BreadOvens"), ("BreadOvens$Purse", 100, ⟨"BreadOvens", "isIn", "(II)Z"⟩, "BreadOvens")]
/-- what the tables say, as far as it isn't in gTb -/
def gKx (D : va_G) (ca : Nat → ClassId) (U : State) : Prop := va_K D vwCl (gTy ca) U ∧ (∀ q ∈ gNest, va_Nw (.methodLinkNest q.1 q.2.1 q.2.2.1 q.2.2.2) U) ∧ va_AO "BreadOvens$Valley" U ∧ va_AO "BreadOvens$Chart" U
theorem gKx.warm {D : va_G} {ca : Nat → ClassId} {s U : State} (hW : s.WarmedH U.vm) (h : gKx D ca s) : gKx D ca U := ⟨va_K.moved hW.alike h.1, fun q hq => va_Nw.warmM hW (h.2.1 q hq), h.2.2.1.moved hW.alike, h.2.2.2.moved hW.alike⟩
theorem gKx.same {D : va_G} {ca : Nat → ClassId} {s U : State} (hv : s.vm = U.vm) (h : gKx D ca s) : gKx D ca U := ⟨va_K.moved (by rw [hv]; exact Vm.Alike.refl _) h.1, fun q hq => va_Nw.same rfl hv (h.2.1 q hq), h.2.2.1.moved (by rw [hv]; exact Vm.Alike.refl _), h.2.2.2.moved (by rw [hv]; exact Vm.Alike.refl _)⟩
abbrev gScr : Type := Option (Nat × (Nat → Int))
def gSc (ca : Nat → ClassId) (sc : gScr) (s : State) (A : Nat → Prop) (H0 : Heap) : Prop := match sc with
  | none => True
  | some q => va_X (ca 9) q.1 (fun j => Int32.ofInt (q.2 j)) s H0 ∧ ca 9 < H0.size ∧ ¬ A (ca 9) ∧ (∀ j, in32 (q.2 j)) ∧ q.1 ≤ 2560
def gCx (D : va_G) (ca : Nat → ClassId) (sc : gScr) (m : gMd) (p : Program) (s : State) (mi : MethodId) (args : Array Value) (meth : Method) (c : Code) (A : Nat → Prop) (H0 : Heap) : Prop :=
  p.tables.exec = Jvm.exec ∧ c.code = gCode m ∧ c.maxLocals = gNL m ∧ meth.sig.returnType = gRet m ∧ s.vm.findClass (gOwn m) = some mi.cls ∧ (∀ w ∈ gTb, w.before args s = true) ∧ meth.locks = false ∧ gKx D ca s ∧ (gIni m = true → meth.name = "<init>") ∧ (∀ q, H0.size ≤ q → A q) ∧ gSc ca sc s A H0
abbrev gLs : Type := List (Nat × gAV)
def gSt (D : va_G) (ca : Nat → ClassId) (m : gMd) (ls : gLs) (st : List gAV) (sh : gShp) (M : gMem) (ad : Nat → Nat) (H : Heap) (locs : List Loc) (A : Nat → Prop) (H0 : Heap) (lc : Array Slot) : Prop :=
  lv_has lc (gNL m) (ls.map fun q => (q.1, gVl ca ad q.2.1 q.2.2)) ∧ (∀ q ∈ ls, gOkV sh.length q.2.1 q.2.2) ∧ (∀ v ∈ st, gOkV sh.length v.1 v.2) ∧ gOk sh M ∧ va_P D vwCl (gW ca ad sh M) H ∧ va_D A (gW ca ad sh M) ∧ va_S A H0 H locs
def gRi (rv : List gAV) : Instr := match rv with
  | [] => .return_
  | v :: _ => if v.1 = 1 then .lreturn else .ireturn
def gK (D : va_G) (ca : Nat → ClassId) (R : Room) (m : gMd) (p : Program) (l : Launch) (e : Env) (s : State) (mi : MethodId) (args : Array Value) (below : List Frame) (meth : Method) (c : Code) (Q : State → Prop) (ad : Nat → Nat) (sh : gShp) (cells slots : Nat) (A : Nat → Prop) (H0 : Heap) (rv : List gAV) (sh' : gShp) (M' : gMem) : Prop :=
  ∀ (ad' : Nat → Nat) (H' : Heap) (locs' : List Loc) (cells' slots' : Nat) (lc' : Array Slot) (pc' : Nat), (∀ i, i < sh.length → ad' i = ad i) → (∀ v ∈ rv, gOkV sh'.length v.1 v.2) → gOk sh' M' → va_P D vwCl (gW ca ad' sh' M') H' → va_D A (gW ca ad' sh' M') → va_S A H0 H' locs' → cells' + sh.length ≤ cells + sh'.length → slots' + gSz sh ≤ slots + gSz sh' → decode (gCode m) pc' = .ok (gRi rv, 1) →
    W p l e R s mi args below meth c H' locs' cells' slots' Q (F0 mi pc' lc' (rv.map fun v => gVl ca ad' v.1 v.2))
/-- from this place of the method, with these locals, this stack and this memory, it comes to its answer rv and leaves the memory M' -/
def Go (D : va_G) (ca : Nat → ClassId) (sc : gScr) (R : Room) (m : gMd) (pc : Nat) (ls : gLs) (st : List gAV) (sh : gShp) (M : gMem) (rv : List gAV) (sh' : gShp) (M' : gMem) : Prop :=
  ∀ (p : Program) (l : Launch) (e : Env) (s : State) (mi : MethodId) (args : Array Value) (below : List Frame) (meth : Method) (c : Code) (Q : State → Prop) (ad : Nat → Nat) (H : Heap) (locs : List Loc) (cells slots : Nat) (A : Nat → Prop) (H0 : Heap) (lc : Array Slot),
    gCx D ca sc m p s mi args meth c A H0 → gSt D ca m ls st sh M ad H locs A H0 lc → cells + sh'.length ≤ R.cells + sh.length → slots + gSz sh' ≤ R.slots + gSz sh → gK D ca R m p l e s mi args below meth c Q ad sh cells slots A H0 rv sh' M' →
    W p l e R s mi args below meth c H locs cells slots Q (F0 mi pc lc (st.map fun v => gVl ca ad v.1 v.2))
section GO
variable {D : va_G} {ca : Nat → ClassId} {sc : gScr} {R : Room} {m : gMd} {pc pc' : Nat} {ls ls' : gLs} {st st' : List gAV} {sh sh' : gShp} {M M' : gMem} {rv : List gAV}
/-- the stack alone changes -/
theorem Go_step (h : ∀ (p : Program) (l : Launch) (e : Env) (s : State) (mi : MethodId) (args : Array Value) (below : List Frame) (meth : Method) (c : Code) (Q : State → Prop) (ad : Nat → Nat) (H : Heap) (locs : List Loc) (cells slots : Nat) (A : Nat → Prop) (H0 : Heap) (lc : Array Slot),
    gCx D ca sc m p s mi args meth c A H0 → gSt D ca m ls st sh M ad H locs A H0 lc → (∀ v ∈ st', gOkV sh.length v.1 v.2) ∧ (W p l e R s mi args below meth c H locs cells slots Q (F0 mi pc' lc (st'.map fun v => gVl ca ad v.1 v.2)) → W p l e R s mi args below meth c H locs cells slots Q (F0 mi pc lc (st.map fun v => gVl ca ad v.1 v.2))))
    (k : Go D ca sc R m pc' ls st' sh M rv sh' M') : Go D ca sc R m pc ls st sh M rv sh' M' := by
  intro p l e s mi args below meth c Q ad H locs cells slots A H0 lc hc hs hr1 hr2 hk
  obtain ⟨h1, h2⟩ := h p l e s mi args below meth c Q ad H locs cells slots A H0 lc hc hs
  exact h2 (k p l e s mi args below meth c Q ad H locs cells slots A H0 lc hc ⟨hs.1, hs.2.1, h1, hs.2.2.2⟩ hr1 hr2 hk)
theorem ok_c {n : Nat} {v : gAV} {vs : List gAV} (h1 : gOkV n v.1 v.2) (h2 : ∀ u ∈ vs, gOkV n u.1 u.2) : ∀ u ∈ v :: vs, gOkV n u.1 u.2 := List.forall_mem_cons.mpr ⟨h1, h2⟩
theorem ok_h {n : Nat} {v : gAV} {vs : List gAV} (h : ∀ u ∈ v :: vs, gOkV n u.1 u.2) : gOkV n v.1 v.2 := (List.forall_mem_cons.mp h).1
theorem ok_t {n : Nat} {v : gAV} {vs : List gAV} (h : ∀ u ∈ v :: vs, gOkV n u.1 u.2) : ∀ u ∈ vs, gOkV n u.1 u.2 := (List.forall_mem_cons.mp h).2
theorem Go_iadd {x y : Int} (hd : decode (gCode m) pc = .ok (.iadd, 1)) (k : Go D ca sc R m (pc + 1) ls (gI (w32 (x + y)) :: st) sh M rv sh' M') : Go D ca sc R m pc ls (gI y :: gI x :: st) sh M rv sh' M' := by
  refine Go_step (st' := gI (w32 (x + y)) :: st) (fun p l e s mi args below meth c Q ad H locs cells slots A H0 lc hc hs => ⟨ok_c (w32_in _) ((ok_t (ok_t hs.2.2.1))), fun w => ?_⟩) k
  refine lv_iadd (x := Int32.ofInt x) (y := Int32.ofInt y) hc.1 hc.2.1 hd ?_
  rw [o32_add]
  exact w
theorem Go_isub {x y : Int} (hd : decode (gCode m) pc = .ok (.isub, 1)) (k : Go D ca sc R m (pc + 1) ls (gI (w32 (x - y)) :: st) sh M rv sh' M') : Go D ca sc R m pc ls (gI y :: gI x :: st) sh M rv sh' M' := by
  refine Go_step (st' := gI (w32 (x - y)) :: st) (fun p l e s mi args below meth c Q ad H locs cells slots A H0 lc hc hs => ⟨ok_c (w32_in _) ((ok_t (ok_t hs.2.2.1))), fun w => ?_⟩) k
  refine lv_isub (x := Int32.ofInt x) (y := Int32.ofInt y) hc.1 hc.2.1 hd ?_
  rw [o32_sub]
  exact w
theorem Go_imul {x y : Int} (hd : decode (gCode m) pc = .ok (.imul, 1)) (k : Go D ca sc R m (pc + 1) ls (gI (w32 (x * y)) :: st) sh M rv sh' M') : Go D ca sc R m pc ls (gI y :: gI x :: st) sh M rv sh' M' := by
  refine Go_step (st' := gI (w32 (x * y)) :: st) (fun p l e s mi args below meth c Q ad H locs cells slots A H0 lc hc hs => ⟨ok_c (w32_in _) ((ok_t (ok_t hs.2.2.1))), fun w => ?_⟩) k
  refine lv_imul (x := Int32.ofInt x) (y := Int32.ofInt y) hc.1 hc.2.1 hd ?_
  rw [o32_mul]
  exact w
theorem Go_iand {x y : Int} (hd : decode (gCode m) pc = .ok (.iand, 1)) (k : Go D ca sc R m (pc + 1) ls (gI (a32 x y) :: st) sh M rv sh' M') : Go D ca sc R m pc ls (gI y :: gI x :: st) sh M rv sh' M' := by
  refine Go_step (st' := gI (a32 x y) :: st) (fun p l e s mi args below meth c Q ad H locs cells slots A H0 lc hc hs => ⟨ok_c (t32 _) ((ok_t (ok_t hs.2.2.1))), fun w => ?_⟩) k
  refine lv_iand (x := Int32.ofInt x) (y := Int32.ofInt y) hc.1 hc.2.1 hd ?_
  rw [show Int32.ofInt x &&& Int32.ofInt y = Int32.ofInt (a32 x y) from (ot32 _).symm]
  exact w
theorem Go_ior {x y : Int} (hd : decode (gCode m) pc = .ok (.ior, 1)) (k : Go D ca sc R m (pc + 1) ls (gI (r32 x y) :: st) sh M rv sh' M') : Go D ca sc R m pc ls (gI y :: gI x :: st) sh M rv sh' M' := by
  refine Go_step (st' := gI (r32 x y) :: st) (fun p l e s mi args below meth c Q ad H locs cells slots A H0 lc hc hs => ⟨ok_c (t32 _) ((ok_t (ok_t hs.2.2.1))), fun w => ?_⟩) k
  refine lv_ior (x := Int32.ofInt x) (y := Int32.ofInt y) hc.1 hc.2.1 hd ?_
  rw [show Int32.ofInt x ||| Int32.ofInt y = Int32.ofInt (r32 x y) from (ot32 _).symm]
  exact w
theorem Go_ixor {x y : Int} (hd : decode (gCode m) pc = .ok (.ixor, 1)) (k : Go D ca sc R m (pc + 1) ls (gI (x32 x y) :: st) sh M rv sh' M') : Go D ca sc R m pc ls (gI y :: gI x :: st) sh M rv sh' M' := by
  refine Go_step (st' := gI (x32 x y) :: st) (fun p l e s mi args below meth c Q ad H locs cells slots A H0 lc hc hs => ⟨ok_c (t32 _) ((ok_t (ok_t hs.2.2.1))), fun w => ?_⟩) k
  refine lv_ixor (x := Int32.ofInt x) (y := Int32.ofInt y) hc.1 hc.2.1 hd ?_
  rw [show Int32.ofInt x ^^^ Int32.ofInt y = Int32.ofInt (x32 x y) from (ot32 _).symm]
  exact w
theorem Go_ishl {x y : Int} (hd : decode (gCode m) pc = .ok (.ishl, 1)) (k : Go D ca sc R m (pc + 1) ls (gI (l32 x y) :: st) sh M rv sh' M') : Go D ca sc R m pc ls (gI y :: gI x :: st) sh M rv sh' M' := by
  refine Go_step (st' := gI (l32 x y) :: st) (fun p l e s mi args below meth c Q ad H locs cells slots A H0 lc hc hs => ⟨ok_c (t32 _) ((ok_t (ok_t hs.2.2.1))), fun w => ?_⟩) k
  refine lv_ishl (x := Int32.ofInt x) (y := Int32.ofInt y) hc.1 hc.2.1 hd ?_
  rw [show Int32.ofInt x <<< (Int32.ofInt y &&& 31) = Int32.ofInt (l32 x y) from (ot32 _).symm]
  exact w
theorem Go_ishr {x y : Int} (hd : decode (gCode m) pc = .ok (.ishr, 1)) (k : Go D ca sc R m (pc + 1) ls (gI (s32 x y) :: st) sh M rv sh' M') : Go D ca sc R m pc ls (gI y :: gI x :: st) sh M rv sh' M' := by
  refine Go_step (st' := gI (s32 x y) :: st) (fun p l e s mi args below meth c Q ad H locs cells slots A H0 lc hc hs => ⟨ok_c (t32 _) ((ok_t (ok_t hs.2.2.1))), fun w => ?_⟩) k
  refine lv_ishr (x := Int32.ofInt x) (y := Int32.ofInt y) hc.1 hc.2.1 hd ?_
  rw [show Int32.ofInt x >>> (Int32.ofInt y &&& 31) = Int32.ofInt (s32 x y) from (ot32 _).symm]
  exact w
theorem Go_idiv {x y : Int} (hne : y ≠ 0) (hd : decode (gCode m) pc = .ok (.idiv, 1)) (k : Go D ca sc R m (pc + 1) ls (gI (d32 x y) :: st) sh M rv sh' M') : Go D ca sc R m pc ls (gI y :: gI x :: st) sh M rv sh' M' := by
  refine Go_step (st' := gI (d32 x y) :: st) (fun p l e s mi args below meth c Q ad H locs cells slots A H0 lc hc hs => ⟨ok_c (t32 _) ((ok_t (ok_t hs.2.2.1))), fun w => ?_⟩) k
  have hy : in32 y := ok_h hs.2.2.1
  refine lv_idiv (x := Int32.ofInt x) (y := Int32.ofInt y) hc.1 hc.2.1 hd (fun h => hne ((eq32 hy in32_0).mp h)) ?_
  rw [show Int32.ofInt x / Int32.ofInt y = Int32.ofInt (d32 x y) from (ot32 _).symm]
  exact w
theorem Go_irem {x y : Int} (hne : y ≠ 0) (hd : decode (gCode m) pc = .ok (.irem, 1)) (k : Go D ca sc R m (pc + 1) ls (gI (m32 x y) :: st) sh M rv sh' M') : Go D ca sc R m pc ls (gI y :: gI x :: st) sh M rv sh' M' := by
  refine Go_step (st' := gI (m32 x y) :: st) (fun p l e s mi args below meth c Q ad H locs cells slots A H0 lc hc hs => ⟨ok_c (t32 _) ((ok_t (ok_t hs.2.2.1))), fun w => ?_⟩) k
  have hy : in32 y := ok_h hs.2.2.1
  refine lv_irem (x := Int32.ofInt x) (y := Int32.ofInt y) hc.1 hc.2.1 hd (fun h => hne ((eq32 hy in32_0).mp h)) ?_
  rw [show Int32.ofInt x - Int32.ofInt x / Int32.ofInt y * Int32.ofInt y = Int32.ofInt (m32 x y) from (ot32 _).symm]
  exact w
theorem Go_iushr {x y : Int} (hd : decode (gCode m) pc = .ok (.iushr, 1)) (k : Go D ca sc R m (pc + 1) ls (gI (u32 x y) :: st) sh M rv sh' M') : Go D ca sc R m pc ls (gI y :: gI x :: st) sh M rv sh' M' := by
  refine Go_step (st' := gI (u32 x y) :: st) (fun p l e s mi args below meth c Q ad H locs cells slots A H0 lc hc hs => ⟨ok_c (t32 _) ((ok_t (ok_t hs.2.2.1))), fun w => ?_⟩) k
  refine lv_iushr (x := Int32.ofInt x) (y := Int32.ofInt y) (v := Int32.ofInt (u32 x y)) hc.1 hc.2.1 hd (ot32 _).symm ?_
  exact w
theorem Go_ineg {x : Int} (hd : decode (gCode m) pc = .ok (.ineg, 1)) (k : Go D ca sc R m (pc + 1) ls (gI (w32 (-x)) :: st) sh M rv sh' M') : Go D ca sc R m pc ls (gI x :: st) sh M rv sh' M' := by
  refine Go_step (st' := gI (w32 (-x)) :: st) (fun p l e s mi args below meth c Q ad H locs cells slots A H0 lc hc hs => ⟨ok_c (w32_in _) ((ok_t hs.2.2.1)), fun w => ?_⟩) k
  refine lv_ineg (x := Int32.ofInt x) hc.1 hc.2.1 hd ?_
  rw [o32_neg]
  exact w
theorem Go_ladd {x y : Int} (hd : decode (gCode m) pc = .ok (.ladd, 1)) (k : Go D ca sc R m (pc + 1) ls (gJ (w64 (x + y)) :: st) sh M rv sh' M') : Go D ca sc R m pc ls (gJ y :: gJ x :: st) sh M rv sh' M' := by
  refine Go_step (st' := gJ (w64 (x + y)) :: st) (fun p l e s mi args below meth c Q ad H locs cells slots A H0 lc hc hs => ⟨ok_c (w64_in _) ((ok_t (ok_t hs.2.2.1))), fun w => ?_⟩) k
  refine lv_ladd (x := Int64.ofInt x) (y := Int64.ofInt y) hc.1 hc.2.1 hd ?_
  rw [o64_add]
  exact w
theorem Go_lsub {x y : Int} (hd : decode (gCode m) pc = .ok (.lsub, 1)) (k : Go D ca sc R m (pc + 1) ls (gJ (w64 (x - y)) :: st) sh M rv sh' M') : Go D ca sc R m pc ls (gJ y :: gJ x :: st) sh M rv sh' M' := by
  refine Go_step (st' := gJ (w64 (x - y)) :: st) (fun p l e s mi args below meth c Q ad H locs cells slots A H0 lc hc hs => ⟨ok_c (w64_in _) ((ok_t (ok_t hs.2.2.1))), fun w => ?_⟩) k
  refine lv_lsub (x := Int64.ofInt x) (y := Int64.ofInt y) hc.1 hc.2.1 hd ?_
  rw [o64_sub]
  exact w
theorem Go_lmul {x y : Int} (hd : decode (gCode m) pc = .ok (.lmul, 1)) (k : Go D ca sc R m (pc + 1) ls (gJ (w64 (x * y)) :: st) sh M rv sh' M') : Go D ca sc R m pc ls (gJ y :: gJ x :: st) sh M rv sh' M' := by
  refine Go_step (st' := gJ (w64 (x * y)) :: st) (fun p l e s mi args below meth c Q ad H locs cells slots A H0 lc hc hs => ⟨ok_c (w64_in _) ((ok_t (ok_t hs.2.2.1))), fun w => ?_⟩) k
  refine lv_lmul (x := Int64.ofInt x) (y := Int64.ofInt y) hc.1 hc.2.1 hd ?_
  rw [o64_mul]
  exact w
theorem Go_land {x y : Int} (hd : decode (gCode m) pc = .ok (.land, 1)) (k : Go D ca sc R m (pc + 1) ls (gJ (a64 x y) :: st) sh M rv sh' M') : Go D ca sc R m pc ls (gJ y :: gJ x :: st) sh M rv sh' M' := by
  refine Go_step (st' := gJ (a64 x y) :: st) (fun p l e s mi args below meth c Q ad H locs cells slots A H0 lc hc hs => ⟨ok_c (t64 _) ((ok_t (ok_t hs.2.2.1))), fun w => ?_⟩) k
  refine lv_land (x := Int64.ofInt x) (y := Int64.ofInt y) hc.1 hc.2.1 hd ?_
  rw [show Int64.ofInt x &&& Int64.ofInt y = Int64.ofInt (a64 x y) from (ot64 _).symm]
  exact w
theorem Go_lor {x y : Int} (hd : decode (gCode m) pc = .ok (.lor, 1)) (k : Go D ca sc R m (pc + 1) ls (gJ (r64 x y) :: st) sh M rv sh' M') : Go D ca sc R m pc ls (gJ y :: gJ x :: st) sh M rv sh' M' := by
  refine Go_step (st' := gJ (r64 x y) :: st) (fun p l e s mi args below meth c Q ad H locs cells slots A H0 lc hc hs => ⟨ok_c (t64 _) ((ok_t (ok_t hs.2.2.1))), fun w => ?_⟩) k
  refine lv_lor (x := Int64.ofInt x) (y := Int64.ofInt y) hc.1 hc.2.1 hd ?_
  rw [show Int64.ofInt x ||| Int64.ofInt y = Int64.ofInt (r64 x y) from (ot64 _).symm]
  exact w
theorem Go_lneg {x : Int} (hd : decode (gCode m) pc = .ok (.lneg, 1)) (k : Go D ca sc R m (pc + 1) ls (gJ (w64 (-x)) :: st) sh M rv sh' M') : Go D ca sc R m pc ls (gJ x :: st) sh M rv sh' M' := by
  refine Go_step (st' := gJ (w64 (-x)) :: st) (fun p l e s mi args below meth c Q ad H locs cells slots A H0 lc hc hs => ⟨ok_c (w64_in _) ((ok_t hs.2.2.1)), fun w => ?_⟩) k
  refine lv_lneg (x := Int64.ofInt x) hc.1 hc.2.1 hd ?_
  rw [o64_neg]
  exact w
theorem Go_lshl {x y : Int} (hd : decode (gCode m) pc = .ok (.lshl, 1)) (k : Go D ca sc R m (pc + 1) ls (gJ (l64 x y) :: st) sh M rv sh' M') : Go D ca sc R m pc ls (gI y :: gJ x :: st) sh M rv sh' M' := by
  refine Go_step (st' := gJ (l64 x y) :: st) (fun p l e s mi args below meth c Q ad H locs cells slots A H0 lc hc hs => ⟨ok_c (t64 _) ((ok_t (ok_t hs.2.2.1))), fun w => ?_⟩) k
  refine lv_lshl (x := Int64.ofInt x) (y := Int32.ofInt y) (v := Int64.ofInt (l64 x y)) hc.1 hc.2.1 hd (ot64 _).symm ?_
  exact w
theorem Go_i2l {x : Int} (hd : decode (gCode m) pc = .ok (.i2l, 1)) (k : Go D ca sc R m (pc + 1) ls (gJ x :: st) sh M rv sh' M') : Go D ca sc R m pc ls (gI x :: st) sh M rv sh' M' := by
  refine Go_step (st' := gJ x :: st) (fun p l e s mi args below meth c Q ad H locs cells slots A H0 lc hc hs => ⟨ok_c (in32_64 (ok_h hs.2.2.1)) ((ok_t hs.2.2.1)), fun w => ?_⟩) k
  refine lv_i2l (x := Int32.ofInt x) (v := Int64.ofInt x) hc.1 hc.2.1 hd (i2l_ok (ok_h hs.2.2.1)) ?_
  exact w
theorem Go_l2i {x : Int} (hd : decode (gCode m) pc = .ok (.l2i, 1)) (k : Go D ca sc R m (pc + 1) ls (gI (w32 x) :: st) sh M rv sh' M') : Go D ca sc R m pc ls (gJ x :: st) sh M rv sh' M' := by
  refine Go_step (st' := gI (w32 x) :: st) (fun p l e s mi args below meth c Q ad H locs cells slots A H0 lc hc hs => ⟨ok_c (w32_in _) ((ok_t hs.2.2.1)), fun w => ?_⟩) k
  refine lv_l2i (x := Int64.ofInt x) (v := Int32.ofInt (w32 x)) hc.1 hc.2.1 hd (l2i_ok (ok_h hs.2.2.1)) ?_
  exact w
theorem Go_i2b {x : Int} (hd : decode (gCode m) pc = .ok (.i2b, 1)) (k : Go D ca sc R m (pc + 1) ls (gI (b32 x) :: st) sh M rv sh' M') : Go D ca sc R m pc ls (gI x :: st) sh M rv sh' M' := by
  refine Go_step (st' := gI (b32 x) :: st) (fun p l e s mi args below meth c Q ad H locs cells slots A H0 lc hc hs => ⟨ok_c (t32 _) ((ok_t hs.2.2.1)), fun w => ?_⟩) k
  refine lv_i2b (x := Int32.ofInt x) (v := Int32.ofInt (b32 x)) hc.1 hc.2.1 hd (ot32 _).symm ?_
  exact w
theorem Go_lcmp {x y : Int} (hd : decode (gCode m) pc = .ok (.lcmp, 1)) (k : Go D ca sc R m (pc + 1) ls (gI (cmpI x y) :: st) sh M rv sh' M') : Go D ca sc R m pc ls (gJ y :: gJ x :: st) sh M rv sh' M' := by
  refine Go_step (st' := gI (cmpI x y) :: st) (fun p l e s mi args below meth c Q ad H locs cells slots A H0 lc hc hs => ⟨ok_c (cmp_in _ _) ((ok_t (ok_t hs.2.2.1))), fun w => ?_⟩) k
  refine W.lcmp (x := Int64.ofInt x) (y := Int64.ofInt y) hc.1 hc.2.1 hd ?_
  rw [cmp_ok (ok_h (ok_t hs.2.2.1)) (ok_h hs.2.2.1)]
  exact w
theorem Go_iconst {n : Int} (hn : in32 n) (hd : decode (gCode m) pc = .ok (.iconst n, 1)) (k : Go D ca sc R m (pc + 1) ls (gI n :: st) sh M rv sh' M') : Go D ca sc R m pc ls (st) sh M rv sh' M' := by
  refine Go_step (st' := gI n :: st) (fun p l e s mi args below meth c Q ad H locs cells slots A H0 lc hc hs => ⟨ok_c hn (hs.2.2.1), fun w => ?_⟩) k
  exact lv_iconst (v := Int32.ofInt n) hc.1 hc.2.1 hd rfl w
theorem Go_bipush {n : Int} (hn : (Int8.ofInt n).toInt32 = Int32.ofInt n ∧ in32 n) (hd : decode (gCode m) pc = .ok (.bipush n, 2)) (k : Go D ca sc R m (pc + 2) ls (gI n :: st) sh M rv sh' M') : Go D ca sc R m pc ls (st) sh M rv sh' M' := by
  refine Go_step (st' := gI n :: st) (fun p l e s mi args below meth c Q ad H locs cells slots A H0 lc hc hs => ⟨ok_c hn.2 (hs.2.2.1), fun w => ?_⟩) k
  exact lv_bipush (v := Int32.ofInt n) hc.1 hc.2.1 hd hn.1 w
theorem Go_sipush {n : Int} (hn : (Int16.ofInt n).toInt32 = Int32.ofInt n ∧ in32 n) (hd : decode (gCode m) pc = .ok (.sipush n, 3)) (k : Go D ca sc R m (pc + 3) ls (gI n :: st) sh M rv sh' M') : Go D ca sc R m pc ls (st) sh M rv sh' M' := by
  refine Go_step (st' := gI n :: st) (fun p l e s mi args below meth c Q ad H locs cells slots A H0 lc hc hs => ⟨ok_c hn.2 (hs.2.2.1), fun w => ?_⟩) k
  exact lv_sipush (v := Int32.ofInt n) hc.1 hc.2.1 hd hn.1 w
theorem Go_lconst {n : Fin 2} {v : Int} (hn : Int64.ofNat (n : Nat) = Int64.ofInt v ∧ in64 v) (hd : decode (gCode m) pc = .ok (.lconst n, 1)) (k : Go D ca sc R m (pc + 1) ls (gJ v :: st) sh M rv sh' M') : Go D ca sc R m pc ls (st) sh M rv sh' M' := by
  refine Go_step (st' := gJ v :: st) (fun p l e s mi args below meth c Q ad H locs cells slots A H0 lc hc hs => ⟨ok_c hn.2 (hs.2.2.1), fun w => ?_⟩) k
  exact lv_lconst (v := Int64.ofInt v) hc.1 hc.2.1 hd hn.1 w
theorem Go_ldc {i : Nat} {v : Int} (hn : Cond.constant (gOwn m) i (Int32.ofInt v) ∈ gTb) (hv : in32 v) (hd : decode (gCode m) pc = .ok (.ldc i, 2)) (k : Go D ca sc R m (pc + 2) ls (gI v :: st) sh M rv sh' M') : Go D ca sc R m pc ls (st) sh M rv sh' M' := by
  refine Go_step (st' := gI v :: st) (fun p l e s mi args below meth c Q ad H locs cells slots A H0 lc hc hs => ⟨ok_c hv (hs.2.2.1), fun w => ?_⟩) k
  exact lv_ldc (v := Int32.ofInt v) hc.1 hc.2.1 hc.2.2.2.2.1 (hc.2.2.2.2.2.1 _ hn) hd w
theorem Go_ldcw {i : Nat} {v : Int} (hn : Cond.constant (gOwn m) i (Int32.ofInt v) ∈ gTb) (hv : in32 v) (hd : decode (gCode m) pc = .ok (.ldc_w i, 3)) (k : Go D ca sc R m (pc + 3) ls (gI v :: st) sh M rv sh' M') : Go D ca sc R m pc ls (st) sh M rv sh' M' := by
  refine Go_step (st' := gI v :: st) (fun p l e s mi args below meth c Q ad H locs cells slots A H0 lc hc hs => ⟨ok_c hv (hs.2.2.1), fun w => ?_⟩) k
  exact lv_ldcw (v := Int32.ofInt v) hc.1 hc.2.1 hc.2.2.2.2.1 (hc.2.2.2.2.2.1 _ hn) hd w
theorem Go_ldc2 {i : Nat} {v : Int} (hn : Cond.constantLong (gOwn m) i (Int64.ofInt v) ∈ gTb) (hv : in64 v) (hd : decode (gCode m) pc = .ok (.ldc2_w i, 3)) (k : Go D ca sc R m (pc + 3) ls (gJ v :: st) sh M rv sh' M') : Go D ca sc R m pc ls (st) sh M rv sh' M' := by
  refine Go_step (st' := gJ v :: st) (fun p l e s mi args below meth c Q ad H locs cells slots A H0 lc hc hs => ⟨ok_c hv (hs.2.2.1), fun w => ?_⟩) k
  exact lv_ldc2 (v := Int64.ofInt v) hc.1 hc.2.1 hc.2.2.2.2.1 (hc.2.2.2.2.2.1 _ hn) hd w
theorem Go_dupI {x : Int} (hd : decode (gCode m) pc = .ok (.dup, 1)) (k : Go D ca sc R m (pc + 1) ls (gI x :: gI x :: st) sh M rv sh' M') : Go D ca sc R m pc ls (gI x :: st) sh M rv sh' M' := by
  refine Go_step (st' := gI x :: gI x :: st) (fun p l e s mi args below meth c Q ad H locs cells slots A H0 lc hc hs => ⟨ok_c (ok_h hs.2.2.1) (ok_c (ok_h hs.2.2.1) ((ok_t hs.2.2.1))), fun w => ?_⟩) k
  exact lv_dup (va := .int (Int32.ofInt x)) hc.1 hc.2.1 hd rfl w
theorem Go_dupR {x : Int} (hd : decode (gCode m) pc = .ok (.dup, 1)) (k : Go D ca sc R m (pc + 1) ls ((2, x) :: (2, x) :: st) sh M rv sh' M') : Go D ca sc R m pc ls ((2, x) :: st) sh M rv sh' M' := by
  refine Go_step (st' := (2, x) :: (2, x) :: st) (fun p l e s mi args below meth c Q ad H locs cells slots A H0 lc hc hs => ⟨ok_c (ok_h hs.2.2.1) (ok_c (ok_h hs.2.2.1) ((ok_t hs.2.2.1))), fun w => ?_⟩) k
  refine lv_dup (va := va_rf (gRf ad x)) hc.1 hc.2.1 hd ?_ w
  rcases va_rf_or (gRf ad x) with h | ⟨a, h⟩ <;> rw [h] <;> rfl
theorem at_iload {ad : Nat → Nat} {lc : Array Slot} {nL k i : Nat} {x : Int} (hl : lv_has lc nL (ls.map fun q => (q.1, gVl ca ad q.2.1 q.2.2))) (hk : ls[k]? = some (i, gI x)) : lc[i]? = some (.val (.int (Int32.ofInt x))) := hl.2.2 (i, .int (Int32.ofInt x)) (List.mem_map.mpr ⟨(i, gI x), List.mem_of_getElem? hk, rfl⟩)
theorem Go_iload {x : Int} {i : Nat} (k0 : Nat) (hk : ls[k0]? = some (i, gI x)) (hd : decode (gCode m) pc = .ok (.iload i, 2)) (k : Go D ca sc R m (pc + 2) ls (gI x :: st) sh M rv sh' M') : Go D ca sc R m pc ls (st) sh M rv sh' M' := by
  refine Go_step (st' := gI x :: st) (fun p l e s mi args below meth c Q ad H locs cells slots A H0 lc hc hs => ⟨ok_c (hs.2.1 _ (List.mem_of_getElem? hk)) (hs.2.2.1), fun w => ?_⟩) k
  exact lv_iload hc.1 hc.2.1 hd (at_iload hs.1 hk) w
theorem Go_iload_n {x : Int} {i : Nat} {n : Fin 4} (k0 : Nat) (hi : (n : Nat) = i) (hk : ls[k0]? = some (i, gI x)) (hd : decode (gCode m) pc = .ok (.iload_n n, 1)) (k : Go D ca sc R m (pc + 1) ls (gI x :: st) sh M rv sh' M') : Go D ca sc R m pc ls (st) sh M rv sh' M' := by
  refine Go_step (st' := gI x :: st) (fun p l e s mi args below meth c Q ad H locs cells slots A H0 lc hc hs => ⟨ok_c (hs.2.1 _ (List.mem_of_getElem? hk)) (hs.2.2.1), fun w => ?_⟩) k
  exact lv_iload_n hc.1 hc.2.1 hd hi (at_iload hs.1 hk) w
theorem at_lload {ad : Nat → Nat} {lc : Array Slot} {nL k i : Nat} {x : Int} (hl : lv_has lc nL (ls.map fun q => (q.1, gVl ca ad q.2.1 q.2.2))) (hk : ls[k]? = some (i, gJ x)) : lc[i]? = some (.val (.long (Int64.ofInt x))) := hl.2.2 (i, .long (Int64.ofInt x)) (List.mem_map.mpr ⟨(i, gJ x), List.mem_of_getElem? hk, rfl⟩)
theorem Go_lload {x : Int} {i : Nat} (k0 : Nat) (hk : ls[k0]? = some (i, gJ x)) (hd : decode (gCode m) pc = .ok (.lload i, 2)) (k : Go D ca sc R m (pc + 2) ls (gJ x :: st) sh M rv sh' M') : Go D ca sc R m pc ls (st) sh M rv sh' M' := by
  refine Go_step (st' := gJ x :: st) (fun p l e s mi args below meth c Q ad H locs cells slots A H0 lc hc hs => ⟨ok_c (hs.2.1 _ (List.mem_of_getElem? hk)) (hs.2.2.1), fun w => ?_⟩) k
  exact lv_lload hc.1 hc.2.1 hd (at_lload hs.1 hk) w
theorem Go_lload_n {x : Int} {i : Nat} {n : Fin 4} (k0 : Nat) (hi : (n : Nat) = i) (hk : ls[k0]? = some (i, gJ x)) (hd : decode (gCode m) pc = .ok (.lload_n n, 1)) (k : Go D ca sc R m (pc + 1) ls (gJ x :: st) sh M rv sh' M') : Go D ca sc R m pc ls (st) sh M rv sh' M' := by
  refine Go_step (st' := gJ x :: st) (fun p l e s mi args below meth c Q ad H locs cells slots A H0 lc hc hs => ⟨ok_c (hs.2.1 _ (List.mem_of_getElem? hk)) (hs.2.2.1), fun w => ?_⟩) k
  exact lv_lload_n hc.1 hc.2.1 hd hi (at_lload hs.1 hk) w
theorem gVl_R {ad : Nat → Nat} (k : Nat) : gVl ca ad 2 ((k : Int) + 1) = .ref (ad k) := by
  have h1 : ((k : Int) + 1) ≠ 0 := by omega
  have h2 : ((k : Int) + 1).toNat - 1 = k := by omega
  simp only [gVl, gRf, if_neg h1, h2, va_rf]
theorem at_aload {ad : Nat → Nat} {lc : Array Slot} {nL k i : Nat} {x : Nat} (hl : lv_has lc nL (ls.map fun q => (q.1, gVl ca ad q.2.1 q.2.2))) (hk : ls[k]? = some (i, gR x)) : lc[i]? = some (.val (.ref (ad x))) := hl.2.2 (i, .ref (ad x)) (List.mem_map.mpr ⟨(i, gR x), List.mem_of_getElem? hk, by rw [← gVl_R (ca := ca)]⟩)
theorem at_sload {ad : Nat → Nat} {lc : Array Slot} {nL k i : Nat} (hl : lv_has lc nL (ls.map fun q => (q.1, gVl ca ad q.2.1 q.2.2))) (hk : ls[k]? = some (i, gS)) : lc[i]? = some (.val (.ref (ca 9))) := hl.2.2 (i, .ref (ca 9)) (List.mem_map.mpr ⟨(i, gS), List.mem_of_getElem? hk, rfl⟩)
theorem mapR {ad : Nat → Nat} (k : Nat) (st : List gAV) : (gR k :: st).map (fun v => gVl ca ad v.1 v.2) = .ref (ad k) :: st.map (fun v => gVl ca ad v.1 v.2) := by rw [List.map_cons, gVl_R]
theorem Go_aload_n {x : Nat} {i : Nat} {n : Fin 4} (k0 : Nat) (hi : (n : Nat) = i) (hk : ls[k0]? = some (i, gR x)) (hd : decode (gCode m) pc = .ok (.aload_n n, 1)) (k : Go D ca sc R m (pc + 1) ls (gR x :: st) sh M rv sh' M') : Go D ca sc R m pc ls (st) sh M rv sh' M' := by
  refine Go_step (st' := gR x :: st) (fun p l e s mi args below meth c Q ad H locs cells slots A H0 lc hc hs => ⟨ok_c (hs.2.1 _ (List.mem_of_getElem? hk)) (hs.2.2.1), fun w => ?_⟩) k
  refine lv_aload_n hc.1 hc.2.1 hd hi (at_aload hs.1 hk) ?_
  rw [mapR] at w
  exact w
theorem Go_sload_n {i : Nat} {n : Fin 4} (k0 : Nat) (hi : (n : Nat) = i) (hk : ls[k0]? = some (i, gS)) (hd : decode (gCode m) pc = .ok (.aload_n n, 1)) (k : Go D ca sc R m (pc + 1) ls (gS :: st) sh M rv sh' M') : Go D ca sc R m pc ls (st) sh M rv sh' M' := by
  refine Go_step (st' := gS :: st) (fun p l e s mi args below meth c Q ad H locs cells slots A H0 lc hc hs => ⟨ok_c trivial (hs.2.2.1), fun w => ?_⟩) k
  exact lv_aload_n hc.1 hc.2.1 hd hi (at_sload hs.1 hk) w
theorem Go_icmp_eq {x y : Int} {off : Int} {tgt : Nat} (hd : decode (gCode m) pc = .ok (.if_icmp .eq off, 3)) (ht : (pc : Int) + off = (tgt : Int)) (kt : x = y → Go D ca sc R m tgt ls (st) sh M rv sh' M') (kf : x ≠ y → Go D ca sc R m (pc + 3) ls (st) sh M rv sh' M') : Go D ca sc R m pc ls (gI y :: gI x :: st) sh M rv sh' M' := by
  intro p l e s mi args below meth c Q ad H locs cells slots A H0 lc hc hs hr1 hr2 hk
  have hy : in32 y := ok_h hs.2.2.1
  have hx : in32 x := ok_h (ok_t hs.2.2.1)
  have w1 := fun q => kt q p l e s mi args below meth c Q ad H locs cells slots A H0 lc hc ⟨hs.1, hs.2.1, (ok_t (ok_t hs.2.2.1)), hs.2.2.2⟩ hr1 hr2 hk
  have w2 := fun q => kf q p l e s mi args below meth c Q ad H locs cells slots A H0 lc hc ⟨hs.1, hs.2.1, (ok_t (ok_t hs.2.2.1)), hs.2.2.2⟩ hr1 hr2 hk
  exact lv_icmp_eq (x := Int32.ofInt x) (y := Int32.ofInt y) hc.1 hc.2.1 hd ht (fun h => w1 ((eq32 hx hy).mp h)) (fun h => w2 (fun q => h ((eq32 hx hy).mpr q)))
theorem Go_if_eq {x : Int} {off : Int} {tgt : Nat} (hd : decode (gCode m) pc = .ok (.ifCond .eq off, 3)) (ht : (pc : Int) + off = (tgt : Int)) (kt : x = 0 → Go D ca sc R m tgt ls (st) sh M rv sh' M') (kf : x ≠ 0 → Go D ca sc R m (pc + 3) ls (st) sh M rv sh' M') : Go D ca sc R m pc ls (gI x :: st) sh M rv sh' M' := by
  intro p l e s mi args below meth c Q ad H locs cells slots A H0 lc hc hs hr1 hr2 hk
  have hx : in32 x := ok_h hs.2.2.1
  have hy : in32 0 := in32_0
  have w1 := fun q => kt q p l e s mi args below meth c Q ad H locs cells slots A H0 lc hc ⟨hs.1, hs.2.1, (ok_t hs.2.2.1), hs.2.2.2⟩ hr1 hr2 hk
  have w2 := fun q => kf q p l e s mi args below meth c Q ad H locs cells slots A H0 lc hc ⟨hs.1, hs.2.1, (ok_t hs.2.2.1), hs.2.2.2⟩ hr1 hr2 hk
  exact lv_if_eq (x := Int32.ofInt x) hc.1 hc.2.1 hd ht (fun h => w1 ((eq32 hx hy).mp h)) (fun h => w2 (fun q => h ((eq32 hx hy).mpr q)))
theorem Go_icmp_ne {x y : Int} {off : Int} {tgt : Nat} (hd : decode (gCode m) pc = .ok (.if_icmp .ne off, 3)) (ht : (pc : Int) + off = (tgt : Int)) (kt : x ≠ y → Go D ca sc R m tgt ls (st) sh M rv sh' M') (kf : x = y → Go D ca sc R m (pc + 3) ls (st) sh M rv sh' M') : Go D ca sc R m pc ls (gI y :: gI x :: st) sh M rv sh' M' := by
  intro p l e s mi args below meth c Q ad H locs cells slots A H0 lc hc hs hr1 hr2 hk
  have hy : in32 y := ok_h hs.2.2.1
  have hx : in32 x := ok_h (ok_t hs.2.2.1)
  have w1 := fun q => kt q p l e s mi args below meth c Q ad H locs cells slots A H0 lc hc ⟨hs.1, hs.2.1, (ok_t (ok_t hs.2.2.1)), hs.2.2.2⟩ hr1 hr2 hk
  have w2 := fun q => kf q p l e s mi args below meth c Q ad H locs cells slots A H0 lc hc ⟨hs.1, hs.2.1, (ok_t (ok_t hs.2.2.1)), hs.2.2.2⟩ hr1 hr2 hk
  exact lv_icmp_ne (x := Int32.ofInt x) (y := Int32.ofInt y) hc.1 hc.2.1 hd ht (fun h => w1 (fun q => h ((eq32 hx hy).mpr q))) (fun h => w2 ((eq32 hx hy).mp h))
theorem Go_if_ne {x : Int} {off : Int} {tgt : Nat} (hd : decode (gCode m) pc = .ok (.ifCond .ne off, 3)) (ht : (pc : Int) + off = (tgt : Int)) (kt : x ≠ 0 → Go D ca sc R m tgt ls (st) sh M rv sh' M') (kf : x = 0 → Go D ca sc R m (pc + 3) ls (st) sh M rv sh' M') : Go D ca sc R m pc ls (gI x :: st) sh M rv sh' M' := by
  intro p l e s mi args below meth c Q ad H locs cells slots A H0 lc hc hs hr1 hr2 hk
  have hx : in32 x := ok_h hs.2.2.1
  have hy : in32 0 := in32_0
  have w1 := fun q => kt q p l e s mi args below meth c Q ad H locs cells slots A H0 lc hc ⟨hs.1, hs.2.1, (ok_t hs.2.2.1), hs.2.2.2⟩ hr1 hr2 hk
  have w2 := fun q => kf q p l e s mi args below meth c Q ad H locs cells slots A H0 lc hc ⟨hs.1, hs.2.1, (ok_t hs.2.2.1), hs.2.2.2⟩ hr1 hr2 hk
  exact lv_if_ne (x := Int32.ofInt x) hc.1 hc.2.1 hd ht (fun h => w1 (fun q => h ((eq32 hx hy).mpr q))) (fun h => w2 ((eq32 hx hy).mp h))
theorem Go_icmp_lt {x y : Int} {off : Int} {tgt : Nat} (hd : decode (gCode m) pc = .ok (.if_icmp .lt off, 3)) (ht : (pc : Int) + off = (tgt : Int)) (kt : x < y → Go D ca sc R m tgt ls (st) sh M rv sh' M') (kf : y ≤ x → Go D ca sc R m (pc + 3) ls (st) sh M rv sh' M') : Go D ca sc R m pc ls (gI y :: gI x :: st) sh M rv sh' M' := by
  intro p l e s mi args below meth c Q ad H locs cells slots A H0 lc hc hs hr1 hr2 hk
  have hy : in32 y := ok_h hs.2.2.1
  have hx : in32 x := ok_h (ok_t hs.2.2.1)
  have w1 := fun q => kt q p l e s mi args below meth c Q ad H locs cells slots A H0 lc hc ⟨hs.1, hs.2.1, (ok_t (ok_t hs.2.2.1)), hs.2.2.2⟩ hr1 hr2 hk
  have w2 := fun q => kf q p l e s mi args below meth c Q ad H locs cells slots A H0 lc hc ⟨hs.1, hs.2.1, (ok_t (ok_t hs.2.2.1)), hs.2.2.2⟩ hr1 hr2 hk
  exact lv_icmp_lt (x := Int32.ofInt x) (y := Int32.ofInt y) hc.1 hc.2.1 hd ht (fun h => w1 ((lt32 hx hy).mp h)) (fun h => w2 (Int.not_lt.mp (fun q => h ((lt32 hx hy).mpr q))))
theorem Go_if_lt {x : Int} {off : Int} {tgt : Nat} (hd : decode (gCode m) pc = .ok (.ifCond .lt off, 3)) (ht : (pc : Int) + off = (tgt : Int)) (kt : x < 0 → Go D ca sc R m tgt ls (st) sh M rv sh' M') (kf : 0 ≤ x → Go D ca sc R m (pc + 3) ls (st) sh M rv sh' M') : Go D ca sc R m pc ls (gI x :: st) sh M rv sh' M' := by
  intro p l e s mi args below meth c Q ad H locs cells slots A H0 lc hc hs hr1 hr2 hk
  have hx : in32 x := ok_h hs.2.2.1
  have hy : in32 0 := in32_0
  have w1 := fun q => kt q p l e s mi args below meth c Q ad H locs cells slots A H0 lc hc ⟨hs.1, hs.2.1, (ok_t hs.2.2.1), hs.2.2.2⟩ hr1 hr2 hk
  have w2 := fun q => kf q p l e s mi args below meth c Q ad H locs cells slots A H0 lc hc ⟨hs.1, hs.2.1, (ok_t hs.2.2.1), hs.2.2.2⟩ hr1 hr2 hk
  exact lv_if_lt (x := Int32.ofInt x) hc.1 hc.2.1 hd ht (fun h => w1 ((lt32 hx hy).mp h)) (fun h => w2 (Int.not_lt.mp (fun q => h ((lt32 hx hy).mpr q))))
theorem Go_icmp_ge {x y : Int} {off : Int} {tgt : Nat} (hd : decode (gCode m) pc = .ok (.if_icmp .ge off, 3)) (ht : (pc : Int) + off = (tgt : Int)) (kt : y ≤ x → Go D ca sc R m tgt ls (st) sh M rv sh' M') (kf : x < y → Go D ca sc R m (pc + 3) ls (st) sh M rv sh' M') : Go D ca sc R m pc ls (gI y :: gI x :: st) sh M rv sh' M' := by
  intro p l e s mi args below meth c Q ad H locs cells slots A H0 lc hc hs hr1 hr2 hk
  have hy : in32 y := ok_h hs.2.2.1
  have hx : in32 x := ok_h (ok_t hs.2.2.1)
  have w1 := fun q => kt q p l e s mi args below meth c Q ad H locs cells slots A H0 lc hc ⟨hs.1, hs.2.1, (ok_t (ok_t hs.2.2.1)), hs.2.2.2⟩ hr1 hr2 hk
  have w2 := fun q => kf q p l e s mi args below meth c Q ad H locs cells slots A H0 lc hc ⟨hs.1, hs.2.1, (ok_t (ok_t hs.2.2.1)), hs.2.2.2⟩ hr1 hr2 hk
  exact lv_icmp_ge (x := Int32.ofInt x) (y := Int32.ofInt y) hc.1 hc.2.1 hd ht (fun h => w1 ((le32 hy hx).mp h)) (fun h => w2 (Int.not_le.mp (fun q => h ((le32 hy hx).mpr q))))
theorem Go_if_ge {x : Int} {off : Int} {tgt : Nat} (hd : decode (gCode m) pc = .ok (.ifCond .ge off, 3)) (ht : (pc : Int) + off = (tgt : Int)) (kt : 0 ≤ x → Go D ca sc R m tgt ls (st) sh M rv sh' M') (kf : x < 0 → Go D ca sc R m (pc + 3) ls (st) sh M rv sh' M') : Go D ca sc R m pc ls (gI x :: st) sh M rv sh' M' := by
  intro p l e s mi args below meth c Q ad H locs cells slots A H0 lc hc hs hr1 hr2 hk
  have hx : in32 x := ok_h hs.2.2.1
  have hy : in32 0 := in32_0
  have w1 := fun q => kt q p l e s mi args below meth c Q ad H locs cells slots A H0 lc hc ⟨hs.1, hs.2.1, (ok_t hs.2.2.1), hs.2.2.2⟩ hr1 hr2 hk
  have w2 := fun q => kf q p l e s mi args below meth c Q ad H locs cells slots A H0 lc hc ⟨hs.1, hs.2.1, (ok_t hs.2.2.1), hs.2.2.2⟩ hr1 hr2 hk
  exact lv_if_ge (x := Int32.ofInt x) hc.1 hc.2.1 hd ht (fun h => w1 ((le32 hy hx).mp h)) (fun h => w2 (Int.not_le.mp (fun q => h ((le32 hy hx).mpr q))))
theorem Go_icmp_gt {x y : Int} {off : Int} {tgt : Nat} (hd : decode (gCode m) pc = .ok (.if_icmp .gt off, 3)) (ht : (pc : Int) + off = (tgt : Int)) (kt : y < x → Go D ca sc R m tgt ls (st) sh M rv sh' M') (kf : x ≤ y → Go D ca sc R m (pc + 3) ls (st) sh M rv sh' M') : Go D ca sc R m pc ls (gI y :: gI x :: st) sh M rv sh' M' := by
  intro p l e s mi args below meth c Q ad H locs cells slots A H0 lc hc hs hr1 hr2 hk
  have hy : in32 y := ok_h hs.2.2.1
  have hx : in32 x := ok_h (ok_t hs.2.2.1)
  have w1 := fun q => kt q p l e s mi args below meth c Q ad H locs cells slots A H0 lc hc ⟨hs.1, hs.2.1, (ok_t (ok_t hs.2.2.1)), hs.2.2.2⟩ hr1 hr2 hk
  have w2 := fun q => kf q p l e s mi args below meth c Q ad H locs cells slots A H0 lc hc ⟨hs.1, hs.2.1, (ok_t (ok_t hs.2.2.1)), hs.2.2.2⟩ hr1 hr2 hk
  exact lv_icmp_gt (x := Int32.ofInt x) (y := Int32.ofInt y) hc.1 hc.2.1 hd ht (fun h => w1 ((lt32 hy hx).mp h)) (fun h => w2 (Int.not_lt.mp (fun q => h ((lt32 hy hx).mpr q))))
theorem Go_if_gt {x : Int} {off : Int} {tgt : Nat} (hd : decode (gCode m) pc = .ok (.ifCond .gt off, 3)) (ht : (pc : Int) + off = (tgt : Int)) (kt : 0 < x → Go D ca sc R m tgt ls (st) sh M rv sh' M') (kf : x ≤ 0 → Go D ca sc R m (pc + 3) ls (st) sh M rv sh' M') : Go D ca sc R m pc ls (gI x :: st) sh M rv sh' M' := by
  intro p l e s mi args below meth c Q ad H locs cells slots A H0 lc hc hs hr1 hr2 hk
  have hx : in32 x := ok_h hs.2.2.1
  have hy : in32 0 := in32_0
  have w1 := fun q => kt q p l e s mi args below meth c Q ad H locs cells slots A H0 lc hc ⟨hs.1, hs.2.1, (ok_t hs.2.2.1), hs.2.2.2⟩ hr1 hr2 hk
  have w2 := fun q => kf q p l e s mi args below meth c Q ad H locs cells slots A H0 lc hc ⟨hs.1, hs.2.1, (ok_t hs.2.2.1), hs.2.2.2⟩ hr1 hr2 hk
  exact lv_if_gt (x := Int32.ofInt x) hc.1 hc.2.1 hd ht (fun h => w1 ((lt32 hy hx).mp h)) (fun h => w2 (Int.not_lt.mp (fun q => h ((lt32 hy hx).mpr q))))
theorem Go_icmp_le {x y : Int} {off : Int} {tgt : Nat} (hd : decode (gCode m) pc = .ok (.if_icmp .le off, 3)) (ht : (pc : Int) + off = (tgt : Int)) (kt : x ≤ y → Go D ca sc R m tgt ls (st) sh M rv sh' M') (kf : y < x → Go D ca sc R m (pc + 3) ls (st) sh M rv sh' M') : Go D ca sc R m pc ls (gI y :: gI x :: st) sh M rv sh' M' := by
  intro p l e s mi args below meth c Q ad H locs cells slots A H0 lc hc hs hr1 hr2 hk
  have hy : in32 y := ok_h hs.2.2.1
  have hx : in32 x := ok_h (ok_t hs.2.2.1)
  have w1 := fun q => kt q p l e s mi args below meth c Q ad H locs cells slots A H0 lc hc ⟨hs.1, hs.2.1, (ok_t (ok_t hs.2.2.1)), hs.2.2.2⟩ hr1 hr2 hk
  have w2 := fun q => kf q p l e s mi args below meth c Q ad H locs cells slots A H0 lc hc ⟨hs.1, hs.2.1, (ok_t (ok_t hs.2.2.1)), hs.2.2.2⟩ hr1 hr2 hk
  exact lv_icmp_le (x := Int32.ofInt x) (y := Int32.ofInt y) hc.1 hc.2.1 hd ht (fun h => w1 ((le32 hx hy).mp h)) (fun h => w2 (Int.not_le.mp (fun q => h ((le32 hx hy).mpr q))))
theorem Go_if_le {x : Int} {off : Int} {tgt : Nat} (hd : decode (gCode m) pc = .ok (.ifCond .le off, 3)) (ht : (pc : Int) + off = (tgt : Int)) (kt : x ≤ 0 → Go D ca sc R m tgt ls (st) sh M rv sh' M') (kf : 0 < x → Go D ca sc R m (pc + 3) ls (st) sh M rv sh' M') : Go D ca sc R m pc ls (gI x :: st) sh M rv sh' M' := by
  intro p l e s mi args below meth c Q ad H locs cells slots A H0 lc hc hs hr1 hr2 hk
  have hx : in32 x := ok_h hs.2.2.1
  have hy : in32 0 := in32_0
  have w1 := fun q => kt q p l e s mi args below meth c Q ad H locs cells slots A H0 lc hc ⟨hs.1, hs.2.1, (ok_t hs.2.2.1), hs.2.2.2⟩ hr1 hr2 hk
  have w2 := fun q => kf q p l e s mi args below meth c Q ad H locs cells slots A H0 lc hc ⟨hs.1, hs.2.1, (ok_t hs.2.2.1), hs.2.2.2⟩ hr1 hr2 hk
  exact lv_if_le (x := Int32.ofInt x) hc.1 hc.2.1 hd ht (fun h => w1 ((le32 hx hy).mp h)) (fun h => w2 (Int.not_le.mp (fun q => h ((le32 hx hy).mpr q))))
theorem Go_goto {off : Int} {tgt : Nat} (hd : decode (gCode m) pc = .ok (.goto off, 3)) (ht : (pc : Int) + off = (tgt : Int)) (k : Go D ca sc R m tgt ls (st) sh M rv sh' M') : Go D ca sc R m pc ls (st) sh M rv sh' M' :=
  Go_step (fun p l e s mi args below meth c Q ad H locs cells slots A H0 lc hc hs => ⟨hs.2.2.1, fun w => lv_goto hc.1 hc.2.1 hd ht w⟩) k
end GO
end
section
def gSet (M : gMem) (i : Nat) (r : Nat → Int) : gMem := fun i' => if i' = i then r else M i'
def gUp (r : Nat → Int) (j : Nat) (x : Int) : Nat → Int := fun j' => if j' = j then x else r j'
theorem gSet_s (M : gMem) (i : Nat) (r : Nat → Int) : gSet M i r i = r := if_pos rfl
theorem gSet_n {M : gMem} {i i' : Nat} {r : Nat → Int} (h : i' ≠ i) : gSet M i r i' = M i' := if_neg h
theorem gUp_s (r : Nat → Int) (j : Nat) (x : Int) : gUp r j x j = x := if_pos rfl
theorem gUp_n {r : Nat → Int} {j j' : Nat} {x : Int} (h : j' ≠ j) : gUp r j x j' = r j' := if_neg h
section GM
variable {D : va_G} {ca : Nat → ClassId} {sc : gScr} {R : Room} {m : gMd} {pc pc' : Nat} {ls ls' : gLs} {st st' : List gAV} {sh sh' : gShp} {M M' : gMem} {rv : List gAV}
theorem cat_gVl (ad : Nat → Nat) (t : Nat) (x : Int) : ((gVl ca ad t x).category == 2) = (t == 1) := by
  match t with
  | 0 => rfl
  | 1 => rfl
  | 2 =>
    show ((va_rf (gRf ad x)).category == 2) = false
    rcases va_rf_or (gRf ad x) with h | ⟨a, h⟩ <;> rw [h] <;> rfl
  | 3 => rfl
  | n + 4 => rfl
theorem flt_1 (ad : Nat → Nat) (i : Nat) : (ls.map fun q => (q.1, gVl ca ad q.2.1 q.2.2)).filter (fun q => !(q.1 == i) && !(q.1 + 1 == i && q.2.category == 2)) = (ls.filter (fun q => !(q.1 == i) && !(q.1 + 1 == i && q.2.1 == 1))).map fun q => (q.1, gVl ca ad q.2.1 q.2.2) := by
  rw [List.filter_map]
  congr 1
  refine List.filter_congr (fun q _ => ?_)
  show (!(q.1 == i) && !(q.1 + 1 == i && (gVl ca ad q.2.1 q.2.2).category == 2)) = _
  rw [cat_gVl]
theorem flt_2 (ad : Nat → Nat) (i : Nat) : (ls.map fun q => (q.1, gVl ca ad q.2.1 q.2.2)).filter (fun q => !(q.1 == i) && (!(q.1 == i + 1) && !(q.1 + 1 == i && q.2.category == 2))) = (ls.filter (fun q => !(q.1 == i) && (!(q.1 == i + 1) && !(q.1 + 1 == i && q.2.1 == 1)))).map fun q => (q.1, gVl ca ad q.2.1 q.2.2) := by
  rw [List.filter_map]
  congr 1
  refine List.filter_congr (fun q _ => ?_)
  show (!(q.1 == i) && (!(q.1 == i + 1) && !(q.1 + 1 == i && (gVl ca ad q.2.1 q.2.2).category == 2))) = _
  rw [cat_gVl]
/-- fewer locals are known -/
theorem Go_ls (h : ∀ q ∈ ls', q ∈ ls) (k : Go D ca sc R m pc ls' (st) sh M rv sh' M') : Go D ca sc R m pc ls (st) sh M rv sh' M' := by
  intro p l e s mi args below meth c Q ad H locs cells slots A H0 lc hc hs hr1 hr2 hk
  obtain ⟨hl, hlo, hso, hok, hP, hD, hS⟩ := hs
  exact k p l e s mi args below meth c Q ad H locs cells slots A H0 lc hc ⟨⟨hl.1, hl.2.1, fun q hq => by
    obtain ⟨z, hz, rfl⟩ := List.mem_map.mp hq
    exact hl.2.2 _ (List.mem_map.mpr ⟨z, h z hz, rfl⟩)⟩, fun q hq => hlo q (h q hq), hso, hok, hP, hD, hS⟩ hr1 hr2 hk
theorem Go_pick (ks : List Nat) (h : ks.map (fun k => ls[k]?) = ls'.map some) (k : Go D ca sc R m pc ls' (st) sh M rv sh' M') : Go D ca sc R m pc ls (st) sh M rv sh' M' := by
  refine Go_ls (fun q hq => ?_) k
  have h1 : some q ∈ ks.map (fun k => ls[k]?) := by rw [h]; exact List.mem_map.mpr ⟨q, hq, rfl⟩
  obtain ⟨j, -, hj⟩ := List.mem_map.mp h1
  exact List.mem_of_getElem? hj
theorem Go_istore_n {x : Int} {i : Nat} {n : Fin 4} (hi : (n : Nat) = i) (hd : decode (gCode m) pc = .ok (.istore_n n, 1)) (hn : i < gNL m) (hl' : (i, gI x) :: ls.filter (fun q => !(q.1 == i) && !(q.1 + 1 == i && q.2.1 == 1)) = ls') (k : Go D ca sc R m (pc + 1) ls' (st) sh M rv sh' M') : Go D ca sc R m pc ls (gI x :: st) sh M rv sh' M' := by
  intro p l e s mi args below meth c Q ad H locs cells slots A H0 lc hc hs hr1 hr2 hk
  obtain ⟨hl, hlo, hso, hok, hP, hD, hS⟩ := hs
  refine lv_istore_n (x := Int32.ofInt x) hc.1 hc.2.1 hd hi hl hn rfl (fun lc' hl2 => ?_)
  refine k p l e s mi args below meth c Q ad H locs cells slots A H0 lc' hc ⟨?_, ?_, ok_t hso, hok, hP, hD, hS⟩ hr1 hr2 hk
  · rw [flt_1] at hl2
    subst hl'
    exact hl2
  · subst hl'
    intro q hq
    rcases List.mem_cons.mp hq with rfl | hq
    · exact ok_h hso
    · exact hlo q (List.mem_filter.mp hq).1
theorem Go_lstore_n {x : Int} {i : Nat} {n : Fin 4} (hi : (n : Nat) = i) (hd : decode (gCode m) pc = .ok (.lstore_n n, 1)) (hn : i + 1 < gNL m) (hl' : (i, gJ x) :: ls.filter (fun q => !(q.1 == i) && (!(q.1 == i + 1) && !(q.1 + 1 == i && q.2.1 == 1))) = ls') (k : Go D ca sc R m (pc + 1) ls' (st) sh M rv sh' M') : Go D ca sc R m pc ls (gJ x :: st) sh M rv sh' M' := by
  intro p l e s mi args below meth c Q ad H locs cells slots A H0 lc hc hs hr1 hr2 hk
  obtain ⟨hl, hlo, hso, hok, hP, hD, hS⟩ := hs
  refine lv_lstore_n (x := Int64.ofInt x) hc.1 hc.2.1 hd hi hl hn rfl (fun lc' hl2 => ?_)
  refine k p l e s mi args below meth c Q ad H locs cells slots A H0 lc' hc ⟨?_, ?_, ok_t hso, hok, hP, hD, hS⟩ hr1 hr2 hk
  · rw [flt_2] at hl2
    subst hl'
    exact hl2
  · subst hl'
    intro q hq
    rcases List.mem_cons.mp hq with rfl | hq
    · exact ok_h hso
    · exact hlo q (List.mem_filter.mp hq).1
theorem Go_istore {x : Int} {i : Nat} (hd : decode (gCode m) pc = .ok (.istore i, 2)) (hn : i < gNL m) (hl' : (i, gI x) :: ls.filter (fun q => !(q.1 == i) && !(q.1 + 1 == i && q.2.1 == 1)) = ls') (k : Go D ca sc R m (pc + 2) ls' (st) sh M rv sh' M') : Go D ca sc R m pc ls (gI x :: st) sh M rv sh' M' := by
  intro p l e s mi args below meth c Q ad H locs cells slots A H0 lc hc hs hr1 hr2 hk
  obtain ⟨hl, hlo, hso, hok, hP, hD, hS⟩ := hs
  refine lv_istore (x := Int32.ofInt x) hc.1 hc.2.1 hd hl hn rfl (fun lc' hl2 => ?_)
  refine k p l e s mi args below meth c Q ad H locs cells slots A H0 lc' hc ⟨?_, ?_, ok_t hso, hok, hP, hD, hS⟩ hr1 hr2 hk
  · rw [flt_1] at hl2
    subst hl'
    exact hl2
  · subst hl'
    intro q hq
    rcases List.mem_cons.mp hq with rfl | hq
    · exact ok_h hso
    · exact hlo q (List.mem_filter.mp hq).1
theorem Go_lstore {x : Int} {i : Nat} (hd : decode (gCode m) pc = .ok (.lstore i, 2)) (hn : i + 1 < gNL m) (hl' : (i, gJ x) :: ls.filter (fun q => !(q.1 == i) && (!(q.1 == i + 1) && !(q.1 + 1 == i && q.2.1 == 1))) = ls') (k : Go D ca sc R m (pc + 2) ls' (st) sh M rv sh' M') : Go D ca sc R m pc ls (gJ x :: st) sh M rv sh' M' := by
  intro p l e s mi args below meth c Q ad H locs cells slots A H0 lc hc hs hr1 hr2 hk
  obtain ⟨hl, hlo, hso, hok, hP, hD, hS⟩ := hs
  refine lv_lstore (x := Int64.ofInt x) hc.1 hc.2.1 hd hl hn rfl (fun lc' hl2 => ?_)
  refine k p l e s mi args below meth c Q ad H locs cells slots A H0 lc' hc ⟨?_, ?_, ok_t hso, hok, hP, hD, hS⟩ hr1 hr2 hk
  · rw [flt_2] at hl2
    subst hl'
    exact hl2
  · subst hl'
    intro q hq
    rcases List.mem_cons.mp hq with rfl | hq
    · exact ok_h hso
    · exact hlo q (List.mem_filter.mp hq).1
theorem Go_astore_n {x : Nat} {i : Nat} {n : Fin 4} (hi : (n : Nat) = i) (hd : decode (gCode m) pc = .ok (.astore_n n, 1)) (hn : i < gNL m) (hl' : (i, gR x) :: ls.filter (fun q => !(q.1 == i) && !(q.1 + 1 == i && q.2.1 == 1)) = ls') (k : Go D ca sc R m (pc + 1) ls' (st) sh M rv sh' M') : Go D ca sc R m pc ls (gR x :: st) sh M rv sh' M' := by
  intro p l e s mi args below meth c Q ad H locs cells slots A H0 lc hc hs hr1 hr2 hk
  obtain ⟨hl, hlo, hso, hok, hP, hD, hS⟩ := hs
  rw [mapR]
  refine lv_astore_n (x := ad x) hc.1 hc.2.1 hd hi hl hn rfl (fun lc' hl2 => ?_)
  refine k p l e s mi args below meth c Q ad H locs cells slots A H0 lc' hc ⟨?_, ?_, ok_t hso, hok, hP, hD, hS⟩ hr1 hr2 hk
  · rw [flt_1] at hl2
    subst hl'
    rw [List.map_cons, gVl_R]
    exact hl2
  · subst hl'
    intro q hq
    rcases List.mem_cons.mp hq with rfl | hq
    · exact ok_h hso
    · exact hlo q (List.mem_filter.mp hq).1
theorem Go_iinc {x n : Int} {i : Nat} (k0 : Nat) (hk0 : ls[k0]? = some (i, gI x)) (hd : decode (gCode m) pc = .ok (.iinc i n, 3)) (hn : i < gNL m) (hl' : (i, gI (w32 (x + n))) :: ls.filter (fun q => !(q.1 == i) && !(q.1 + 1 == i && q.2.1 == 1)) = ls') (k : Go D ca sc R m (pc + 3) ls' (st) sh M rv sh' M') : Go D ca sc R m pc ls (st) sh M rv sh' M' := by
  intro p l e s mi args below meth c Q ad H locs cells slots A H0 lc hc hs hr1 hr2 hk
  obtain ⟨hl, hlo, hso, hok, hP, hD, hS⟩ := hs
  refine lv_iinc (x := Int32.ofInt x) (v := Int32.ofInt (w32 (x + n))) (k := k0) hc.1 hc.2.1 hd hl (by rw [List.getElem?_map, hk0]; rfl) (o32_add x n) hn rfl (fun lc' hl2 => ?_)
  refine k p l e s mi args below meth c Q ad H locs cells slots A H0 lc' hc ⟨?_, ?_, hso, hok, hP, hD, hS⟩ hr1 hr2 hk
  · rw [flt_1] at hl2
    subst hl'
    exact hl2
  · subst hl'
    intro q hq
    rcases List.mem_cons.mp hq with rfl | hq
    · exact w32_in _
    · exact hlo q (List.mem_filter.mp hq).1
theorem Go_tableOut {x dflt lo hi : Int} {offs : Array Int} {len tgt : Nat} (hd : decode (gCode m) pc = .ok (.tableswitch dflt lo hi offs, len)) (h : x < lo ∨ hi < x) (ht : (pc : Int) + dflt = (tgt : Int)) (k : Go D ca sc R m tgt ls (st) sh M rv sh' M') : Go D ca sc R m pc ls (gI x :: st) sh M rv sh' M' :=
  Go_step (st' := st) (fun p l e s mi args below meth c Q ad H locs cells slots A H0 lc hc hs => ⟨ok_t hs.2.2.1, fun w => lv_tableOut (x := Int32.ofInt x) hc.1 hc.2.1 hd (by rw [o32 (ok_h hs.2.2.1)]; exact h) ht w⟩) k
theorem Go_tableIn {x dflt lo hi off : Int} {offs : Array Int} {len tgt : Nat} (hd : decode (gCode m) pc = .ok (.tableswitch dflt lo hi offs, len)) (h1 : lo ≤ x) (h2 : x ≤ hi) (ho : offs[(x - lo).toNat]? = some off) (ht : (pc : Int) + off = (tgt : Int)) (k : Go D ca sc R m tgt ls (st) sh M rv sh' M') : Go D ca sc R m pc ls (gI x :: st) sh M rv sh' M' :=
  Go_step (st' := st) (fun p l e s mi args below meth c Q ad H locs cells slots A H0 lc hc hs => ⟨ok_t hs.2.2.1, fun w => lv_tableIn (x := Int32.ofInt x) hc.1 hc.2.1 hd (by rw [o32 (show in32 x from ok_h hs.2.2.1)]; omega) (by rw [o32 (show in32 x from ok_h hs.2.2.1)]; omega) (by rw [o32 (ok_h hs.2.2.1)]; exact ho) ht w⟩) k
theorem Go_lookup {x dflt off : Int} {ps : Array (Int × Int)} {len tgt : Nat} (hd : decode (gCode m) pc = .ok (.lookupswitch dflt ps, len)) (hp : (ps.toList.zip (ps.toList.drop 1)).all (fun (a, next) => a.1 < next.1) = true) (ho : Op.lookupswitch.offset ps.toList dflt x = off) (ht : (pc : Int) + off = (tgt : Int)) (k : Go D ca sc R m tgt ls (st) sh M rv sh' M') : Go D ca sc R m pc ls (gI x :: st) sh M rv sh' M' :=
  Go_step (st' := st) (fun p l e s mi args below meth c Q ad H locs cells slots A H0 lc hc hs => ⟨ok_t hs.2.2.1, fun w => lv_lookup (x := Int32.ofInt x) hc.1 hc.2.1 hd hp (by rw [o32 (ok_h hs.2.2.1)]; exact ho) ht w⟩) k
theorem gW_at {ad : Nat → Nat} {i : Nat} {k : Nat × Nat} (h : sh[i]? = some k) : (gW ca ad sh M)[i]? = some (ad i, gEnt ca ad k (M i)) := by
  simp [gW, List.getElem?_mapIdx, h]
theorem gW_set {ad : Nat → Nat} {i : Nat} {k : Nat × Nat} (h : sh[i]? = some k) (r : Nat → Int) : (gW ca ad sh M).set i (ad i, gEnt ca ad k r) = gW ca ad sh (gSet M i r) := by
  apply List.ext_getElem?
  intro j
  by_cases hj : i = j
  · subst hj
    have hlt : i < sh.length := (List.getElem?_eq_some_iff.mp h).1
    rw [gW_at h, List.getElem?_set_self (by simpa [gW] using hlt), gSet_s]
  · rw [List.getElem?_set_ne hj]
    simp only [gW, List.getElem?_mapIdx]
    congr 1
    funext k'
    rw [gSet_n (fun q => hj q.symm)]
theorem gOk_set {i : Nat} {k : Nat × Nat} {r : Nat → Int} (hok : gOk sh M) (h : sh[i]? = some k) (hr : gOkK sh.length k r) : gOk sh (gSet M i r) := by
  intro j k' hj
  by_cases e : j = i
  · subst e
    rw [gSet_s]
    cases h.symm.trans hj
    exact hr
  · rw [gSet_n e]
    exact hok j k' hj
/-- a field is read -/
def gFa (own : String) (idx ci j t : Nat) : Prop := ∃ q : vw_C, vwCl[ci]? = some q ∧ j < q.2.2 ∧ (∀ w ∈ u_ws q.1 q.2.1 q.2.2, w ∈ gTb) ∧ Cond.fieldLink own idx (q.2.1 j).1 (q.2.1 j).2.1 (q.2.1 j).2.2.1 ∈ gTb ∧ (gFt ci)[j]? = some t
theorem gFs_at {ad : Nat → Nat} {ci j t : Nat} (r : Nat → Int) (h : (gFt ci)[j]? = some t) : ((gFt ci).mapIdx (fun j t => gVl ca ad t (r j)))[j]? = some (gVl ca ad t (r j)) := by
  simp [List.getElem?_mapIdx, h]
theorem gFs_set {ad : Nat → Nat} {ci j t : Nat} (r : Nat → Int) (x : Int) (h : (gFt ci)[j]? = some t) : ((gFt ci).mapIdx (fun j t => gVl ca ad t (r j))).set j (gVl ca ad t x) = (gFt ci).mapIdx (fun j' t => gVl ca ad t (gUp r j x j')) := by
  apply List.ext_getElem?
  intro i
  by_cases hj : j = i
  · subst hj
    have hlt : j < (gFt ci).length := (List.getElem?_eq_some_iff.mp h).1
    rw [List.getElem?_set_self (by simpa using hlt)]
    simp only [List.getElem?_mapIdx, h, Option.map_some, gUp_s]
  · rw [List.getElem?_set_ne hj]
    simp only [List.getElem?_mapIdx]
    congr 1
    funext t'
    rw [gUp_n (fun q => hj q.symm)]
theorem gVl_3 (ad : Nat → Nat) (x : Int) : gVl ca ad 3 x = gVl ca ad 0 x := rfl
theorem Go_get0 {i ci j t t' idx : Nat} (fa : gFa (gOwn m) idx ci j t) (hk : sh[i]? = some (0, ci)) (hd : decode (gCode m) pc = .ok (.getfield idx, 3)) (ht : ∀ ad x, gVl ca ad t x = gVl ca ad t' x) (hto : ∀ n x, gOkV n t x → gOkV n t' x) (k : Go D ca sc R m (pc + 3) ls ((t', M i j) :: st) sh M rv sh' M') : Go D ca sc R m pc ls (gR i :: st) sh M rv sh' M' := by
  obtain ⟨q, hq, hj, hin, hl, hft⟩ := fa
  refine Go_step (st' := (t', M i j) :: st) (fun p l e s mi args below meth c Q ad H locs cells slots A H0 lc hc hs => ⟨ok_c (hto _ _ (hs.2.2.2.1 i _ hk j t hft)) (ok_t hs.2.2.1), fun w => ?_⟩) k
  rw [mapR]
  refine va_get (D := D) (ci := ci) (v := gVl ca ad t (M i j)) (C := q.1) (T := q.2.1) (N := q.2.2) hc.1 hc.2.1 hc.2.2.2.2.2.1 hin hc.2.2.2.2.1 hc.2.2.2.2.2.2.2.1.1 hs.2.2.2.2.1 i (gW_at hk) hq j hj (hc.2.2.2.2.2.1 _ hl) (fun _ h => h) (gFs_at (M i) hft) hd ?_
  rw [ht]
  exact w
theorem Go_getI {i ci j idx : Nat} (fa : gFa (gOwn m) idx ci j 0) (hk : sh[i]? = some (0, ci)) (hd : decode (gCode m) pc = .ok (.getfield idx, 3)) (k : Go D ca sc R m (pc + 3) ls (gI (M i j) :: st) sh M rv sh' M') : Go D ca sc R m pc ls (gR i :: st) sh M rv sh' M' := Go_get0 fa hk hd (fun _ _ => rfl) (fun _ _ h => h) k
theorem Go_getJ {i ci j idx : Nat} (fa : gFa (gOwn m) idx ci j 1) (hk : sh[i]? = some (0, ci)) (hd : decode (gCode m) pc = .ok (.getfield idx, 3)) (k : Go D ca sc R m (pc + 3) ls (gJ (M i j) :: st) sh M rv sh' M') : Go D ca sc R m pc ls (gR i :: st) sh M rv sh' M' := Go_get0 fa hk hd (fun _ _ => rfl) (fun _ _ h => h) k
theorem Go_getZ {i ci j idx : Nat} (fa : gFa (gOwn m) idx ci j 3) (hk : sh[i]? = some (0, ci)) (hd : decode (gCode m) pc = .ok (.getfield idx, 3)) (k : Go D ca sc R m (pc + 3) ls (gI (M i j) :: st) sh M rv sh' M') : Go D ca sc R m pc ls (gR i :: st) sh M rv sh' M' := Go_get0 (t' := 0) fa hk hd (fun _ _ => rfl) (fun _ x h => by rcases h with h | h <;> (subst h; show in32 _; unfold in32; omega)) k
theorem Go_getR {i ci j idx c' : Nat} (fa : gFa (gOwn m) idx ci j 2) (hk : sh[i]? = some (0, ci)) (hM : M i j = (c' : Int) + 1) (hd : decode (gCode m) pc = .ok (.getfield idx, 3)) (k : Go D ca sc R m (pc + 3) ls (gR c' :: st) sh M rv sh' M') : Go D ca sc R m pc ls (gR i :: st) sh M rv sh' M' := Go_get0 (t' := 2) fa hk hd (fun _ _ => rfl) (fun _ _ h => h) (by rw [hM]; exact k)
/-- a field is written -/
def gTyOk (t : Nat) (ty : FieldType) : Prop := match t with
  | 0 => ty = .int
  | 1 => ty = .long
  | 3 => ty = .boolean
  | _ => (∃ n, ty = .object n) ∨ ∃ u, ty = .array u
theorem gTyOk.put {t : Nat} {ty : FieldType} (h : gTyOk t ty) (h4 : t < 4) {n : Nat} {x : Int} (hx : gOkV n t x) (ad : Nat → Nat) : narrow ty (gVl ca ad t x) = gVl ca ad t x ∧ fits ty (gVl ca ad t x) = true := by
  match t, h, h4, hx with
  | 0, h, _, _ => cases h; exact ⟨rfl, rfl⟩
  | 1, h, _, _ => cases h; exact ⟨rfl, rfl⟩
  | 3, h, _, hx => cases h; rcases hx with rfl | rfl <;> exact ⟨rfl, rfl⟩
  | 2, h, _, _ =>
    show narrow ty (va_rf (gRf ad x)) = va_rf (gRf ad x) ∧ fits ty (va_rf (gRf ad x)) = true
    rcases va_rf_or (gRf ad x) with e | ⟨a, e⟩ <;> rw [e] <;> rcases h with ⟨n, rfl⟩ | ⟨u, rfl⟩ <;> exact ⟨rfl, rfl⟩
  | n + 4, _, h4, _ => omega
def gFp (own : String) (idx ci j t : Nat) (fin : Bool) : Prop := ∃ (q : vw_C) (ty0 : Nat → FieldType), vwCl[ci]? = some q ∧ j < q.2.2 ∧ (∀ w ∈ u_ws q.1 q.2.1 q.2.2, w ∈ gTb) ∧ Cond.fieldLink own idx (q.2.1 j).1 (q.2.1 j).2.1 (q.2.1 j).2.2.1 ∈ gTb ∧ (gFt ci)[j]? = some t ∧
  (∀ k, k < q.2.2 → parseFieldDescriptor (q.2.1 k).2.2.1 = some (ty0 k)) ∧ (∀ a, a < q.2.2 → ∀ b, b < q.2.2 → a ≠ b → (q.2.1 a).2.1 ≠ (q.2.1 b).2.1) ∧ gTyOk t (ty0 j) ∧ (q.2.1 j).2.2.2 = fin ∧ (fin = true → (q.2.1 j).1 = own) ∧ t < 4
theorem Go_put0 {i ci j t t' idx : Nat} {x : Int} {fin : Bool} (fp : gFp (gOwn m) idx ci j t fin) (hf : fin = true → gIni m = true) (hk : sh[i]? = some (0, ci)) (hd : decode (gCode m) pc = .ok (.putfield idx, 3)) (ht : ∀ ad, gVl ca ad t x = gVl ca ad t' x) (hto : gOkV sh.length t' x → gOkV sh.length t x) (k : Go D ca sc R m (pc + 3) ls (st) sh (gSet M i (gUp (M i) j x)) rv sh' M') : Go D ca sc R m pc ls ((t', x) :: gR i :: st) sh M rv sh' M' := by
  obtain ⟨q, ty0, hq, hj, hin, hlk, hft, hty, hnm, htk, hfin, hdecl, h4⟩ := fp
  intro p l e s mi args below meth c Q ad H locs cells slots A H0 lc hc hs hr1 hr2 hk0
  obtain ⟨hl, hlo, hso, hok, hP, hD, hS⟩ := hs
  have hx := hto (ok_h hso)
  have hnf := gTyOk.put (ca := ca) htk h4 hx ad
  have kk : ∀ (H1 : Heap) (locs1 : List Loc), va_P D vwCl ((gW ca ad sh M).set i (ad i, .inr (ci, ((gFt ci).mapIdx (fun j t => gVl ca ad t (M i j))).set j (gVl ca ad t x)))) H1 → va_D A ((gW ca ad sh M).set i (ad i, .inr (ci, ((gFt ci).mapIdx (fun j t => gVl ca ad t (M i j))).set j (gVl ca ad t x)))) → va_S A H0 H1 locs1 → W p l e R s mi args below meth c H1 locs1 cells slots Q (F0 mi (pc + 3) lc (st.map fun v => gVl ca ad v.1 v.2)) := by
    intro H1 locs1 hP1 hD1 hS1
    rw [gFs_set (M i) x hft] at hP1 hD1
    have e0 : (gW ca ad sh M).set i (ad i, .inr (ci, (gFt ci).mapIdx (fun j' t => gVl ca ad t (gUp (M i) j x j')))) = gW ca ad sh (gSet M i (gUp (M i) j x)) := gW_set hk _
    rw [e0] at hP1 hD1
    refine k p l e s mi args below meth c Q ad H1 locs1 cells slots A H0 lc hc ⟨hl, hlo, ok_t (ok_t hso), gOk_set hok hk ?_, hP1, hD1, hS1⟩ hr1 hr2 hk0
    intro j' t1 hj'
    by_cases ej : j' = j
    · subst ej
      cases hft.symm.trans hj'
      rw [gUp_s]
      exact hx
    · rw [gUp_n ej]
      exact hok i _ hk j' t1 hj'
  show W p l e R s mi args below meth c H locs cells slots Q (F0 mi pc lc (gVl ca ad t' x :: gVl ca ad 2 ((i : Int) + 1) :: st.map fun v => gVl ca ad v.1 v.2))
  rw [gVl_R, ← ht]
  have hll : j < ((gFt ci).mapIdx (fun j t => gVl ca ad t (M i j))).length := by
    rw [List.length_mapIdx]
    exact (List.getElem?_eq_some_iff.mp hft).1
  cases hfin' : fin with
  | false => exact va_put (D := D) (ci := ci) (v := gVl ca ad t x) (ty := ty0 j) (C := q.1) (T := q.2.1) (N := q.2.2) hc.1 hc.2.1 hc.2.2.2.2.2.1 hin ty0 hty hnm hc.2.2.2.2.1 hc.2.2.2.2.2.2.2.1.1 hP hD hS i (gW_at hk) hq j hj (hc.2.2.2.2.2.1 _ hlk) (fun _ h => h) (hfin.trans hfin') (hty j hj) hnf.1 hnf.2 hll hd kk
  | true => exact va_putF (D := D) (ci := ci) (v := gVl ca ad t x) (ty := ty0 j) (C := q.1) (T := q.2.1) (N := q.2.2) hc.1 hc.2.1 hc.2.2.2.2.2.1 hin ty0 hty hnm hc.2.2.2.2.1 hc.2.2.2.2.2.2.2.1.1 hP hD hS i (gW_at hk) hq j hj (hc.2.2.2.2.2.1 _ hlk) (fun _ h => h) (hfin.trans hfin') (hc.2.2.2.2.2.2.2.2.1 (hf hfin')) (hdecl hfin') (hty j hj) hnf.1 hnf.2 hll hd kk

theorem Go_putI {i ci j idx : Nat} {x : Int} (fp : gFp (gOwn m) idx ci j 0 false) (hk : sh[i]? = some (0, ci)) (hd : decode (gCode m) pc = .ok (.putfield idx, 3)) (k : Go D ca sc R m (pc + 3) ls (st) sh (gSet M i (gUp (M i) j x)) rv sh' M') : Go D ca sc R m pc ls ((0, x) :: gR i :: st) sh M rv sh' M' := Go_put0 fp (fun h => by cases h) hk hd (fun _ => rfl) (fun h => h) k
theorem Go_putJ {i ci j idx : Nat} {x : Int} (fp : gFp (gOwn m) idx ci j 1 false) (hk : sh[i]? = some (0, ci)) (hd : decode (gCode m) pc = .ok (.putfield idx, 3)) (k : Go D ca sc R m (pc + 3) ls (st) sh (gSet M i (gUp (M i) j x)) rv sh' M') : Go D ca sc R m pc ls ((1, x) :: gR i :: st) sh M rv sh' M' := Go_put0 fp (fun h => by cases h) hk hd (fun _ => rfl) (fun h => h) k
theorem Go_putZ {i ci j idx : Nat} {x : Int} (hx : x = 0 ∨ x = 1) (fp : gFp (gOwn m) idx ci j 3 false) (hk : sh[i]? = some (0, ci)) (hd : decode (gCode m) pc = .ok (.putfield idx, 3)) (k : Go D ca sc R m (pc + 3) ls (st) sh (gSet M i (gUp (M i) j x)) rv sh' M') : Go D ca sc R m pc ls ((0, x) :: gR i :: st) sh M rv sh' M' := Go_put0 fp (fun h => by cases h) hk hd (fun _ => rfl) (fun _ => hx) k
theorem Go_putF {i ci j idx : Nat} {x : Int} (fp : gFp (gOwn m) idx ci j 2 true) (hi : gIni m = true) (hk : sh[i]? = some (0, ci)) (hd : decode (gCode m) pc = .ok (.putfield idx, 3)) (k : Go D ca sc R m (pc + 3) ls (st) sh (gSet M i (gUp (M i) j x)) rv sh' M') : Go D ca sc R m pc ls ((2, x) :: gR i :: st) sh M rv sh' M' := Go_put0 fp (fun _ => hi) hk hd (fun _ => rfl) (fun h => h) k
theorem Go_iaload {i n : Nat} {x : Int} (j : Nat) (hk : sh[i]? = some (1, n)) (hj : x = (j : Int)) (hlt : j < n) (hd : decode (gCode m) pc = .ok (.iaload, 1)) (k : Go D ca sc R m (pc + 1) ls (gI (M i j) :: st) sh M rv sh' M') : Go D ca sc R m pc ls (gI x :: gR i :: st) sh M rv sh' M' := by
  refine Go_step (st' := gI (M i j) :: st) (fun p l e s mi args below meth c Q ad H locs cells slots A H0 lc hc hs => ⟨ok_c (hs.2.2.2.1 i _ hk j) (ok_t (ok_t hs.2.2.1)), fun w => ?_⟩) k
  have hx : in32 x := ok_h hs.2.2.1
  subst hj
  show W p l e R s mi args below meth c H locs cells slots Q (F0 mi pc lc (.int (Int32.ofInt (j : Int)) :: gVl ca ad 2 ((i : Int) + 1) :: st.map fun v => gVl ca ad v.1 v.2))
  rw [gVl_R]
  refine va_iald (f := fun j => Int32.ofInt (M i j)) hc.1 hc.2.1 hc.2.2.2.2.2.2.2.1.1 hs.2.2.2.2.1 i 0 (gW_at hk) rfl (in_32 hx (by omega) (by omega)) hd ?_
  have e0 : (Int32.ofInt (j : Int)).toNatClampNeg = j := by rw [nn32 hx]; omega
  rw [e0]
  exact w
theorem Go_laload {i n : Nat} {x : Int} (j : Nat) (hk : sh[i]? = some (2, n)) (hj : x = (j : Int)) (hlt : j < n) (hd : decode (gCode m) pc = .ok (.laload, 1)) (k : Go D ca sc R m (pc + 1) ls (gJ (M i j) :: st) sh M rv sh' M') : Go D ca sc R m pc ls (gI x :: gR i :: st) sh M rv sh' M' := by
  refine Go_step (st' := gJ (M i j) :: st) (fun p l e s mi args below meth c Q ad H locs cells slots A H0 lc hc hs => ⟨ok_c (hs.2.2.2.1 i _ hk j) (ok_t (ok_t hs.2.2.1)), fun w => ?_⟩) k
  have hx : in32 x := ok_h hs.2.2.1
  subst hj
  show W p l e R s mi args below meth c H locs cells slots Q (F0 mi pc lc (.int (Int32.ofInt (j : Int)) :: gVl ca ad 2 ((i : Int) + 1) :: st.map fun v => gVl ca ad v.1 v.2))
  rw [gVl_R]
  refine va_lald (f := fun j => Int64.ofInt (M i j)) hc.1 hc.2.1 hc.2.2.2.2.2.2.2.1.1 hs.2.2.2.2.1 i 1 (gW_at hk) rfl (in_32 hx (by omega) (by omega)) hd ?_
  have e0 : (Int32.ofInt (j : Int)).toNatClampNeg = j := by rw [nn32 hx]; omega
  rw [e0]
  exact w
theorem Go_iastore {i n : Nat} {x v : Int} (j : Nat) (hk : sh[i]? = some (1, n)) (hj : x = (j : Int)) (hlt : j < n) (hd : decode (gCode m) pc = .ok (.iastore, 1)) (k : Go D ca sc R m (pc + 1) ls (st) sh (gSet M i (gUp (M i) j v)) rv sh' M') : Go D ca sc R m pc ls (gI v :: gI x :: gR i :: st) sh M rv sh' M' := by
  intro p l e s mi args below meth c Q ad H locs cells slots A H0 lc hc hs hr1 hr2 hk0
  obtain ⟨hl, hlo, hso, hok, hP, hD, hS⟩ := hs
  have hx : in32 x := ok_h (ok_t hso)
  subst hj
  show W p l e R s mi args below meth c H locs cells slots Q (F0 mi pc lc (.int (Int32.ofInt v) :: .int (Int32.ofInt (j : Int)) :: gVl ca ad 2 ((i : Int) + 1) :: st.map fun v => gVl ca ad v.1 v.2))
  rw [gVl_R]
  refine va_iast (f := fun j => Int32.ofInt (M i j)) hc.1 hc.2.1 hc.2.2.2.2.2.2.2.1.1 hP hD hS i 0 (gW_at hk) rfl (in_32 hx (by omega) (by omega)) hd (fun H1 locs1 hP1 hD1 hS1 => ?_)
  have e0 : (Int32.ofInt (j : Int)).toNatClampNeg = j := by rw [nn32 hx]; omega
  have e2 : upd (fun j => Int32.ofInt (M i j)) j (Int32.ofInt v) = fun j' => Int32.ofInt (gUp (M i) j v j') := by
    funext j'
    by_cases ej : j' = j
    · simp [upd, gUp, ej]
    · simp [upd, gUp, ej]
  rw [e0, e2] at hP1 hD1
  have e3 := gW_set (ca := ca) (ad := ad) (M := M) hk (gUp (M i) j v)
  have hP2 : va_P D vwCl (gW ca ad sh (gSet M i (gUp (M i) j v))) H1 := by rw [← e3]; exact hP1
  have hD2 : va_D A (gW ca ad sh (gSet M i (gUp (M i) j v))) := by rw [← e3]; exact hD1
  refine k p l e s mi args below meth c Q ad H1 locs1 cells slots A H0 lc hc ⟨hl, hlo, ok_t (ok_t (ok_t hso)), gOk_set hok hk ?_, hP2, hD2, hS1⟩ hr1 hr2 hk0
  intro j'
  by_cases ej : j' = j
  · subst ej
    rw [gUp_s]
    exact ok_h hso
  · rw [gUp_n ej]
    exact hok i _ hk j'
theorem Go_lastore {i n : Nat} {x v : Int} (j : Nat) (hk : sh[i]? = some (2, n)) (hj : x = (j : Int)) (hlt : j < n) (hd : decode (gCode m) pc = .ok (.lastore, 1)) (k : Go D ca sc R m (pc + 1) ls (st) sh (gSet M i (gUp (M i) j v)) rv sh' M') : Go D ca sc R m pc ls (gJ v :: gI x :: gR i :: st) sh M rv sh' M' := by
  intro p l e s mi args below meth c Q ad H locs cells slots A H0 lc hc hs hr1 hr2 hk0
  obtain ⟨hl, hlo, hso, hok, hP, hD, hS⟩ := hs
  have hx : in32 x := ok_h (ok_t hso)
  subst hj
  show W p l e R s mi args below meth c H locs cells slots Q (F0 mi pc lc (.long (Int64.ofInt v) :: .int (Int32.ofInt (j : Int)) :: gVl ca ad 2 ((i : Int) + 1) :: st.map fun v => gVl ca ad v.1 v.2))
  rw [gVl_R]
  refine va_last (f := fun j => Int64.ofInt (M i j)) hc.1 hc.2.1 hc.2.2.2.2.2.2.2.1.1 hP hD hS i 1 (gW_at hk) rfl (in_32 hx (by omega) (by omega)) hd (fun H1 locs1 hP1 hD1 hS1 => ?_)
  have e0 : (Int32.ofInt (j : Int)).toNatClampNeg = j := by rw [nn32 hx]; omega
  have e2 : vp_updL (fun j => Int64.ofInt (M i j)) j (Int64.ofInt v) = fun j' => Int64.ofInt (gUp (M i) j v j') := by
    funext j'
    by_cases ej : j' = j
    · simp [vp_updL, gUp, ej]
    · simp [vp_updL, gUp, ej]
  rw [e0, e2] at hP1 hD1
  have e3 := gW_set (ca := ca) (ad := ad) (M := M) hk (gUp (M i) j v)
  have hP2 : va_P D vwCl (gW ca ad sh (gSet M i (gUp (M i) j v))) H1 := by rw [← e3]; exact hP1
  have hD2 : va_D A (gW ca ad sh (gSet M i (gUp (M i) j v))) := by rw [← e3]; exact hD1
  refine k p l e s mi args below meth c Q ad H1 locs1 cells slots A H0 lc hc ⟨hl, hlo, ok_t (ok_t (ok_t hso)), gOk_set hok hk ?_, hP2, hD2, hS1⟩ hr1 hr2 hk0
  intro j'
  by_cases ej : j' = j
  · subst ej
    rw [gUp_s]
    exact ok_h hso
  · rw [gUp_n ej]
    exact hok i _ hk j'
theorem Go_aaload {i n t c' : Nat} {x : Int} {C : String} (j : Nat) (hk : sh[i]? = some (t + 3, n)) (hC : (gTy ca)[t + 2]? = some (ca (t + 2), .object C)) (hM : M i j = (c' : Int) + 1) (hj : x = (j : Int)) (hlt : j < n) (hd : decode (gCode m) pc = .ok (.aaload, 1)) (k : Go D ca sc R m (pc + 1) ls (gR c' :: st) sh M rv sh' M') : Go D ca sc R m pc ls (gI x :: gR i :: st) sh M rv sh' M' := by
  refine Go_step (st' := gR c' :: st) (fun p l e s mi args below meth c Q ad H locs cells slots A H0 lc hc hs => ⟨ok_c (by have h := hs.2.2.2.1 i _ hk j; rw [hM] at h; exact h) (ok_t (ok_t hs.2.2.1)), fun w => ?_⟩) k
  have hx : in32 x := ok_h hs.2.2.1
  subst hj
  show W p l e R s mi args below meth c H locs cells slots Q (F0 mi pc lc (.int (Int32.ofInt (j : Int)) :: gVl ca ad 2 ((i : Int) + 1) :: st.map fun v => gVl ca ad v.1 v.2))
  rw [gVl_R]
  refine va_aldq (f := fun j => gRf ad (M i j)) hc.1 hc.2.1 hc.2.2.2.2.2.2.2.1.1 hs.2.2.2.2.1 i (t + 2) (gW_at hk) hC (in_32 hx (by omega) (by omega)) hd ?_
  have e0 : (Int32.ofInt (j : Int)).toNatClampNeg = j := by rw [nn32 hx]; omega
  rw [e0, hM]
  exact w
theorem Go_alen {i n kd : Nat} (hk : sh[i]? = some (kd, n)) (hkd : kd = 1 ∨ kd = 2) (hn : n < 2147483648) (hd : decode (gCode m) pc = .ok (.arraylength, 1)) (k : Go D ca sc R m (pc + 1) ls (gI (n : Int) :: st) sh M rv sh' M') : Go D ca sc R m pc ls (gR i :: st) sh M rv sh' M' := by
  refine Go_step (st' := gI (n : Int) :: st) (fun p l e s mi args below meth c Q ad H locs cells slots A H0 lc hc hs => ⟨ok_c (by show in32 (n : Int); unfold in32; omega) (ok_t hs.2.2.1), fun w => ?_⟩) k
  rw [mapR]
  rcases hkd with rfl | rfl
  · exact va_alen hc.1 hc.2.1 hc.2.2.2.2.2.2.2.1.1 hs.2.2.2.2.1 i 0 (gW_at hk) (ty := .int) rfl (v := Int32.ofInt (n : Int)) (by rfl) hd w
  · exact va_alen hc.1 hc.2.1 hc.2.2.2.2.2.2.2.1.1 hs.2.2.2.2.1 i 1 (gW_at hk) (ty := .long) rfl (v := Int32.ofInt (n : Int)) (by rfl) hd w
theorem Go_sld {L : Nat} {xs : Nat → Int} {x : Int} (j : Nat) (hsc : sc = some (L, xs)) (hj : x = (j : Int)) (hlt : j < L) (hd : decode (gCode m) pc = .ok (.iaload, 1)) (k : Go D ca sc R m (pc + 1) ls (gI (xs j) :: st) sh M rv sh' M') : Go D ca sc R m pc ls (gI x :: gS :: st) sh M rv sh' M' := by
  refine Go_step (st' := gI (xs j) :: st) (fun p l e s mi args below meth c Q ad H locs cells slots A H0 lc hc hs => ?_) k
  have hx : in32 x := ok_h hs.2.2.1
  have hz := hc.2.2.2.2.2.2.2.2.2.2
  rw [hsc] at hz
  obtain ⟨z1, z2, z3, z4, -⟩ := hz
  refine ⟨ok_c (z4 j) (ok_t (ok_t hs.2.2.1)), fun w => ?_⟩
  subst hj
  have e0 : (Int32.ofInt (j : Int)).toNatClampNeg = j := by rw [nn32 hx]; omega
  refine va_sld (i := Int32.ofInt (j : Int)) hc.1 hc.2.1 z1 z2 z3 hs.2.2.2.2.2.2 (in_32 hx (by omega) (by show (j : Int) < ((L : Nat) : Int); omega)) hd ?_
  rw [e0]
  exact w
theorem Go_slen {L : Nat} {xs : Nat → Int} (hsc : sc = some (L, xs)) (hd : decode (gCode m) pc = .ok (.arraylength, 1)) (k : Go D ca sc R m (pc + 1) ls (gI (L : Int) :: st) sh M rv sh' M') : Go D ca sc R m pc ls (gS :: st) sh M rv sh' M' := by
  refine Go_step (st' := gI (L : Int) :: st) (fun p l e s mi args below meth c Q ad H locs cells slots A H0 lc hc hs => ?_) k
  have hz := hc.2.2.2.2.2.2.2.2.2.2
  rw [hsc] at hz
  obtain ⟨z1, z2, z3, z4, z5⟩ := hz
  refine ⟨ok_c (by show in32 (L : Int); unfold in32; have z5 : L ≤ 2560 := z5; omega) (ok_t hs.2.2.1), fun w => ?_⟩
  exact va_slen hc.1 hc.2.1 z1 z2 z3 hs.2.2.2.2.2.2 hd w
end GM
end
section
section GA
variable {D : va_G} {ca : Nat → ClassId} {sc : gScr} {R : Room} {m : gMd} {pc pc' : Nat} {ls ls' : gLs} {st st' : List gAV} {sh sh' : gShp} {M M' : gMem} {rv : List gAV}
theorem gRf_ad {ad ad' : Nat → Nat} {n : Nat} {x : Int} (h : ∀ i, i < n → ad' i = ad i) (hx : 0 ≤ x ∧ x ≤ n) : gRf ad' x = gRf ad x := by
  unfold gRf
  by_cases h0 : x = 0
  · rw [if_pos h0, if_pos h0]
  · rw [if_neg h0, if_neg h0, h _ (by omega)]
theorem gVl_ad {ad ad' : Nat → Nat} {n t : Nat} {x : Int} (h : ∀ i, i < n → ad' i = ad i) (hx : gOkV n t x) : gVl ca ad' t x = gVl ca ad t x := by
  match t, hx with
  | 0, _ => rfl
  | 1, _ => rfl
  | 2, hx => show va_rf (gRf ad' x) = va_rf (gRf ad x); rw [gRf_ad h hx]
  | 3, _ => rfl
  | t + 4, _ => rfl
theorem gEnt_ad {ad ad' : Nat → Nat} {n : Nat} {k : Nat × Nat} {r : Nat → Int} (h : ∀ i, i < n → ad' i = ad i) (hx : gOkK n k r) : gEnt ca ad' k r = gEnt ca ad k r := by
  obtain ⟨k1, k2⟩ := k
  match k1, hx with
  | 0, hx =>
    show Sum.inr (k2, (gFt k2).mapIdx (fun j t => gVl ca ad' t (r j))) = Sum.inr (k2, (gFt k2).mapIdx (fun j t => gVl ca ad t (r j)))
    congr 2
    apply List.ext_getElem?
    intro j
    simp only [List.getElem?_mapIdx]
    cases hj : (gFt k2)[j]? with
    | none => rfl
    | some t => simp only [Option.map_some]; rw [gVl_ad h (hx j t hj)]
  | 1, _ => rfl
  | 2, _ => rfl
  | t + 3, hx =>
    show (Sum.inl (ca (t + 2), k2, Sum.inr (Sum.inr (Sum.inr (Sum.inr (fun j => gRf ad' (r j)))))) : va_E) = Sum.inl (ca (t + 2), k2, Sum.inr (Sum.inr (Sum.inr (Sum.inr (fun j => gRf ad (r j))))))
    have e0 : (fun j => gRf ad' (r j)) = fun j => gRf ad (r j) := funext fun j => gRf_ad h (hx j)
    rw [e0]
theorem gW_ad {ad ad' : Nat → Nat} (h : ∀ i, i < sh.length → ad' i = ad i) (hok : gOk sh M) : gW ca ad' sh M = gW ca ad sh M := by
  apply List.ext_getElem?
  intro i
  simp only [gW, List.getElem?_mapIdx]
  cases hi : sh[i]? with
  | none => rfl
  | some k => simp only [Option.map_some]; rw [h i (List.getElem?_eq_some_iff.mp hi).1, gEnt_ad h (hok i k hi)]
theorem gW_len (ad : Nat → Nat) : (gW ca ad sh M).length = sh.length := by simp [gW]
theorem gW_app {ad : Nat → Nat} {k : Nat × Nat} {r : Nat → Int} : gW ca ad (sh ++ [k]) (gSet M sh.length r) = gW ca ad sh M ++ [(ad sh.length, gEnt ca ad k r)] := by
  apply List.ext_getElem?
  intro j
  by_cases h : j < sh.length
  · rw [List.getElem?_append_left (by rw [gW_len]; exact h)]
    simp only [gW, List.getElem?_mapIdx, List.getElem?_append_left h]
    rw [gSet_n (by omega)]
  · rw [List.getElem?_append_right (by rw [gW_len]; omega), gW_len]
    simp only [gW, List.getElem?_mapIdx]
    rw [List.getElem?_append_right (by omega)]
    by_cases h2 : j = sh.length
    · subst h2
      simp [gSet_s]
    · have h3 : 1 ≤ j - sh.length := by omega
      rw [List.getElem?_eq_none (by simpa using h3), List.getElem?_eq_none (by simpa using h3)]
      rfl
theorem gOkV_mono {n n' t : Nat} {x : Int} (h : n ≤ n') (hx : gOkV n t x) : gOkV n' t x := by
  match t, hx with
  | 0, hx => exact hx
  | 1, hx => exact hx
  | 2, hx => exact ⟨hx.1, by have := hx.2; omega⟩
  | 3, hx => exact hx
  | t + 4, hx => exact hx
theorem gOkK_mono {n n' : Nat} {k : Nat × Nat} {r : Nat → Int} (h : n ≤ n') (hx : gOkK n k r) : gOkK n' k r := by
  obtain ⟨k1, k2⟩ := k
  match k1, hx with
  | 0, hx => exact fun j t hj => gOkV_mono h (hx j t hj)
  | 1, hx => exact hx
  | 2, hx => exact hx
  | t + 3, hx => exact fun j => ⟨(hx j).1, by have := (hx j).2; omega⟩
theorem gOkV_0 (n t : Nat) : gOkV n t 0 := by
  match t with
  | 0 => exact in32_0
  | 1 => exact in32_64 in32_0
  | 2 => exact ⟨Int.le_refl 0, by omega⟩
  | 3 => exact Or.inl rfl
  | t + 4 => exact trivial
theorem gOkK_0 (n : Nat) (k : Nat × Nat) : gOkK n k (fun _ => 0) := by
  obtain ⟨k1, k2⟩ := k
  match k1 with
  | 0 => exact fun j t _ => gOkV_0 n t
  | 1 => exact fun _ => in32_0
  | 2 => exact fun _ => in32_64 in32_0
  | t + 3 => exact fun _ => ⟨Int.le_refl 0, by show (0 : Int) ≤ (n : Int); omega⟩
theorem gOk_app {k : Nat × Nat} (hok : gOk sh M) : gOk (sh ++ [k]) (gSet M sh.length (fun _ => 0)) := by
  intro j k' hj
  have hl : (sh ++ [k]).length = sh.length + 1 := by simp
  by_cases h : j < sh.length
  · rw [List.getElem?_append_left h] at hj
    rw [gSet_n (by omega), hl]
    exact gOkK_mono (by omega) (hok j k' hj)
  · by_cases h2 : j = sh.length
    · subst h2
      rw [gSet_s]
      exact gOkK_0 _ _
    · rw [List.getElem?_append_right (by omega)] at hj
      rw [List.getElem?_eq_none (by simp; omega)] at hj
      cases hj
theorem gSz_app (k : Nat × Nat) : gSz (sh ++ [k]) = gSz sh + gKs k := by simp [gSz]
theorem Go_alloc {k : Nat × Nat} (hst : ∀ v ∈ st', v ∈ st) (hle : sh.length + 1 ≤ sh'.length) (hsz : gSz sh + gKs k ≤ gSz sh')
    (h : ∀ (p : Program) (l : Launch) (e : Env) (s : State) (mi : MethodId) (args : Array Value) (below : List Frame) (meth : Method) (c : Code) (Q : State → Prop) (ad : Nat → Nat) (H : Heap) (locs : List Loc) (cells slots : Nat) (A : Nat → Prop) (H0 : Heap) (lc : Array Slot), gCx D ca sc m p s mi args meth c A H0 → gSt D ca m ls st sh M ad H locs A H0 lc → cells + 1 ≤ R.cells → slots + gKs k ≤ R.slots →
      (∀ (q : Nat) (H1 : Heap), va_P D vwCl (gW ca ad sh M ++ [(q, gEnt ca ad k (fun _ => 0))]) H1 → va_D A (gW ca ad sh M ++ [(q, gEnt ca ad k (fun _ => 0))]) → va_S A H0 H1 locs → W p l e R s mi args below meth c H1 locs (cells + 1) (slots + gKs k) Q (F0 mi pc' lc (.ref q :: st'.map fun v => gVl ca ad v.1 v.2))) →
      W p l e R s mi args below meth c H locs cells slots Q (F0 mi pc lc (st.map fun v => gVl ca ad v.1 v.2)))
    (k0 : Go D ca sc R m pc' ls (gR sh.length :: st') (sh ++ [k]) (gSet M sh.length (fun _ => 0)) rv sh' M') : Go D ca sc R m pc ls (st) sh M rv sh' M' := by
  intro p l e s mi args below meth c Q ad H locs cells slots A H0 lc hc hs hr1 hr2 hk
  refine h p l e s mi args below meth c Q ad H locs cells slots A H0 lc hc hs (by omega) (by omega) (fun q H1 hP1 hD1 hS1 => ?_)
  obtain ⟨hl, hlo, hso, hok, hP, hD, hS⟩ := hs
  have hag : ∀ i, i < sh.length → (fun i => if i = sh.length then q else ad i) i = ad i := fun i hi => if_neg (by omega)
  have hlen : (sh ++ [k]).length = sh.length + 1 := by simp
  have e1 : gW ca ad sh M ++ [(q, gEnt ca ad k (fun _ => 0))] = gW ca (fun i => if i = sh.length then q else ad i) (sh ++ [k]) (gSet M sh.length (fun _ => 0)) := by
    rw [gW_app, gW_ad hag hok, gEnt_ad hag (gOkK_0 _ _)]
    simp
  rw [e1] at hP1 hD1
  have e2 : (.ref q :: st'.map fun v => gVl ca ad v.1 v.2) = (gR sh.length :: st').map fun v => gVl ca (fun i => if i = sh.length then q else ad i) v.1 v.2 := by
    rw [mapR]
    congr 1
    · simp
    · exact List.map_congr_left (fun v hv => (gVl_ad hag (hso v (hst v hv))).symm)
  rw [e2]
  refine k0 p l e s mi args below meth c Q (fun i => if i = sh.length then q else ad i) H1 locs (cells + 1) (slots + gKs k) A H0 lc hc ⟨?_, ?_, ?_, gOk_app hok, hP1, hD1, hS1⟩ (by rw [hlen]; omega) (by rw [gSz_app]; omega) ?_
  · have e3 : (ls.map fun q' => (q'.1, gVl ca (fun i => if i = sh.length then q else ad i) q'.2.1 q'.2.2)) = ls.map fun q' => (q'.1, gVl ca ad q'.2.1 q'.2.2) := List.map_congr_left (fun v hv => by rw [gVl_ad hag (hlo v hv)])
    rw [e3]
    exact hl
  · intro v hv
    rw [hlen]
    exact gOkV_mono (by omega) (hlo v hv)
  · refine ok_c ?_ (fun v hv => by rw [hlen]; exact gOkV_mono (by omega) (hso v (hst v hv)))
    show 0 ≤ ((sh.length : Nat) : Int) + 1 ∧ ((sh.length : Nat) : Int) + 1 ≤ (((sh ++ [k]).length : Nat) : Int)
    rw [hlen]
    omega
  · intro ad' H' locs' cells' slots' lc' pc2 g1 g2 g3 g4 g5 g6 g7 g8 g9
    refine hk ad' H' locs' cells' slots' lc' pc2 (fun i hi => (g1 i (by rw [hlen]; omega)).trans (hag i hi)) g2 g3 g4 g5 g6 (by rw [hlen] at g7; omega) (by rw [gSz_app] at g8; omega) g9
/-- an object of the class ci is made -/
def gNc (own : String) (idx ci : Nat) : Prop := ∃ (q : vw_C) (ty0 : Nat → FieldType), vwCl[ci]? = some q ∧ (∀ w ∈ u_ws q.1 q.2.1 q.2.2, w ∈ gTb) ∧ (∀ k, k < q.2.2 → parseFieldDescriptor (q.2.1 k).2.2.1 = some (ty0 k)) ∧ Cond.classLink own idx q.1 ∈ gTb ∧ Cond.instantiable q.1 q.2.2 ∈ gTb ∧ Cond.initialized q.1 ∈ gTb ∧ (gFt ci).length = q.2.2 ∧ ∀ j, j < q.2.2 → ∃ t, (gFt ci)[j]? = some t ∧ t < 4 ∧ gTyOk t (ty0 j)
theorem gTyOk.dflt {t : Nat} {ty : FieldType} (h : gTyOk t ty) (h4 : t < 4) (ad : Nat → Nat) : defaultValue ty = gVl ca ad t 0 := by
  match t, h, h4 with
  | 0, h, _ => cases h; rfl
  | 1, h, _ => cases h; rfl
  | 3, h, _ => cases h; rfl
  | 2, h, _ => rcases h with ⟨n, rfl⟩ | ⟨u, rfl⟩ <;> rfl
  | n + 4, _, h4 => omega
theorem Go_new {ci idx : Nat} (nc : gNc (gOwn m) idx ci) (hle : sh.length + 1 ≤ sh'.length) (hsz : gSz sh + gKs (0, ci) ≤ gSz sh') (hd : decode (gCode m) pc = .ok (.new idx, 3)) (k0 : Go D ca sc R m (pc + 3) ls (gR sh.length :: st) (sh ++ [(0, ci)]) (gSet M sh.length (fun _ => 0)) rv sh' M') : Go D ca sc R m pc ls (st) sh M rv sh' M' := by
  obtain ⟨q, ty0, hq, hin, hty, hcl, hinst, hini, hlen, hts⟩ := nc
  refine Go_alloc (k := (0, ci)) (st' := st) (fun v hv => hv) hle hsz (fun p l e s mi args below meth c Q ad H locs cells slots A H0 lc hc hs h1 h2 kk => ?_) k0
  have hks : gKs (0, ci) = q.2.2 := hlen
  rw [hks] at h2 kk
  exact va_new (ci := ci) (C := q.1) (T := q.2.1) (N := q.2.2) (fs := (gFt ci).mapIdx (fun j t => gVl ca ad t 0)) hc.1 hc.2.1 hc.2.2.2.2.2.1 hin ty0 hty hc.2.2.2.2.1 (hc.2.2.2.2.2.1 _ hcl) (hc.2.2.2.2.2.1 _ hinst) (hc.2.2.2.2.2.1 _ hini) hc.2.2.2.2.2.2.2.1.1 hs.2.2.2.2.1 hs.2.2.2.2.2.1 hs.2.2.2.2.2.2 hc.2.2.2.2.2.2.2.2.2.1 hq (fun j hj => by
    obtain ⟨t, ht, h4, hok⟩ := hts j hj
    rw [hok.dflt (ca := ca) h4 ad, vp_V, List.getD_eq_getElem?_getD, List.getElem?_mapIdx, ht]
    rfl) h1 h2 hd kk
theorem Go_newI {n : Nat} {x : Int} (hx : x = (n : Int)) (hn : n ≤ 2000) (harr : Cond.arrayClass .int ∈ gTb) (hle : sh.length + 1 ≤ sh'.length) (hsz : gSz sh + gKs (1, n) ≤ gSz sh') (hd : decode (gCode m) pc = .ok (.newarray .int, 2)) (k0 : Go D ca sc R m (pc + 2) ls (gR sh.length :: st) (sh ++ [(1, n)]) (gSet M sh.length (fun _ => 0)) rv sh' M') : Go D ca sc R m pc ls (gI x :: st) sh M rv sh' M' := by
  refine Go_alloc (k := (1, n)) (st' := st) (fun v hv => List.mem_cons_of_mem _ hv) hle hsz (fun p l e s mi args below meth c Q ad H locs cells slots A H0 lc hc hs h1 h2 kk => ?_) k0
  have hx3 : in32 x := ok_h hs.2.2.1
  have hK := hc.2.2.2.2.2.2.2.1.1
  refine va_newa (atype := .int) (ty := .int) (n := Int32.ofInt x) (N' := n) (a0 := (n, .inl (fun _ => Int32.ofInt 0))) hc.1 hc.2.1 (hc.2.2.2.2.2.1 _ harr) rfl hK hs.2.2.2.2.1 hs.2.2.2.2.2.1 hs.2.2.2.2.2.2 hc.2.2.2.2.2.2.2.2.2.1 (fun cA => ?_) (fun h => by rw [show (0 : Int32) = Int32.ofInt 0 from rfl, lt32 hx3 in32_0] at h; omega) (by rw [nn32 hx3]; omega) (by show n * 4 ≤ _; omega) h1 h2 hd (fun q cA H1 hK1 hP1 hD1 hS1 => ?_)
  · rfl
  · have e1 : cA = ca 0 := by
      have r1 : va_RA s cA .int := (hK1.2 (gTy ca).length (cA, .int) (by simp)).2
      have r2 : va_RA s (ca 0) .int := (hK.2 0 (ca 0, .int) rfl).2
      exact Option.some.inj (r1.symm.trans r2)
    subst e1
    exact kk q H1 hP1 hD1 hS1
theorem Go_newJ {n : Nat} {x : Int} (hx : x = (n : Int)) (hn : n ≤ 2000) (harr : Cond.arrayClass .long ∈ gTb) (hle : sh.length + 1 ≤ sh'.length) (hsz : gSz sh + gKs (2, n) ≤ gSz sh') (hd : decode (gCode m) pc = .ok (.newarray .long, 2)) (k0 : Go D ca sc R m (pc + 2) ls (gR sh.length :: st) (sh ++ [(2, n)]) (gSet M sh.length (fun _ => 0)) rv sh' M') : Go D ca sc R m pc ls (gI x :: st) sh M rv sh' M' := by
  refine Go_alloc (k := (2, n)) (st' := st) (fun v hv => List.mem_cons_of_mem _ hv) hle hsz (fun p l e s mi args below meth c Q ad H locs cells slots A H0 lc hc hs h1 h2 kk => ?_) k0
  have hx3 : in32 x := ok_h hs.2.2.1
  have hK := hc.2.2.2.2.2.2.2.1.1
  refine va_newa (atype := .long) (ty := .long) (n := Int32.ofInt x) (N' := n) (a0 := (n, .inr (.inl (fun _ => Int64.ofInt 0)))) hc.1 hc.2.1 (hc.2.2.2.2.2.1 _ harr) rfl hK hs.2.2.2.2.1 hs.2.2.2.2.2.1 hs.2.2.2.2.2.2 hc.2.2.2.2.2.2.2.2.2.1 (fun cA => ?_) (fun h => by rw [show (0 : Int32) = Int32.ofInt 0 from rfl, lt32 hx3 in32_0] at h; omega) (by rw [nn32 hx3]; omega) (by show n * 8 ≤ _; omega) h1 h2 hd (fun q cA H1 hK1 hP1 hD1 hS1 => ?_)
  · rfl
  · have e1 : cA = ca 1 := by
      have r1 : va_RA s cA .long := (hK1.2 (gTy ca).length (cA, .long) (by simp)).2
      have r2 : va_RA s (ca 1) .long := (hK.2 1 (ca 1, .long) rfl).2
      exact Option.some.inj (r1.symm.trans r2)
    subst e1
    exact kk q H1 hP1 hD1 hS1
theorem Go_newR {n t idx : Nat} {x : Int} {C : String} (hx : x = (n : Int)) (hn : n ≤ 2000) (hC : (t = 0 ∧ C = "BreadOvens$Valley") ∨ (t = 1 ∧ C = "BreadOvens$Chart")) (hcl : Cond.classLink (gOwn m) idx C ∈ gTb) (hle : sh.length + 1 ≤ sh'.length) (hsz : gSz sh + gKs (t + 3, n) ≤ gSz sh') (hd : decode (gCode m) pc = .ok (.anewarray idx, 3)) (k0 : Go D ca sc R m (pc + 3) ls (gR sh.length :: st) (sh ++ [(t + 3, n)]) (gSet M sh.length (fun _ => 0)) rv sh' M') : Go D ca sc R m pc ls (gI x :: st) sh M rv sh' M' := by
  refine Go_alloc (k := (t + 3, n)) (st' := st) (fun v hv => List.mem_cons_of_mem _ hv) hle hsz (fun p l e s mi args below meth c Q ad H locs cells slots A H0 lc hc hs h1 h2 kk => ?_) k0
  have hx3 : in32 x := ok_h hs.2.2.1
  have hK := hc.2.2.2.2.2.2.2.1.1
  have hty : (gTy ca)[t + 2]? = some (ca (t + 2), .object C) := by rcases hC with ⟨rfl, rfl⟩ | ⟨rfl, rfl⟩ <;> rfl
  have hao : va_AO C s := by
    rcases hC with ⟨_, rfl⟩ | ⟨_, rfl⟩
    · exact hc.2.2.2.2.2.2.2.1.2.2.1
    · exact hc.2.2.2.2.2.2.2.1.2.2.2
  refine va_newq (n := Int32.ofInt x) (N' := n) hc.1 hc.2.1 hc.2.2.2.2.1 (hc.2.2.2.2.2.1 _ hcl) hao hK hs.2.2.2.2.1 hs.2.2.2.2.2.1 hs.2.2.2.2.2.2 hc.2.2.2.2.2.2.2.2.2.1 (fun h => by rw [show (0 : Int32) = Int32.ofInt 0 from rfl, lt32 hx3 in32_0] at h; omega) (by rw [nn32 hx3]; omega) (by omega) h1 h2 hd (fun q cA H1 hK1 hP1 hD1 hS1 => ?_)
  have e1 : cA = ca (t + 2) := by
    obtain ⟨k1, c1, a1, a2, a3, a4⟩ : va_RA s cA (.object C) := (hK1.2 (gTy ca).length (cA, .object C) (by simp)).2
    obtain ⟨k2, c2, b1, b2, b3, b4⟩ : va_RA s (ca (t + 2)) (.object C) := (hK.2 (t + 2) _ hty).2
    exact Option.some.inj (a4.symm.trans b4)
  subst e1
  exact kk q H1 hP1 hD1 hS1
theorem Go_aastore {i n t b ci : Nat} {x : Int} {r : vw_C} (j : Nat) (hk : sh[i]? = some (t + 3, n)) (hr : vwCl[ci]? = some r) (hC : (gTy ca)[t + 2]? = some (ca (t + 2), .object r.1)) (hb : sh[b]? = some (0, ci)) (hj : x = (j : Int)) (hlt : j < n) (hd : decode (gCode m) pc = .ok (.aastore, 1)) (k : Go D ca sc R m (pc + 1) ls (st) sh (gSet M i (gUp (M i) j ((b : Int) + 1))) rv sh' M') : Go D ca sc R m pc ls (gR b :: gI x :: gR i :: st) sh M rv sh' M' := by
  intro p l e s mi args below meth c Q ad H locs cells slots A H0 lc hc hs hr1 hr2 hk0
  obtain ⟨hl, hlo, hso, hok, hP, hD, hS⟩ := hs
  have hx : in32 x := ok_h (ok_t hso)
  subst hj
  show W p l e R s mi args below meth c H locs cells slots Q (F0 mi pc lc (gVl ca ad 2 ((b : Int) + 1) :: .int (Int32.ofInt (j : Int)) :: gVl ca ad 2 ((i : Int) + 1) :: st.map fun v => gVl ca ad v.1 v.2))
  rw [gVl_R, gVl_R]
  refine va_astq (f := fun j => gRf ad (M i j)) hc.1 hc.2.1 hc.2.2.2.2.2.2.2.1.1 hP hD hS i (t + 2) b ci (gW_at hk) hC (gW_at hb) hr (in_32 hx (by omega) (by omega)) hd (fun H1 locs1 hP1 hD1 hS1 => ?_)
  have e0 : (Int32.ofInt (j : Int)).toNatClampNeg = j := by rw [nn32 hx]; omega
  have e2 : va_up (fun j => gRf ad (M i j)) j (some (ad b)) = fun j' => gRf ad (gUp (M i) j ((b : Int) + 1) j') := by
    funext j'
    by_cases ej : j' = j
    · have h1 : ¬ ((b : Int) + 1 = 0) := by omega
      have h2 : ((b : Int) + 1).toNat - 1 = b := by omega
      simp only [va_up, gUp, ej, if_true, gRf, if_neg h1, h2]
    · simp only [va_up, gUp, if_neg ej]
  rw [e0, e2] at hP1 hD1
  have e3 := gW_set (ca := ca) (ad := ad) (M := M) hk (gUp (M i) j ((b : Int) + 1))
  have hP2 : va_P D vwCl (gW ca ad sh (gSet M i (gUp (M i) j ((b : Int) + 1)))) H1 := by rw [← e3]; exact hP1
  have hD2 : va_D A (gW ca ad sh (gSet M i (gUp (M i) j ((b : Int) + 1)))) := by rw [← e3]; exact hD1
  refine k p l e s mi args below meth c Q ad H1 locs1 cells slots A H0 lc hc ⟨hl, hlo, ok_t (ok_t (ok_t hso)), gOk_set hok hk ?_, hP2, hD2, hS1⟩ hr1 hr2 hk0
  intro j'
  by_cases ej : j' = j
  · subst ej
    rw [gUp_s]
    exact ok_h hso
  · rw [gUp_n ej]
    exact hok i _ hk j'
end GA
end
section
/-! a method as a whole: Fn; calls -/
def gRm (m : gMd) (dc ds : Nat) : Room := { frames := gFr m, cells := dc, slots := ds, locals := gLo m }
def gWs (m : gMd) : List Cond := Cond.code (gNm m) (gCode m) (gNL m) (gRet m) :: gTb
def gQ (D : va_G) (ca : Nat → ClassId) (A : Nat → Prop) (ad : Nat → Nat) (sh : gShp) (rv : List gAV) (sh' : gShp) (M' : gMem) : Array Value → State → Outcome → State → Prop := fun _ st oc t =>
  (oc = .returned ((rv.map fun v => gVl ca ad v.1 v.2).head?) ∧ (∀ v ∈ rv, gOkV sh'.length v.1 v.2) ∧ gOk sh' M' ∧ ∃ ad' : Nat → Nat, (∀ i, i < sh.length → ad' i = ad i) ∧ va_P D vwCl (gW ca ad' sh' M') t.heap ∧ va_D A (gW ca ad' sh' M')) ∧ va_F A st t
def gB (D : va_G) (ca : Nat → ClassId) (ad : Nat → Nat) (sh : gShp) (M : gMem) (sz : Nat) (U : State) : Prop := U.heap.size = sz ∧ va_P D vwCl (gW ca ad sh M) U.heap ∧ gKx D ca U ∧ va_D (fun _ => True) (gW ca ad sh M)
/-- the method m with these arguments and this memory answers rv and leaves M' -/
def Fn (D : va_G) (ca : Nat → ClassId) (m : gMd) (as : List gAV) (sh : gShp) (M : gMem) (rv : List gAV) (sh' : gShp) (M' : gMem) : Prop :=
  ∀ (l : Launch) (ad : Nat → Nat) (sz : Nat), (∀ v ∈ as, gOkV sh.length v.1 v.2) → gOk sh M →
    Met l (gNm m) (gWs m) (gRm m (sh'.length - sh.length) (gSz sh' - gSz sh)) (va_Pc (as.map fun v => gVl ca ad v.1 v.2) (gB D ca ad sh M sz)) (gQ D ca (va_A (gW ca ad sh M) sz) ad sh rv sh' M') (sh'.length - sh.length) (gSz sh' - gSz sh) (va_A (gW ca ad sh M) sz)
def gArgs : Nat → List gAV → gLs
  | _, [] => []
  | i, v :: vs => (i, v) :: gArgs (if v.1 = 1 then i + 2 else i + 1) vs
def gWd (as : List gAV) : Nat := (as.map fun v => if v.1 = 1 then 2 else 1).sum
theorem cat_if (ca : Nat → ClassId) (ad : Nat → Nat) (t : Nat) (x : Int) : (gVl ca ad t x).category = 2 ↔ t = 1 := by
  have h := cat_gVl (ca := ca) ad t x
  constructor
  · intro h2
    rw [h2] at h
    simpa using h.symm
  · intro h2
    subst h2
    rfl
theorem cat_val (ca : Nat → ClassId) (ad : Nat → Nat) (t : Nat) (x : Int) : (gVl ca ad t x).category = if t = 1 then 2 else 1 := by
  match t with
  | 0 => rfl
  | 1 => rfl
  | 2 =>
    show (va_rf (gRf ad x)).category = 1
    rcases va_rf_or (gRf ad x) with h | ⟨a, h⟩ <;> rw [h] <;> rfl
  | 3 => rfl
  | n + 4 => rfl
theorem gArgs_map (ca : Nat → ClassId) (ad : Nat → Nat) : ∀ (as : List gAV) (i : Nat), lv_args i (as.map fun v => gVl ca ad v.1 v.2) = (gArgs i as).map fun q => (q.1, gVl ca ad q.2.1 q.2.2)
  | [], _ => rfl
  | v :: vs, i => by
    show (i, gVl ca ad v.1 v.2) :: lv_args (if (gVl ca ad v.1 v.2).category = 2 then i + 2 else i + 1) (vs.map fun v => gVl ca ad v.1 v.2) = (i, gVl ca ad v.1 v.2) :: (gArgs (if v.1 = 1 then i + 2 else i + 1) vs).map fun q => (q.1, gVl ca ad q.2.1 q.2.2)
    rw [← gArgs_map ca ad vs]
    simp only [cat_if]
theorem gWd_len (ca : Nat → ClassId) (ad : Nat → Nat) : ∀ (as : List gAV), (lg_sl (as.map fun v => gVl ca ad v.1 v.2)).length = gWd as
  | [] => rfl
  | v :: vs => by
    have ih := gWd_len ca ad vs
    simp only [lg_sl, List.map_cons, List.flatMap_cons, List.length_append] at ih ⊢
    rw [ih, show gWd (v :: vs) = (if v.1 = 1 then 2 else 1) + gWd vs from by simp [gWd]]
    by_cases h : v.1 = 1
    · rw [if_pos ((cat_if ca ad v.1 v.2).mpr h), if_pos h]; rfl
    · rw [if_neg (fun q => h ((cat_if ca ad v.1 v.2).mp q)), if_neg h]; rfl
theorem gArgs_mem : ∀ (as : List gAV) (i : Nat) (q : Nat × gAV), q ∈ gArgs i as → q.2 ∈ as
  | [], _, _, h => by cases h
  | v :: vs, i, q, h => by
    rcases List.mem_cons.mp h with rfl | h
    · exact List.mem_cons_self
    · exact List.mem_cons_of_mem _ (gArgs_mem vs _ q h)
def gRok (ret : Option FieldType) (rv : List gAV) : Prop := (ret = none ∧ rv = []) ∨ (∃ x, ret = some .int ∧ rv = [gI x]) ∨ (∃ x, ret = some .boolean ∧ rv = [gI x] ∧ (x = 0 ∨ x = 1)) ∨ (∃ x, ret = some .long ∧ rv = [gJ x])
/-- what a method's record must be -/
def gMok (m : gMd) : Prop := plainName (gNm m).cls = true ∧ (gNm m).cls = gOwn m ∧ (gIni m = true → (gNm m).name = "<init>")
theorem Fn_of {D : va_G} {ca : Nat → ClassId} {m : gMd} {as : List gAV} {sh sh' : gShp} {M M' : gMem} {rv : List gAV} (hm : gMok m) (hn : gWd as ≤ gNL m) (hrv : gRok (gRet m) rv) (hls : sh.length ≤ sh'.length) (hsz : gSz sh ≤ gSz sh')
    (h : Go D ca none (gRm m (sh'.length - sh.length) (gSz sh' - gSz sh)) m 0 (gArgs 0 as) [] sh M rv sh' M') : Fn D ca m as sh M rv sh' M' := by
  intro l ad sz hao hok
  refine Met.ofW (cc := gCode m) (maxL := gNL m) (ret := gRet m) (ws' := gTb) hm.1 rfl ?_
  intro p e s mi args below meth c s₁ B hml hv
  obtain ⟨rfl, hsz0, hP, hK, hD0⟩ := hv
  have hr := B.returns
  have hts0 := atoms_spec (ws := gWs m) B.pre
  have hown : s.vm.findClass (gOwn m) = some mi.cls := by rw [← hm.2.1]; exact findClass_of_methodNamed B.named
  have hlocks := B.notSynchronized
  subst hsz0
  have hD := hD0.self (sz := s.heap.size)
  have hA : ∀ q : Nat, s.heap.size ≤ q → va_A (gW ca ad sh M) s.heap.size q := fun q h => Or.inr h
  have hl := lv_entry (as.map fun v => gVl ca ad v.1 v.2) (n := gNL m) (by rw [gWd_len]; exact hn)
  rw [lg_entry_eq]
  rw [gArgs_map] at hl
  refine h p l e s mi _ below meth c _ ad s.heap [] 0 0 (va_A (gW ca ad sh M) s.heap.size) s.heap _ ⟨B.exec, B.bytes, hml, hr, hown, fun w hw => hts0 w (List.mem_cons_of_mem _ hw), hlocks, hK, fun hi => ?_, hA, trivial⟩ ⟨hl, fun q hq => hao q.2 (gArgs_mem as 0 q hq), fun v hv => (by cases hv), hok, hP, hD, va_S.rf⟩ ?_ ?_ ?_
  · rw [← hm.2.2 hi]
    exact (name_of_methodNamed B.named B.method).1
  · show 0 + sh'.length ≤ (sh'.length - sh.length) + sh.length
    omega
  · show 0 + gSz sh' ≤ (gSz sh' - gSz sh) + gSz sh
    omega
  · intro ad' H' locs' cells' slots' lc' pc' g1 g2 g3 g4 g5 g6 g7 g8 g9
    refine W.widen (k := sh'.length - sh.length) (n := gSz sh' - gSz sh) (by omega) (by omega) ?_
    have hq : ∀ t : State, t.heap = H' → gQ D ca (va_A (gW ca ad sh M) s.heap.size) ad sh rv sh' M' (as.map fun v => gVl ca ad v.1 v.2).toArray s (.returned ((rv.map fun v => gVl ca ad v.1 v.2).head?)) t := fun t ht => ⟨⟨rfl, g2, g3, ad', g1, by rw [ht]; exact g4, g5⟩, g6.F ht⟩
    rcases hrv with ⟨h1, h2⟩ | ⟨x, h1, h2⟩ | ⟨x, h1, h2, h3⟩ | ⟨x, h1, h2⟩
    · subst h2
      exact W.vret B.exec B.bytes (hr.trans h1) (fun t ht _ => hq t ht) g6.2.2 g9
    · subst h2
      exact W.iret B.exec B.bytes (hr.trans h1) (fun t ht _ => hq t ht) g6.2.2 g9
    · subst h2
      exact W.zret (ty := .boolean) B.exec B.bytes (hr.trans h1) (by rcases h3 with rfl | rfl <;> rfl) (fun t ht _ => hq t ht) g6.2.2 g9
    · subst h2
      exact W.lret B.exec B.bytes (hr.trans h1) (fun t ht _ => hq t ht) g6.2.2 g9
theorem gTb_good : ∀ w ∈ gTb, goodWord w = true := fun w h => (List.mem_filter.mp h).2
theorem gWs_good {m : gMd} (h : Cond.code (gNm m) (gCode m) (gNL m) (gRet m) ∈ gTb) : GoodIn gTb (gWs m) := fun w hw => by
  rcases List.mem_cons.mp hw with rfl | hw
  · exact ⟨h, good_of_word (gTb_good _ h)⟩
  · exact ⟨hw, good_of_word (gTb_good _ hw)⟩
section GC
variable {D : va_G} {ca : Nat → ClassId} {sc : gScr} {R : Room} {m m' : gMd} {pc pc' : Nat} {ls ls' : gLs} {st stk : List gAV} {sh sh1 sh' : gShp} {M M1 M' : gMem} {rv rv1 : List gAV} {as : List gAV}
theorem gB_blind {ad : Nat → Nat} {sz : Nat} {av : List Value} : FrameBlind (va_Pc av (gB D ca ad sh M sz)) := by
  intro a U g mk q
  obtain ⟨q0, q1, qP, qK, qD⟩ := q
  exact ⟨q0, q1, qP, qK.same rfl, qD⟩
/-- what a call leaves -/
theorem Go_ran (hrv : ∀ v ∈ rv1, v.1 < 2) (hr2 : rv1.length ≤ 1) (hsh : sh.length ≤ sh1.length) (hsz : gSz sh ≤ gSz sh1) (hst : ∀ v ∈ st, v ∈ stk)
    (h : ∀ (p : Program) (l : Launch) (e : Env) (s : State) (mi : MethodId) (args : Array Value) (below : List Frame) (meth : Method) (c : Code) (ad : Nat → Nat) (H : Heap) (locs : List Loc) (cells slots : Nat) (A : Nat → Prop) (H0 : Heap) (lc : Array Slot), gCx D ca sc m p s mi args meth c A H0 → gSt D ca m ls stk sh M ad H locs A H0 lc →
      cells + (sh1.length - sh.length) ≤ R.cells → slots + (gSz sh1 - gSz sh) ≤ R.slots → ∃ a : Array Value,
      va_Run p l e R s mi args below meth c H locs cells slots (sh1.length - sh.length) (gSz sh1 - gSz sh) (F0 mi pc lc (stk.map fun v => gVl ca ad v.1 v.2)) (st.map fun v => gVl ca ad v.1 v.2) (gQ D ca (va_A (gW ca ad sh M) H.size) ad sh rv1 sh1 M1 a) (va_A (gW ca ad sh M) H.size))
    (hsh1 : sh1.length ≤ sh'.length) (hsz1 : gSz sh1 ≤ gSz sh')
    (k : Go D ca sc R m (pc + 3) ls (rv1 ++ st) sh1 M1 rv sh' M') : Go D ca sc R m pc ls stk sh M rv sh' M' := by
  intro p l e s mi args below meth c Q ad H locs cells slots A H0 lc hc hs hr1 hr2' hk
  obtain ⟨a, hr⟩ := h p l e s mi args below meth c ad H locs cells slots A H0 lc hc hs (by omega) (by omega)
  obtain ⟨hl, hlo, hso, hok, hP, hD, hS⟩ := hs
  have hF : ∀ q, va_A (gW ca ad sh M) H.size q → A q := fun q hq => by
    rcases hq with ⟨k, e1, h1⟩ | h1
    · exact hD.2 k (q, e1) h1
    · exact hc.2.2.2.2.2.2.2.2.2.1 q (Nat.le_trans hS.1 h1)
  intro T hT X
  obtain ⟨v, st₀, t, T', L, h0, X', hL, e1, e2, ⟨⟨hv, hrok, hok1, ad', hag, hP1, hD1⟩, hz, hk1⟩, stp⟩ := hr T hT X
  rw [h0] at hz hk1
  have hS1 : va_S A H0 t.heap (locs ++ L) := ⟨Nat.le_trans hS.1 hz, fun q h1 h2 => by rw [hk1 q (Nat.lt_of_lt_of_le h1 hS.1) (fun z => h2 (hF q z))]; exact hS.2.1 q h1 h2, fun q hq => by
      rcases List.mem_append.mp hq with h | h
      · exact hS.2.2 q h
      · exact hF _ (hL q h)⟩
  have hv' : v = (rv1.map fun v => gVl ca ad v.1 v.2).head? := by
    have := hv
    simpa using this
  have es : v.toList ++ (st.map fun v => gVl ca ad v.1 v.2) = (rv1 ++ st).map fun v => gVl ca ad' v.1 v.2 := by
    rw [hv', List.map_append]
    congr 1
    · match rv1, hrv, hr2 with
      | [], _, _ => rfl
      | [w], hrv, _ =>
        have hw := hrv w List.mem_cons_self
        show [gVl ca ad w.1 w.2] = [gVl ca ad' w.1 w.2]
        rw [show gVl ca ad w.1 w.2 = gVl ca ad' w.1 w.2 from by
          obtain ⟨t, x⟩ := w
          match t, hw with
          | 0, _ => rfl
          | 1, _ => rfl]
      | _ :: _ :: _, _, hr2 => exact absurd hr2 (by simp)
    · exact List.map_congr_left (fun w hw => (gVl_ad hag (hso w (hst w hw))).symm)
  have K := k p l e s mi args below meth c Q ad' t.heap (locs ++ L) (cells + (sh1.length - sh.length)) (slots + (gSz sh1 - gSz sh)) A H0 lc hc ⟨?_, ?_, ?_, hok1, hP1, hD1.weaken (fun _ q _ h => hF q.1 h), hS1⟩ (by omega) (by omega) ?_
  · rw [← es] at K
    obtain ⟨t2, a1, b1⟩ := K T' e1 X'
    exact ⟨t2, stp t2 a1, b1⟩
  · have e3 : (ls.map fun q' => (q'.1, gVl ca ad' q'.2.1 q'.2.2)) = ls.map fun q' => (q'.1, gVl ca ad q'.2.1 q'.2.2) := List.map_congr_left (fun v hv => by rw [gVl_ad hag (hlo v hv)])
    rw [e3]
    exact hl
  · exact fun q hq => gOkV_mono hsh (hlo q hq)
  · intro w hw
    rcases List.mem_append.mp hw with hw | hw
    · exact hrok w hw
    · exact gOkV_mono hsh (hso w (hst w hw))
  · intro ad2 H' locs' cells' slots' lc' pc2 g1 g2 g3 g4 g5 g6 g7 g8 g9
    exact hk ad2 H' locs' cells' slots' lc' pc2 (fun i hi => (g1 i (by omega)).trans (hag i hi)) g2 g3 g4 g5 g6 (by omega) (by omega) g9
theorem gRooms {st : List gAV} {ad : Nat → Nat} {mi : MethodId} {lc : Array Slot} {vs : List Value} (h : gWd st ≤ 8) : 2 * (F0 mi pc lc vs).monitorRoom + ((st.map fun v => gVl ca ad v.1 v.2).map fun v => v.category).sum ≤ 8 := by
  refine lv_room ?_
  have : ((st.map fun v => gVl ca ad v.1 v.2).map fun v => v.category).sum = gWd st := by
    rw [List.map_map]
    unfold gWd
    congr 1
    exact List.map_congr_left (fun v _ => cat_val ca ad v.1 v.2)
  rw [this]
  exact h
/-- a call's words: of the method m' from the class own by the entry idx -/
def gCw (own : String) (idx : Nat) (m' : gMd) (n : Nat) : Prop := Cond.methodLink own idx (gNm m') ∈ gTb ∧ Cond.code (gNm m') (gCode m') (gNL m') (gRet m') ∈ gTb ∧ Cond.initialized (gNm m').cls ∈ gTb ∧ ((gNm m').cls ≠ "java/lang/invoke/MethodHandle" ∧ (gNm m').cls ≠ "java/lang/invoke/VarHandle" ∧ (parseMethodDescriptor (gNm m').desc).map (fun d => d.parameters.length) = some n)
def gCn (own : String) (idx : Nat) (m' : gMd) (host : String) (n : Nat) : Prop := (own, idx, gNm m', host) ∈ gNest ∧ Cond.code (gNm m') (gCode m') (gNL m') (gRet m') ∈ gTb ∧ Cond.initialized (gNm m').cls ∈ gTb ∧ ((gNm m').cls ≠ "java/lang/invoke/MethodHandle" ∧ (gNm m').cls ≠ "java/lang/invoke/VarHandle" ∧ (parseMethodDescriptor (gNm m').desc).map (fun d => d.parameters.length) = some n)
def gSub (R : Room) (m' : gMd) : Prop := gFr m' + 1 ≤ R.frames ∧ 8 + (gNL m' + 11) + gLo m' ≤ R.locals
theorem gCallB {s : State} {args : Array Value} {own : String} {idx n dc ds : Nat} (ht : ∀ w ∈ gTb, w.before args s = true) (cw : gCw own idx m' n) (hR : gSub R m') : CallB R s args own idx (gNm m') (gCode m') (gNL m') (gRet m') (gWs m') (gRm m' dc ds) dc ds n :=
  callB_of n ht (gWs_good cw.2.1) rfl rfl rfl (ht _ cw.2.2.1) (ht _ cw.1) cw.2.2.2 hR
theorem gCallN {s : State} {args : Array Value} {own host : String} {idx n dc ds : Nat} (ht : ∀ w ∈ gTb, w.before args s = true) (hK : gKx D ca s) (cw : gCn own idx m' host n) (hR : gSub R m') : va_CN R s args own idx (gNm m') host (gCode m') (gNL m') (gRet m') (gWs m') (gRm m' dc ds) dc ds n :=
  va_cnB n ht (gWs_good cw.2.1) rfl rfl rfl (hK.2.1 _ cw.1) (ht _ cw.2.2.1) cw.2.2.2 hR
theorem gPreS {s : State} {H : Heap} {A : Nat → Prop} {ad : Nat → Nat} {av : List Value} (hP : va_P D vwCl (gW ca ad sh M) H) (hD : va_D A (gW ca ad sh M)) (hK : gKx D ca s) : PreS s H (va_Pc av (gB D ca ad sh M H.size)) av :=
  ⟨gB_blind, fun U hU hW => ⟨rfl, by rw [hU], by rw [hU]; exact hP, hK.warm hW, hD.weaken (fun _ _ _ _ => trivial)⟩⟩
theorem map_rev (ad : Nat → Nat) (as st : List gAV) : (as.reverse ++ st).map (fun v => gVl ca ad v.1 v.2) = (as.map fun v => gVl ca ad v.1 v.2).reverse ++ st.map fun v => gVl ca ad v.1 v.2 := by
  rw [List.map_append, List.map_reverse]
/-- of an instance -/
theorem Go_callV {b ci idx : Nat} {q : vw_C} (hF : Fn D ca m' (gR b :: as) sh M rv1 sh1 M1) (cw : gCw (gOwn m) idx m' as.length) (ci' : Cond.instanceMethod (gNm m') ∈ gTb ∧ Cond.selects (gNm m').cls (gNm m') (gNm m') ∈ gTb) (hq : vwCl[ci]? = some q) (hqc : q.1 = (gNm m').cls) (hR : gSub R m') (hk : sh[b]? = some (0, ci)) (hstk : stk = as.reverse ++ gR b :: st) (hw : gWd st ≤ 8)
    (hrv : (∀ v ∈ rv1, v.1 < 2) ∧ rv1.length ≤ 1) (hsh : sh.length ≤ sh1.length ∧ sh1.length ≤ sh'.length ∧ gSz sh ≤ gSz sh1 ∧ gSz sh1 ≤ gSz sh') (hd : decode (gCode m) pc = .ok (.invokevirtual idx, 3))
    (k : Go D ca sc R m (pc + 3) ls (rv1 ++ st) sh1 M1 rv sh' M') : Go D ca sc R m pc ls stk sh M rv sh' M' := by
  refine Go_ran hrv.1 hrv.2 hsh.1 hsh.2.2.1 (fun v hv => by rw [hstk]; exact List.mem_append_right _ (List.mem_cons_of_mem _ hv)) (fun p l e s mi args below meth c ad H locs cells slots A H0 lc hc hs h1 h2 => ?_) hsh.2.1 hsh.2.2.2 k
  obtain ⟨hl, hlo, hso, hok, hP, hD, hS⟩ := hs
  have hK := hc.2.2.2.2.2.2.2.1
  have hts := hc.2.2.2.2.2.1
  have hao : ∀ v ∈ gR b :: as, gOkV sh.length v.1 v.2 := fun v hv => hso v (by
    rw [hstk]
    rcases List.mem_cons.mp hv with rfl | hv
    · exact List.mem_append_right _ List.mem_cons_self
    · exact List.mem_append_left _ (List.mem_reverse.mpr hv))
  have hM := hF l ad H.size hao hok
  have e1 : ((gR b :: as).map fun v => gVl ca ad v.1 v.2) = .ref (ad b) :: as.map fun v => gVl ca ad v.1 v.2 := mapR b as
  rw [e1] at hM
  obtain ⟨cell, g1, g2, g3⟩ := va_recv hK.1 hP hq (gW_at hk)
  have hp : PreV s H (gNm m').cls (ad b) (va_Pc (.ref (ad b) :: as.map fun v => gVl ca ad v.1 v.2) (gB D ca ad sh M H.size)) (as.map fun v => gVl ca ad v.1 v.2) := ⟨gB_blind, ⟨cell, g1, g2, by rw [← hqc]; exact g3⟩, (gPreS hP hD hK).2⟩
  exact ⟨_, va_runV (n := as.length) (b := ad b) (As := as.map fun v => gVl ca ad v.1 v.2) ⟨hc.1, hc.2.1, hc.2.2.1, hc.2.2.2.2.1, hts⟩ hM ⟨gCallB hts cw hR, hts _ ci'.1, hts _ ci'.2⟩ hp rfl (by rw [List.length_map]) hl.1 (by show stk.map _ = _; rw [hstk, map_rev, mapR]) (gRooms hw) hd ⟨h1, h2⟩⟩
/-- of a class -/
theorem Go_callS {idx : Nat} (hF : Fn D ca m' as sh M rv1 sh1 M1) (cw : gCw (gOwn m) idx m' as.length) (ci' : Cond.static (gNm m') ∈ gTb) (hR : gSub R m') (hstk : stk = as.reverse ++ st) (hw : gWd st ≤ 8)
    (hrv : (∀ v ∈ rv1, v.1 < 2) ∧ rv1.length ≤ 1) (hsh : sh.length ≤ sh1.length ∧ sh1.length ≤ sh'.length ∧ gSz sh ≤ gSz sh1 ∧ gSz sh1 ≤ gSz sh') (hd : decode (gCode m) pc = .ok (.invokestatic idx, 3))
    (k : Go D ca sc R m (pc + 3) ls (rv1 ++ st) sh1 M1 rv sh' M') : Go D ca sc R m pc ls stk sh M rv sh' M' := by
  refine Go_ran hrv.1 hrv.2 hsh.1 hsh.2.2.1 (fun v hv => by rw [hstk]; exact List.mem_append_right _ hv) (fun p l e s mi args below meth c ad H locs cells slots A H0 lc hc hs h1 h2 => ?_) hsh.2.1 hsh.2.2.2 k
  obtain ⟨hl, hlo, hso, hok, hP, hD, hS⟩ := hs
  have hts := hc.2.2.2.2.2.1
  have hM := hF l ad H.size (fun v hv => hso v (by rw [hstk]; exact List.mem_append_left _ (List.mem_reverse.mpr hv))) hok
  exact ⟨_, va_runS (n := as.length) (As := as.map fun v => gVl ca ad v.1 v.2) ⟨hc.1, hc.2.1, hc.2.2.1, hc.2.2.2.2.1, hts⟩ hM ⟨gCallB hts cw hR, hts _ ci'⟩ (gPreS hP hD hc.2.2.2.2.2.2.2.1) rfl (by rw [List.length_map]) hl.1 (by show stk.map _ = _; rw [hstk, map_rev]) (gRooms hw) hd ⟨h1, h2⟩⟩
theorem Go_callSN {idx : Nat} {host : String} (hF : Fn D ca m' as sh M rv1 sh1 M1) (cw : gCn (gOwn m) idx m' host as.length) (ci' : Cond.static (gNm m') ∈ gTb) (hR : gSub R m') (hstk : stk = as.reverse ++ st) (hw : gWd st ≤ 8)
    (hrv : (∀ v ∈ rv1, v.1 < 2) ∧ rv1.length ≤ 1) (hsh : sh.length ≤ sh1.length ∧ sh1.length ≤ sh'.length ∧ gSz sh ≤ gSz sh1 ∧ gSz sh1 ≤ gSz sh') (hd : decode (gCode m) pc = .ok (.invokestatic idx, 3))
    (k : Go D ca sc R m (pc + 3) ls (rv1 ++ st) sh1 M1 rv sh' M') : Go D ca sc R m pc ls stk sh M rv sh' M' := by
  refine Go_ran hrv.1 hrv.2 hsh.1 hsh.2.2.1 (fun v hv => by rw [hstk]; exact List.mem_append_right _ hv) (fun p l e s mi args below meth c ad H locs cells slots A H0 lc hc hs h1 h2 => ?_) hsh.2.1 hsh.2.2.2 k
  obtain ⟨hl, hlo, hso, hok, hP, hD, hS⟩ := hs
  have hts := hc.2.2.2.2.2.1
  have hM := hF l ad H.size (fun v hv => hso v (by rw [hstk]; exact List.mem_append_left _ (List.mem_reverse.mpr hv))) hok
  exact ⟨_, va_runSN (n := as.length) (As := as.map fun v => gVl ca ad v.1 v.2) ⟨hc.1, hc.2.1, hc.2.2.1, hc.2.2.2.2.1, hts⟩ hM ⟨gCallN hts hc.2.2.2.2.2.2.2.1 cw hR, hts _ ci', trivial⟩ (gPreS hP hD hc.2.2.2.2.2.2.2.1) rfl (by rw [List.length_map]) hl.1 (by show stk.map _ = _; rw [hstk, map_rev]) (gRooms hw) hd ⟨h1, h2⟩⟩
theorem gInitMet {l : Launch} {ad : Nat → Nat} {sz b : Nat} (hF : Fn D ca m' (gR b :: as) sh M [] sh1 M1) (hok : gOk sh M) (hao : ∀ v ∈ gR b :: as, gOkV sh.length v.1 v.2) : Met l (gNm m') (gWs m') (gRm m' (sh1.length - sh.length) (gSz sh1 - gSz sh)) (va_Pc (.ref (ad b) :: as.map fun v => gVl ca ad v.1 v.2) (gB D ca ad sh M sz)) (gQ D ca (va_A (gW ca ad sh M) sz) ad sh [] sh1 M1) (sh1.length - sh.length) (gSz sh1 - gSz sh) (va_A (gW ca ad sh M) sz) := by
  have hM := hF l ad sz hao hok
  rw [show ((gR b :: as).map fun v => gVl ca ad v.1 v.2) = .ref (ad b) :: as.map fun v => gVl ca ad v.1 v.2 from mapR b as] at hM
  exact hM
/-- of a constructor -/
theorem Go_callI {b idx : Nat} (hF : Fn D ca m' (gR b :: as) sh M [] sh1 M1) (hret : gRet m' = none) (cw : gCw (gOwn m) idx m' as.length) (ci' : Cond.instanceMethod (gNm m') ∈ gTb ∧ (gNm m').name = "<init>") (hR : gSub R m') (hstk : stk = as.reverse ++ gR b :: st) (hw : gWd st ≤ 8)
    (hsh : sh.length ≤ sh1.length ∧ sh1.length ≤ sh'.length ∧ gSz sh ≤ gSz sh1 ∧ gSz sh1 ≤ gSz sh') (hd : decode (gCode m) pc = .ok (.invokespecial idx, 3))
    (k : Go D ca sc R m (pc + 3) ls st sh1 M1 rv sh' M') : Go D ca sc R m pc ls stk sh M rv sh' M' := by
  refine Go_ran (rv1 := []) (fun v hv => by cases hv) (Nat.zero_le _) hsh.1 hsh.2.2.1 (fun v hv => by rw [hstk]; exact List.mem_append_right _ (List.mem_cons_of_mem _ hv)) (fun p l e s mi args below meth c ad H locs cells slots A H0 lc hc hs h1 h2 => ?_) hsh.2.1 hsh.2.2.2 k
  obtain ⟨hl, hlo, hso, hok, hP, hD, hS⟩ := hs
  have hts := hc.2.2.2.2.2.1
  have hao : ∀ v ∈ gR b :: as, gOkV sh.length v.1 v.2 := fun v hv => hso v (by
    rw [hstk]
    rcases List.mem_cons.mp hv with rfl | hv
    · exact List.mem_append_right _ List.mem_cons_self
    · exact List.mem_append_left _ (List.mem_reverse.mpr hv))
  have hM := gInitMet (l := l) (ad := ad) (sz := H.size) hF hok hao
  have hB := gCallB (R := R) (dc := sh1.length - sh.length) (ds := gSz sh1 - gSz sh) hts cw hR
  rw [hret] at hB
  exact ⟨_, va_runI (n := as.length) (b := ad b) (As := as.map fun v => gVl ca ad v.1 v.2) ⟨hc.1, hc.2.1, hc.2.2.1, hc.2.2.2.2.1, hts⟩ hM ⟨hB, ci'.2, hts _ ci'.1⟩ (gPreS hP hD hc.2.2.2.2.2.2.2.1) rfl (by rw [List.length_map]) hl.1 (by show stk.map _ = _; rw [hstk, map_rev, mapR]) (gRooms hw) hd ⟨h1, h2⟩⟩
theorem Go_callIN {b idx : Nat} {host : String} (hF : Fn D ca m' (gR b :: as) sh M [] sh1 M1) (hret : gRet m' = none) (cw : gCn (gOwn m) idx m' host as.length) (ci' : Cond.instanceMethod (gNm m') ∈ gTb ∧ (gNm m').name = "<init>") (hR : gSub R m') (hstk : stk = as.reverse ++ gR b :: st) (hw : gWd st ≤ 8)
    (hsh : sh.length ≤ sh1.length ∧ sh1.length ≤ sh'.length ∧ gSz sh ≤ gSz sh1 ∧ gSz sh1 ≤ gSz sh') (hd : decode (gCode m) pc = .ok (.invokespecial idx, 3))
    (k : Go D ca sc R m (pc + 3) ls st sh1 M1 rv sh' M') : Go D ca sc R m pc ls stk sh M rv sh' M' := by
  refine Go_ran (rv1 := []) (fun v hv => by cases hv) (Nat.zero_le _) hsh.1 hsh.2.2.1 (fun v hv => by rw [hstk]; exact List.mem_append_right _ (List.mem_cons_of_mem _ hv)) (fun p l e s mi args below meth c ad H locs cells slots A H0 lc hc hs h1 h2 => ?_) hsh.2.1 hsh.2.2.2 k
  obtain ⟨hl, hlo, hso, hok, hP, hD, hS⟩ := hs
  have hts := hc.2.2.2.2.2.1
  have hao : ∀ v ∈ gR b :: as, gOkV sh.length v.1 v.2 := fun v hv => hso v (by
    rw [hstk]
    rcases List.mem_cons.mp hv with rfl | hv
    · exact List.mem_append_right _ List.mem_cons_self
    · exact List.mem_append_left _ (List.mem_reverse.mpr hv))
  have hM := gInitMet (l := l) (ad := ad) (sz := H.size) hF hok hao
  have hB := gCallN (R := R) (dc := sh1.length - sh.length) (ds := gSz sh1 - gSz sh) hts hc.2.2.2.2.2.2.2.1 cw hR
  rw [hret] at hB
  exact ⟨_, va_runIN (n := as.length) (b := ad b) (As := as.map fun v => gVl ca ad v.1 v.2) ⟨hc.1, hc.2.1, hc.2.2.1, hc.2.2.2.2.1, hts⟩ hM ⟨hB, ci'.2, hts _ ci'.1⟩ (gPreS hP hD hc.2.2.2.2.2.2.2.1) rfl (by rw [List.length_map]) hl.1 (by show stk.map _ = _; rw [hstk, map_rev, mapR]) (gRooms hw) hd ⟨h1, h2⟩⟩
/-- java.lang.Object's constructor -/
theorem Go_oinit {b idx : Nat} (ol : Cond.methodLink (gOwn m) idx Lib.objectInit ∈ gTb ∧ Cond.instanceMethod Lib.objectInit ∈ gTb ∧ Cond.code Lib.objectInit ⟨#[0xb1]⟩ 1 none ∈ gTb) (hR : 1 ≤ R.frames ∧ gWd st + 12 ≤ R.locals) (hd : decode (gCode m) pc = .ok (.invokespecial idx, 3)) (k : Go D ca sc R m (pc + 3) ls st sh M rv sh' M') : Go D ca sc R m pc ls (gR b :: st) sh M rv sh' M' := by
  refine Go_step (st' := st) (fun p l e s mi args below meth c Q ad H locs cells slots A H0 lc hc hs => ⟨ok_t hs.2.2.1, fun w => ?_⟩) k
  rw [mapR]
  have hts := hc.2.2.2.2.2.1
  have hw : ((st.map fun v => gVl ca ad v.1 v.2).map fun v => v.category).sum = gWd st := by
    rw [List.map_map]
    unfold gWd
    congr 1
    exact List.map_congr_left (fun v _ => cat_val ca ad v.1 v.2)
  refine W.objInit hc.1 hc.2.1 hc.2.2.2.2.1 (hts _ ol.1) (hts _ ol.2.1) (hts _ ol.2.2) rfl (by show lc.size = _; rw [hc.2.2.1]; exact hs.1.1) rfl hd hR.1 ?_ w
  show 2 * 0 + ((st.map fun v => gVl ca ad v.1 v.2).map fun v => v.category).sum + 12 ≤ R.locals
  rw [hw]
  omega
/-- System.arraycopy of whole rows of ints -/
theorem Go_copy {a b idx n : Nat} {x : Int} (ol : Cond.methodLink (gOwn m) idx arraycopyName ∈ gTb ∧ Cond.native arraycopyName ∈ gTb ∧ Cond.static arraycopyName ∈ gTb ∧ Cond.initialized "java/lang/System" ∈ gTb) (ha : sh[a]? = some (1, n)) (hb : sh[b]? = some (1, n)) (hx : x = (n : Int)) (hR : 1 ≤ R.frames ∧ gWd st + (nativeFrameWords "java/lang/System" "arraycopy" 5 + 11) ≤ R.locals) (hd : decode (gCode m) pc = .ok (.invokestatic idx, 3))
    (k : Go D ca sc R m (pc + 3) ls st sh (gSet M b (fun j => if j < n then M a j else M b j)) rv sh' M') : Go D ca sc R m pc ls (gI x :: gI 0 :: gR b :: gI 0 :: gR a :: st) sh M rv sh' M' := by
  intro p l e s mi args below meth c Q ad H locs cells slots A H0 lc hc hs hr1 hr2 hk0
  obtain ⟨hl, hlo, hso, hok, hP, hD, hS⟩ := hs
  have hx3 : in32 x := ok_h hso
  have hts := hc.2.2.2.2.2.1
  have e0 : (Int32.ofInt x).toNatClampNeg = n := by rw [nn32 hx3]; omega
  show W p l e R s mi args below meth c H locs cells slots Q (F0 mi pc lc (.int (Int32.ofInt x) :: .int (Int32.ofInt 0) :: gVl ca ad 2 ((b : Int) + 1) :: .int (Int32.ofInt 0) :: gVl ca ad 2 ((a : Int) + 1) :: st.map fun v => gVl ca ad v.1 v.2))
  rw [gVl_R, gVl_R]
  have hw : ((st.map fun v => gVl ca ad v.1 v.2).map fun v => v.category).sum = gWd st := by
    rw [List.map_map]
    unfold gWd
    congr 1
    exact List.map_congr_left (fun v _ => cat_val ca ad v.1 v.2)
  refine va_copyi (f := fun j => Int32.ofInt (M a j)) (g := fun j => Int32.ofInt (M b j)) (n0 := n) (n1 := n) (ty := .int) (sp := Int32.ofInt 0) (dp := Int32.ofInt 0) (n := Int32.ofInt x) hc.1 hc.2.1 (by rw [hc.2.2.1]; exact hl.1.symm) hc.2.2.2.2.1 (hts _ ol.1) (hts _ ol.2.1) (hts _ ol.2.2.1) (hts _ ol.2.2.2) hc.2.2.2.2.2.2.2.1.1 hP hD hS a b 0 0 (gW_at ha) (gW_at hb) rfl rfl rfl (by decide) (by decide) (fun h => by rw [show (0 : Int32) = Int32.ofInt 0 from rfl, lt32 hx3 in32_0] at h; omega) (by rw [e0]; show (Int32.ofInt 0).toNatClampNeg + n ≤ n; rw [show (Int32.ofInt 0).toNatClampNeg = 0 from rfl]; omega) (by rw [e0]; show (Int32.ofInt 0).toNatClampNeg + n ≤ n; rw [show (Int32.ofInt 0).toNatClampNeg = 0 from rfl]; omega) (fun i _ => rfl) hR.1 (by rw [hw]; exact hR.2) hd (fun H1 locs1 hP1 hD1 hS1 => ?_)
  have e2 : va_cpy (fun j => Int32.ofInt (M a j)) (fun j => Int32.ofInt (M b j)) (Int32.ofInt 0).toNatClampNeg (Int32.ofInt 0).toNatClampNeg (Int32.ofInt x).toNatClampNeg = fun j => Int32.ofInt (if j < n then M a j else M b j) := by
    rw [e0, show (Int32.ofInt 0).toNatClampNeg = 0 from rfl]
    funext j
    simp only [va_cpy, Nat.zero_le, true_and, Nat.zero_add, Nat.sub_zero]
    by_cases hj : j < n
    · rw [if_pos hj, if_pos hj]
    · rw [if_neg hj, if_neg hj]
  rw [e2] at hP1 hD1
  have e3 := gW_set (ca := ca) (ad := ad) (M := M) hb (fun j => if j < n then M a j else M b j)
  have hP2 : va_P D vwCl (gW ca ad sh (gSet M b (fun j => if j < n then M a j else M b j))) H1 := by rw [← e3]; exact hP1
  have hD2 : va_D A (gW ca ad sh (gSet M b (fun j => if j < n then M a j else M b j))) := by rw [← e3]; exact hD1
  refine k p l e s mi args below meth c Q ad H1 locs1 cells slots A H0 lc hc ⟨hl, hlo, ok_t (ok_t (ok_t (ok_t (ok_t hso)))), gOk_set hok hb ?_, hP2, hD2, hS1⟩ hr1 hr2 hk0
  intro j
  show in32 (if j < n then M a j else M b j)
  split
  · exact hok a _ ha j
  · exact hok b _ hb j
/-- the end of a method -/
theorem Go_ret {stv : List gAV} (hst : stv = rv) (hd : decode (gCode m) pc = .ok (gRi rv, 1)) : Go D ca sc R m pc ls stv sh M rv sh M := by
  subst hst
  intro p l e s mi args below meth c Q ad H locs cells slots A H0 lc hc hs hr1 hr2 hk
  exact hk ad H locs cells slots lc pc (fun _ _ => rfl) hs.2.2.1 hs.2.2.2.1 hs.2.2.2.2.1 hs.2.2.2.2.2.1 hs.2.2.2.2.2.2 (Nat.le_refl _) (Nat.le_refl _) hd
end GC
end
section
theorem i_vc : Claimed_1_1 ∧ Claimed_1_2 := sorry
end
