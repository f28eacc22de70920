theorem MS_kw {M : gMem} {nv np : Nat} (hC : MS M nv np) (k : Nat) : MS (kpW M k) nv np := by
  refine ⟨?_, hC.2.1, hC.2.2.1, hC.2.2.2.1, hC.2.2.2.2⟩
  exact gPtr_up (i := 106) (j := 13) (x := ((k + 1 : Nat) : Int)) (gPtr_row (i := 122) (r := gUp (M 122) k (M 106 9)) (gPtr_row (i := 120) (r := gUp (M 120) k (M 106 4)) (gPtr_row (i := 117) (r := gUp (M 117) k (M 106 0)) (gPtr_row (i := 121) (r := ptS (M 113) (10 * k) (M 121) 10) (gPtr_row (i := 118) (r := ptS (M 107) (12 * k) (M 118) 12) (gPtr_row (i := 119) (r := ptS (M 109) (144 * k) (M 119) 144) hC.1 rfl) rfl) rfl) rfl) rfl) rfl) rfl
theorem MS_kp {M : gMem} {nv np : Nat} (hC : MS M nv np) (k : Nat) : MS (kpM M k) nv np := by
  unfold kpM
  split
  · exact MS_kw (MS_sh hC) 9
  · exact MS_kw hC k
theorem kpW_o {M : gMem} {k i : Nat} (h : i < 106 ∨ (106 < i ∧ i < 117) ∨ 122 < i) : kpW M k i = M i := by
  unfold kpW
  rw [gSet_n (by omega), gSet_n (by omega), gSet_n (by omega), gSet_n (by omega), gSet_n (by omega), gSet_n (by omega), gSet_n (by omega)]
theorem shM9_o {M : gMem} {i : Nat} (h : i < 106 ∨ (106 < i ∧ i < 117) ∨ 122 < i) : shM9 M i = M i := by
  unfold shM9
  rw [gSet_n (by omega), gSet_n (by omega), gSet_n (by omega), gSet_n (by omega), gSet_n (by omega), gSet_n (by omega), gSet_n (by omega)]
theorem kpM_o {M : gMem} {k i : Nat} (h : i < 106 ∨ (106 < i ∧ i < 117) ∨ 122 < i) : kpM M k i = M i := by
  unfold kpM
  split
  · rw [kpW_o h, shM9_o h]
  · rw [kpW_o h]
theorem kpM_f {M : gMem} {k j : Nat} (h : j ≠ 13) : kpM M k 106 j = M 106 j := by
  unfold kpM
  split
  · show gUp (shM9 M 106) 13 _ j = _
    rw [gUp_n h]
    show gUp (M 106) 13 _ j = _
    rw [gUp_n h]
  · show gUp (M 106) 13 _ j = _
    rw [gUp_n h]
def zrS (v : Nat) (r : Nat → Int) : Nat → (Nat → Int)
  | 0 => r
  | w + 1 => gUp (gUp (zrS v r w) (12 * v + w) 0) (12 * w + v) 0
def vgM (N : gMem) (nv : Nat) (x : Int) : gMem := gSet (gSet (gSet (gSet N 106 (gUp (N 106) 0 ((nv + 1 : Nat) : Int))) 107 (gUp (N 107) nv x)) 108 (gUp (N 108) nv 0)) 109 (zrS nv (N 109) 12)
def pcM (N : gMem) (np : Nat) (x y z : Int) : gMem := gSet (gSet (gSet (gSet (gSet N 110 (gUp (N 110) np x)) 111 (gUp (N 111) np y)) 112 (gUp (N 112) np z)) 113 (gUp (N 113) np 20)) 106 (gUp (N 106) 4 ((np + 1 : Nat) : Int))
def unM (M : gMem) (k : Nat) : gMem := gSet (gSet (gSet (gSet (gSet M 106 (gUp (M 106) 13 ((k - 1 : Nat) : Int))) 109 (gtS (M 119) (144 * (k - 1)) (M 109) 144)) 107 (gtS (M 118) (12 * (k - 1)) (M 107) 12)) 113 (gtS (M 121) (10 * (k - 1)) (M 113) 10)) 106 (gUp (gUp (gUp (gUp (M 106) 13 ((k - 1 : Nat) : Int)) 0 (M 117 (k - 1))) 4 (M 120 (k - 1))) 9 (M 122 (k - 1)))
set_option maxHeartbeats 4000000 in
set_option maxRecDepth 100000 in
theorem pX9_undo_no {D : va_G} {ca : Nat → ClassId} {M : gMem} {nv np : Nat} (hC : MS M nv np) (h : M 106 13 = 0) : Fn D ca mX9_undo [gR 106] SH M [gI (-4)] SH (M) := by
  refine Fn_of okX9_undo (Nat.le_of_ble_eq_true rfl) (Or.inr (Or.inl ⟨_, rfl, rfl⟩)) (Nat.le_refl _) (Nat.le_refl _) ?_
  refine Go_ls2 (ls' := [(0, gR 106)]) rfl ?_
  have hv12 := hC.2.2.1
  have hn10 := hC.2.2.2.2
  refine Go_aload_n 0 rfl rfl dX9_undo_0 ?_
  refine Go_getI faX9_72 sh_106 dX9_undo_1 ?_
  refine Go_if_ne dX9_undo_4 rfl (fun h4 => ?_) (fun h4 => ?_)
  · skip
    exact absurd h h4
  · skip
    refine Go_bipush ⟨by decide, by unfold in32; omega⟩ dX9_undo_7 ?_
    exact Go_ret rfl dX9_undo_9
set_option maxHeartbeats 4000000 in
set_option maxRecDepth 100000 in
theorem pX9_undo {D : va_G} {ca : Nat → ClassId} {M : gMem} {nv np : Nat} (hC : MS M nv np) (k : Nat) (hk : M 106 13 = (k : Int)) (hk2 : k ≤ 10) (h1 : 1 ≤ k) : Fn D ca mX9_undo [gR 106] SH M [gI ((k - 1 : Nat) : Int)] SH (unM M k) := by
  refine Fn_of okX9_undo (Nat.le_of_ble_eq_true rfl) (Or.inr (Or.inl ⟨_, rfl, rfl⟩)) (Nat.le_refl _) (Nat.le_refl _) ?_
  refine Go_ls2 (ls' := [(0, gR 106)]) rfl ?_
  have loop_92 : ∀ (n : Nat) (i : Nat) (r : Nat → Int), i + n = 10 → gtS (M 121) (10 * (k - 1)) (M 113) i = r → Go D ca none (gRm mX9_undo (SH.length - SH.length) (gSz SH - gSz SH)) mX9_undo 92 [(0, gR 106), (1, gI (i : Int))] [] SH (gSet (gSet (gSet (gSet M 106 (gUp (M 106) 13 ((k - 1 : Nat) : Int))) 109 (gtS (M 119) (144 * (k - 1)) (M 109) 144)) 107 (gtS (M 118) (12 * (k - 1)) (M 107) 12)) 113 r) [gI ((k - 1 : Nat) : Int)] SH (unM M k) := by
    intro n
    induction n with
    | zero =>
      intro i r he hx
      have ei : i = 10 := by omega
      subst ei
      subst hx
      refine Go_iload_n 1 rfl rfl dX9_undo_92 ?_
      refine Go_bipush ⟨by decide, by unfold in32; omega⟩ dX9_undo_93 ?_
      refine Go_icmp_ge dX9_undo_95 rfl (fun h95 => ?_) (fun h95 => ?_)
      · skip
        refine Go_aload_n 0 rfl rfl dX9_undo_124 ?_
        refine Go_aload_n 0 rfl rfl dX9_undo_125 ?_
        refine Go_getR (c' := 117) faX9_45 sh_106 (pt_106_14 (M := M) hC.1) dX9_undo_126 ?_
        refine Go_aload_n 0 rfl rfl dX9_undo_129 ?_
        refine Go_getIv (v := ((k - 1 : Nat) : Int)) rfl faX9_72 sh_106 dX9_undo_130 ?_
        refine Go_ialoadv ((k - 1)) (v := M 117 ((k - 1))) rfl sh_117 rfl (by omega) dX9_undo_133 ?_
        refine Go_putI fpX9_75 sh_106 dX9_undo_134 ?_
        refine Go_aload_n 0 rfl rfl dX9_undo_137 ?_
        refine Go_aload_n 0 rfl rfl dX9_undo_138 ?_
        refine Go_getR (c' := 120) faX9_54 sh_106 (pt_106_17 (M := M) hC.1) dX9_undo_139 ?_
        refine Go_aload_n 0 rfl rfl dX9_undo_142 ?_
        refine Go_getIv (v := ((k - 1 : Nat) : Int)) rfl faX9_72 sh_106 dX9_undo_143 ?_
        refine Go_ialoadv ((k - 1)) (v := M 120 ((k - 1))) rfl sh_120 rfl (by omega) dX9_undo_146 ?_
        refine Go_putI fpX9_78 sh_106 dX9_undo_147 ?_
        refine Go_aload_n 0 rfl rfl dX9_undo_150 ?_
        refine Go_aload_n 0 rfl rfl dX9_undo_151 ?_
        refine Go_getR (c' := 122) faX9_60 sh_106 (pt_106_19 (M := M) hC.1) dX9_undo_152 ?_
        refine Go_aload_n 0 rfl rfl dX9_undo_155 ?_
        refine Go_getIv (v := ((k - 1 : Nat) : Int)) rfl faX9_72 sh_106 dX9_undo_156 ?_
        refine Go_ialoadv ((k - 1)) (v := M 122 ((k - 1))) rfl sh_122 rfl (by omega) dX9_undo_159 ?_
        refine Go_putI fpX9_32 sh_106 dX9_undo_160 ?_
        refine Go_M (M2 := unM M k) (by unfold unM; rw [gSet_s, gSet_ss, gSet_s, gSet_ss]; rfl) ?_
        refine Go_aload_n 0 rfl rfl dX9_undo_163 ?_
        refine Go_getIv (v := ((k - 1 : Nat) : Int)) rfl faX9_72 sh_106 dX9_undo_164 ?_
        exact Go_ret rfl dX9_undo_167
      · skip
        exact absurd h95 (by omega)
    | succ n ih_92 =>
      intro i r he hx
      refine Go_iload_n 1 rfl rfl dX9_undo_92 ?_
      refine Go_bipush ⟨by decide, by unfold in32; omega⟩ dX9_undo_93 ?_
      refine Go_icmp_ge dX9_undo_95 rfl (fun h95 => ?_) (fun h95 => ?_)
      · skip
        exact absurd h95 (by omega)
      · skip
        refine Go_aload_n 0 rfl rfl dX9_undo_98 ?_
        refine Go_getR (c' := 113) faX9_29 sh_106 (pt_106_8 (M := M) hC.1) dX9_undo_99 ?_
        refine Go_iload_n 1 rfl rfl dX9_undo_102 ?_
        refine Go_aload_n 0 rfl rfl dX9_undo_103 ?_
        refine Go_getR (c' := 121) faX9_57 sh_106 (pt_106_18 (M := M) hC.1) dX9_undo_104 ?_
        refine Go_bipush ⟨by decide, by unfold in32; omega⟩ dX9_undo_107 ?_
        refine Go_aload_n 0 rfl rfl dX9_undo_109 ?_
        refine Go_getIv (v := ((k - 1 : Nat) : Int)) rfl faX9_72 sh_106 dX9_undo_110 ?_
        refine Go_imuln 10 ((k - 1)) rfl rfl (by omega) dX9_undo_113 ?_
        refine Go_iload_n 1 rfl rfl dX9_undo_114 ?_
        refine Go_iaddn (10 * ((k - 1))) i rfl rfl (by omega) dX9_undo_115 ?_
        refine Go_ialoadv ((10 * ((k - 1))) + i) (v := M 121 ((10 * ((k - 1))) + i)) rfl sh_121 rfl (by omega) dX9_undo_116 ?_
        refine Go_iastoreS i sh_113 rfl (by omega) dX9_undo_117 ?_
        refine Go_iincn i 1 rfl rfl (by omega) 1 (ls' := [(1, gI _), (0, gR 106)]) rfl dX9_undo_118 (by decide) rfl ?_
        refine Go_goto dX9_undo_121 rfl ?_
        refine Go_pick [1, 0] (ls' := [(0, gR 106), (1, gI _)]) rfl ?_
        exact ih_92 (i + 1) _ (by omega) (by simp only [gtS, hx])
  have loop_58 : ∀ (n : Nat) (i : Nat) (r : Nat → Int), i + n = 12 → gtS (M 118) (12 * (k - 1)) (M 107) i = r → Go D ca none (gRm mX9_undo (SH.length - SH.length) (gSz SH - gSz SH)) mX9_undo 58 [(0, gR 106), (1, gI (i : Int))] [] SH (gSet (gSet (gSet M 106 (gUp (M 106) 13 ((k - 1 : Nat) : Int))) 109 (gtS (M 119) (144 * (k - 1)) (M 109) 144)) 107 r) [gI ((k - 1 : Nat) : Int)] SH (unM M k) := by
    intro n
    induction n with
    | zero =>
      intro i r he hx
      have ei : i = 12 := by omega
      subst ei
      subst hx
      refine Go_iload_n 1 rfl rfl dX9_undo_58 ?_
      refine Go_bipush ⟨by decide, by unfold in32; omega⟩ dX9_undo_59 ?_
      refine Go_icmp_ge dX9_undo_61 rfl (fun h61 => ?_) (fun h61 => ?_)
      · skip
        refine Go_o 113 ?_
        refine Go_iconst (by unfold in32; omega) dX9_undo_90 ?_
        refine Go_istore_n (ls' := [(1, gI _), (0, gR 106)]) rfl dX9_undo_91 (by decide) rfl ?_
        refine Go_pick [1, 0] (ls' := [(0, gR 106), (1, gI _)]) rfl ?_
        exact loop_92 10 0 _ (by omega) rfl
      · skip
        exact absurd h61 (by omega)
    | succ n ih_58 =>
      intro i r he hx
      refine Go_iload_n 1 rfl rfl dX9_undo_58 ?_
      refine Go_bipush ⟨by decide, by unfold in32; omega⟩ dX9_undo_59 ?_
      refine Go_icmp_ge dX9_undo_61 rfl (fun h61 => ?_) (fun h61 => ?_)
      · skip
        exact absurd h61 (by omega)
      · skip
        refine Go_aload_n 0 rfl rfl dX9_undo_64 ?_
        refine Go_getR (c' := 107) faX9_7 sh_106 (pt_106_1 (M := M) hC.1) dX9_undo_65 ?_
        refine Go_iload_n 1 rfl rfl dX9_undo_68 ?_
        refine Go_aload_n 0 rfl rfl dX9_undo_69 ?_
        refine Go_getR (c' := 118) faX9_48 sh_106 (pt_106_15 (M := M) hC.1) dX9_undo_70 ?_
        refine Go_bipush ⟨by decide, by unfold in32; omega⟩ dX9_undo_73 ?_
        refine Go_aload_n 0 rfl rfl dX9_undo_75 ?_
        refine Go_getIv (v := ((k - 1 : Nat) : Int)) rfl faX9_72 sh_106 dX9_undo_76 ?_
        refine Go_imuln 12 ((k - 1)) rfl rfl (by omega) dX9_undo_79 ?_
        refine Go_iload_n 1 rfl rfl dX9_undo_80 ?_
        refine Go_iaddn (12 * ((k - 1))) i rfl rfl (by omega) dX9_undo_81 ?_
        refine Go_ialoadv ((12 * ((k - 1))) + i) (v := M 118 ((12 * ((k - 1))) + i)) rfl sh_118 rfl (by omega) dX9_undo_82 ?_
        refine Go_iastoreS i sh_107 rfl (by omega) dX9_undo_83 ?_
        refine Go_iincn i 1 rfl rfl (by omega) 1 (ls' := [(1, gI _), (0, gR 106)]) rfl dX9_undo_84 (by decide) rfl ?_
        refine Go_goto dX9_undo_87 rfl ?_
        refine Go_pick [1, 0] (ls' := [(0, gR 106), (1, gI _)]) rfl ?_
        exact ih_58 (i + 1) _ (by omega) (by simp only [gtS, hx])
  have loop_22 : ∀ (n : Nat) (i : Nat) (r : Nat → Int), i + n = 144 → gtS (M 119) (144 * (k - 1)) (M 109) i = r → Go D ca none (gRm mX9_undo (SH.length - SH.length) (gSz SH - gSz SH)) mX9_undo 22 [(0, gR 106), (1, gI (i : Int))] [] SH (gSet (gSet M 106 (gUp (M 106) 13 ((k - 1 : Nat) : Int))) 109 r) [gI ((k - 1 : Nat) : Int)] SH (unM M k) := by
    intro n
    induction n with
    | zero =>
      intro i r he hx
      have ei : i = 144 := by omega
      subst ei
      subst hx
      refine Go_iload_n 1 rfl rfl dX9_undo_22 ?_
      refine Go_sipush ⟨by decide, by unfold in32; omega⟩ dX9_undo_23 ?_
      refine Go_icmp_ge dX9_undo_26 rfl (fun h26 => ?_) (fun h26 => ?_)
      · skip
        refine Go_o 107 ?_
        refine Go_iconst (by unfold in32; omega) dX9_undo_56 ?_
        refine Go_istore_n (ls' := [(1, gI _), (0, gR 106)]) rfl dX9_undo_57 (by decide) rfl ?_
        refine Go_pick [1, 0] (ls' := [(0, gR 106), (1, gI _)]) rfl ?_
        exact loop_58 12 0 _ (by omega) rfl
      · skip
        exact absurd h26 (by omega)
    | succ n ih_22 =>
      intro i r he hx
      refine Go_iload_n 1 rfl rfl dX9_undo_22 ?_
      refine Go_sipush ⟨by decide, by unfold in32; omega⟩ dX9_undo_23 ?_
      refine Go_icmp_ge dX9_undo_26 rfl (fun h26 => ?_) (fun h26 => ?_)
      · skip
        exact absurd h26 (by omega)
      · skip
        refine Go_aload_n 0 rfl rfl dX9_undo_29 ?_
        refine Go_getR (c' := 109) faX9_17 sh_106 (pt_106_3 (M := M) hC.1) dX9_undo_30 ?_
        refine Go_iload_n 1 rfl rfl dX9_undo_33 ?_
        refine Go_aload_n 0 rfl rfl dX9_undo_34 ?_
        refine Go_getR (c' := 119) faX9_51 sh_106 (pt_106_16 (M := M) hC.1) dX9_undo_35 ?_
        refine Go_sipush ⟨by decide, by unfold in32; omega⟩ dX9_undo_38 ?_
        refine Go_aload_n 0 rfl rfl dX9_undo_41 ?_
        refine Go_getIv (v := ((k - 1 : Nat) : Int)) rfl faX9_72 sh_106 dX9_undo_42 ?_
        refine Go_imuln 144 ((k - 1)) rfl rfl (by omega) dX9_undo_45 ?_
        refine Go_iload_n 1 rfl rfl dX9_undo_46 ?_
        refine Go_iaddn (144 * ((k - 1))) i rfl rfl (by omega) dX9_undo_47 ?_
        refine Go_ialoadv ((144 * ((k - 1))) + i) (v := M 119 ((144 * ((k - 1))) + i)) rfl sh_119 rfl (by omega) dX9_undo_48 ?_
        refine Go_iastoreS i sh_109 rfl (by omega) dX9_undo_49 ?_
        refine Go_iincn i 1 rfl rfl (by omega) 1 (ls' := [(1, gI _), (0, gR 106)]) rfl dX9_undo_50 (by decide) rfl ?_
        refine Go_goto dX9_undo_53 rfl ?_
        refine Go_pick [1, 0] (ls' := [(0, gR 106), (1, gI _)]) rfl ?_
        exact ih_22 (i + 1) _ (by omega) (by simp only [gtS, hx])
  refine Go_aload_n 0 rfl rfl dX9_undo_0 ?_
  refine Go_getIv (v := (k : Int)) hk faX9_72 sh_106 dX9_undo_1 ?_
  refine Go_if_ne dX9_undo_4 rfl (fun h4 => ?_) (fun h4 => ?_)
  · skip
    refine Go_aload_n 0 rfl rfl dX9_undo_10 ?_
    refine Go_dupR dX9_undo_11 ?_
    refine Go_getIv (v := (k : Int)) hk faX9_72 sh_106 dX9_undo_12 ?_
    refine Go_iconst (by unfold in32; omega) dX9_undo_15 ?_
    refine Go_isubn k 1 rfl rfl (by omega) dX9_undo_16 ?_
    refine Go_putI fpX9_72 sh_106 dX9_undo_17 ?_
    refine Go_o 109 ?_
    refine Go_iconst (by unfold in32; omega) dX9_undo_20 ?_
    refine Go_istore_n (ls' := [(1, gI _), (0, gR 106)]) rfl dX9_undo_21 (by decide) rfl ?_
    refine Go_pick [1, 0] (ls' := [(0, gR 106), (1, gI _)]) rfl ?_
    exact loop_22 144 0 _ (by omega) rfl
  · skip
    exfalso; omega
set_option maxHeartbeats 4000000 in
set_option maxRecDepth 100000 in
theorem pX9_village_bad {D : va_G} {ca : Nat → ClassId} {M : gMem} {nv np : Nat} (hC : MS M nv np) (x : Int) (h : ¬ (0 ≤ x ∧ x ≤ 1000)) : Fn D ca mX9_village [gR 106, gI x] SH M [gI (-1)] SH (M) := by
  refine Fn_of okX9_village (Nat.le_of_ble_eq_true rfl) (Or.inr (Or.inl ⟨_, rfl, rfl⟩)) (Nat.le_refl _) (Nat.le_refl _) ?_
  refine Go_ls2 (ls' := [(0, gR 106), (1, gI _)]) rfl ?_
  have hv12 := hC.2.2.1
  have hn10 := hC.2.2.2.2
  refine Go_iload_n 1 rfl rfl dX9_village_0 ?_
  refine Go_i2l dX9_village_1 ?_
  refine Go_lconst (v := 0) ⟨rfl, by unfold in64; omega⟩ dX9_village_2 ?_
  refine Go_ldc2 klX9_85 (by unfold in64; omega) dX9_village_3 ?_
  refine Go_callSI (fX9_in _ _ _) cwX9_81 smX9_in ⟨Nat.le_of_ble_eq_true rfl, Nat.le_of_ble_eq_true rfl⟩ rfl (Nat.le_of_ble_eq_true rfl) sh_rf dX9_village_6 ?_
  refine Go_if_ne dX9_village_9 rfl (fun h9 => ?_) (fun h9 => ?_)
  · skip
    replace h9 := bI_n.mp h9
    exact absurd h9 h
  · skip
    replace h9 := bI_0.mp h9
    refine Go_iconst (by unfold in32; omega) dX9_village_12 ?_
    exact Go_ret rfl dX9_village_13
set_option maxHeartbeats 4000000 in
set_option maxRecDepth 100000 in
theorem pX9_village_full {D : va_G} {ca : Nat → ClassId} {M : gMem} {nv np : Nat} (hC : MS M nv np) (x : Int) (h : 0 ≤ x ∧ x ≤ 1000) (h12 : ¬ nv < 12) : Fn D ca mX9_village [gR 106, gI x] SH M [gI (-3)] SH (M) := by
  refine Fn_of okX9_village (Nat.le_of_ble_eq_true rfl) (Or.inr (Or.inl ⟨_, rfl, rfl⟩)) (Nat.le_refl _) (Nat.le_refl _) ?_
  refine Go_ls2 (ls' := [(0, gR 106), (1, gI _)]) rfl ?_
  have hv12 := hC.2.2.1
  have hn10 := hC.2.2.2.2
  refine Go_iload_n 1 rfl rfl dX9_village_0 ?_
  refine Go_i2l dX9_village_1 ?_
  refine Go_lconst (v := 0) ⟨rfl, by unfold in64; omega⟩ dX9_village_2 ?_
  refine Go_ldc2 klX9_85 (by unfold in64; omega) dX9_village_3 ?_
  refine Go_callSI (fX9_in _ _ _) cwX9_81 smX9_in ⟨Nat.le_of_ble_eq_true rfl, Nat.le_of_ble_eq_true rfl⟩ rfl (Nat.le_of_ble_eq_true rfl) sh_rf dX9_village_6 ?_
  refine Go_if_ne dX9_village_9 rfl (fun h9 => ?_) (fun h9 => ?_)
  · skip
    replace h9 := bI_n.mp h9
    refine Go_aload_n 0 rfl rfl dX9_village_14 ?_
    refine Go_getIv (v := (nv : Int)) hC.2.1 faX9_75 sh_106 dX9_village_15 ?_
    refine Go_bipush ⟨by decide, by unfold in32; omega⟩ dX9_village_18 ?_
    refine Go_icmp_ne dX9_village_20 rfl (fun h20 => ?_) (fun h20 => ?_)
    · skip
      exfalso; omega
    · skip
      refine Go_bipush ⟨by decide, by unfold in32; omega⟩ dX9_village_23 ?_
      exact Go_ret rfl dX9_village_25
  · skip
    replace h9 := bI_0.mp h9
    exact absurd h h9
set_option maxHeartbeats 4000000 in
set_option maxRecDepth 100000 in
theorem pX9_village {D : va_G} {ca : Nat → ClassId} {M : gMem} {nv np : Nat} (hC : MS M nv np) (k : Nat) (hk : M 106 13 = (k : Int)) (hk2 : k ≤ 10) (x : Int) (h : 0 ≤ x ∧ x ≤ 1000) (h12 : nv < 12) : Fn D ca mX9_village [gR 106, gI x] SH M [gI (nv : Int)] SH (vgM (kpM M k) nv x) := by
  refine Fn_of okX9_village (Nat.le_of_ble_eq_true rfl) (Or.inr (Or.inl ⟨_, rfl, rfl⟩)) (Nat.le_refl _) (Nat.le_refl _) ?_
  refine Go_ls2 (ls' := [(0, gR 106), (1, gI _)]) rfl ?_
  have hn10 := hC.2.2.2.2
  have loop_61 : ∀ (N : gMem), MS N nv np → ∀ (n : Nat) (w : Nat) (r : Nat → Int), w + n = 12 → zrS nv (N 109) w = r → Go D ca none (gRm mX9_village (SH.length - SH.length) (gSz SH - gSz SH)) mX9_village 61 [(0, gR 106), (2, gI (nv : Int)), (3, gI (w : Int))] [] SH (gSet (gSet (gSet (gSet N 106 (gUp (N 106) 0 ((nv + 1 : Nat) : Int))) 107 (gUp (N 107) nv x)) 108 (gUp (N 108) nv 0)) 109 r) [gI (nv : Int)] SH (vgM N nv x) := by
    intro N hN n
    induction n with
    | zero =>
      intro w r he hx
      have ei : w = 12 := by omega
      subst ei
      subst hx
      refine Go_iload_n 2 rfl rfl dX9_village_61 ?_
      refine Go_bipush ⟨by decide, by unfold in32; omega⟩ dX9_village_62 ?_
      refine Go_icmp_ge dX9_village_64 rfl (fun h64 => ?_) (fun h64 => ?_)
      · skip
        refine Go_iload_n 1 rfl rfl dX9_village_97 ?_
        exact Go_ret rfl dX9_village_98
      · skip
        exact absurd h64 (by omega)
    | succ n ih_61 =>
      intro w r he hx
      refine Go_iload_n 2 rfl rfl dX9_village_61 ?_
      refine Go_bipush ⟨by decide, by unfold in32; omega⟩ dX9_village_62 ?_
      refine Go_icmp_ge dX9_village_64 rfl (fun h64 => ?_) (fun h64 => ?_)
      · skip
        exact absurd h64 (by omega)
      · skip
        refine Go_aload_n 0 rfl rfl dX9_village_67 ?_
        refine Go_getR (c' := 109) faX9_17 sh_106 (pt_106_3 (M := N) hN.1) dX9_village_68 ?_
        refine Go_bipush ⟨by decide, by unfold in32; omega⟩ dX9_village_71 ?_
        refine Go_iload_n 1 rfl rfl dX9_village_73 ?_
        refine Go_imuln 12 nv rfl rfl (by omega) dX9_village_74 ?_
        refine Go_iload_n 2 rfl rfl dX9_village_75 ?_
        refine Go_iaddn (12 * nv) w rfl rfl (by omega) dX9_village_76 ?_
        refine Go_iconst (by unfold in32; omega) dX9_village_77 ?_
        refine Go_iastoreS ((12 * nv) + w) sh_109 rfl (by omega) dX9_village_78 ?_
        refine Go_aload_n 0 rfl rfl dX9_village_79 ?_
        refine Go_getR (c' := 109) faX9_17 sh_106 (pt_106_3 (M := N) hN.1) dX9_village_80 ?_
        refine Go_bipush ⟨by decide, by unfold in32; omega⟩ dX9_village_83 ?_
        refine Go_iload_n 2 rfl rfl dX9_village_85 ?_
        refine Go_imuln 12 w rfl rfl (by omega) dX9_village_86 ?_
        refine Go_iload_n 1 rfl rfl dX9_village_87 ?_
        refine Go_iaddn (12 * w) nv rfl rfl (by omega) dX9_village_88 ?_
        refine Go_iconst (by unfold in32; omega) dX9_village_89 ?_
        refine Go_iastoreS ((12 * w) + nv) sh_109 rfl (by omega) dX9_village_90 ?_
        refine Go_iincn w 1 rfl rfl (by omega) 2 (ls' := [(3, gI _), (0, gR 106), (2, gI _)]) rfl dX9_village_91 (by decide) rfl ?_
        refine Go_goto dX9_village_94 rfl ?_
        refine Go_pick [1, 2, 0] (ls' := [(0, gR 106), (2, gI _), (3, gI _)]) rfl ?_
        exact ih_61 (w + 1) _ (by omega) (by simp only [zrS, hx])
  refine Go_iload_n 1 rfl rfl dX9_village_0 ?_
  refine Go_i2l dX9_village_1 ?_
  refine Go_lconst (v := 0) ⟨rfl, by unfold in64; omega⟩ dX9_village_2 ?_
  refine Go_ldc2 klX9_85 (by unfold in64; omega) dX9_village_3 ?_
  refine Go_callSI (fX9_in _ _ _) cwX9_81 smX9_in ⟨Nat.le_of_ble_eq_true rfl, Nat.le_of_ble_eq_true rfl⟩ rfl (Nat.le_of_ble_eq_true rfl) sh_rf dX9_village_6 ?_
  refine Go_if_ne dX9_village_9 rfl (fun h9 => ?_) (fun h9 => ?_)
  · skip
    replace h9 := bI_n.mp h9
    refine Go_aload_n 0 rfl rfl dX9_village_14 ?_
    refine Go_getIv (v := (nv : Int)) hC.2.1 faX9_75 sh_106 dX9_village_15 ?_
    refine Go_bipush ⟨by decide, by unfold in32; omega⟩ dX9_village_18 ?_
    refine Go_icmp_ne dX9_village_20 rfl (fun h20 => ?_) (fun h20 => ?_)
    · skip
      refine Go_aload_n 0 rfl rfl dX9_village_26 ?_
      refine Go_callV0 (q := vwCl[9]) (fX9_keep hC k hk hk2) cwX9_87 imX9_keep rfl rfl ⟨Nat.le_of_ble_eq_true rfl, Nat.le_of_ble_eq_true rfl⟩ sh_106 rfl (Nat.le_of_ble_eq_true rfl) sh_rf dX9_village_27 ?_
      generalize hNe : kpM M k = N
      have hN : MS N nv np := by rw [← hNe]; exact MS_kp hC k
      have hNo : ∀ i, i < 106 ∨ (106 < i ∧ i < 117) ∨ 122 < i → N i = M i := fun i hi => by rw [← hNe]; exact kpM_o hi
      refine Go_aload_n 0 rfl rfl dX9_village_30 ?_
      refine Go_getIv (v := (nv : Int)) hN.2.1 faX9_75 sh_106 dX9_village_31 ?_
      refine Go_istore_n (ls' := [(2, gI _), (0, gR 106), (1, gI _)]) rfl dX9_village_34 (by decide) rfl ?_
      refine Go_aload_n 1 rfl rfl dX9_village_35 ?_
      refine Go_dupR dX9_village_36 ?_
      refine Go_getIv (v := (nv : Int)) hN.2.1 faX9_75 sh_106 dX9_village_37 ?_
      refine Go_iconst (by unfold in32; omega) dX9_village_40 ?_
      refine Go_iaddn nv 1 rfl rfl (by omega) dX9_village_41 ?_
      refine Go_putI fpX9_75 sh_106 dX9_village_42 ?_
      refine Go_aload_n 1 rfl rfl dX9_village_45 ?_
      refine Go_getR (c' := 107) faX9_7 sh_106 (pt_106_1 (M := N) hN.1) dX9_village_46 ?_
      refine Go_iload_n 0 rfl rfl dX9_village_49 ?_
      refine Go_iload_n 2 rfl rfl dX9_village_50 ?_
      refine Go_iastore nv sh_107 rfl (by omega) dX9_village_51 ?_
      refine Go_aload_n 1 rfl rfl dX9_village_52 ?_
      refine Go_getR (c' := 108) faX9_13 sh_106 (pt_106_2 (M := N) hN.1) dX9_village_53 ?_
      refine Go_iload_n 0 rfl rfl dX9_village_56 ?_
      refine Go_lconst (v := 0) ⟨rfl, by unfold in64; omega⟩ dX9_village_57 ?_
      refine Go_lastore nv sh_108 rfl (by omega) dX9_village_58 ?_
      refine Go_o 109 ?_
      refine Go_iconst (by unfold in32; omega) dX9_village_59 ?_
      refine Go_istore_n (ls' := [(3, gI _), (2, gI _), (0, gR 106), (1, gI _)]) rfl dX9_village_60 (by decide) rfl ?_
      refine Go_pick [2, 1, 0] (ls' := [(0, gR 106), (2, gI _), (3, gI _)]) rfl ?_
      exact loop_61 N hN 12 0 _ (by omega) rfl
    · skip
      exfalso; omega
  · skip
    replace h9 := bI_0.mp h9
    exact absurd h h9
set_option maxHeartbeats 4000000 in
set_option maxRecDepth 100000 in
theorem pX9_loaves_bad {D : va_G} {ca : Nat → ClassId} {M : gMem} {nv np : Nat} (hC : MS M nv np) (v x : Int) (h : ¬ ((0 ≤ v ∧ v ≤ (nv : Int) - 1) ∧ 0 ≤ x ∧ x ≤ 1000)) : Fn D ca mX9_loaves [gR 106, gI v, gI x] SH M [gI (-1)] SH (M) := by
  refine Fn_of okX9_loaves (Nat.le_of_ble_eq_true rfl) (Or.inr (Or.inl ⟨_, rfl, rfl⟩)) (Nat.le_refl _) (Nat.le_refl _) ?_
  refine Go_ls2 (ls' := [(0, gR 106), (1, gI _), (2, gI _)]) rfl ?_
  have hv12 := hC.2.2.1
  have hn10 := hC.2.2.2.2
  refine Go_aload_n 0 rfl rfl dX9_loaves_0 ?_
  refine Go_iload_n 1 rfl rfl dX9_loaves_1 ?_
  refine Go_callVI (q := vwCl[9]) (fX9_isVillage hC _) cwX9_90 imX9_isVillage rfl rfl ⟨Nat.le_of_ble_eq_true rfl, Nat.le_of_ble_eq_true rfl⟩ sh_106 rfl (Nat.le_of_ble_eq_true rfl) sh_rf dX9_loaves_2 ?_
  refine Go_if_eq dX9_loaves_5 rfl (fun h5 => ?_) (fun h5 => ?_)
  · skip
    replace h5 := bI_0.mp h5
    refine Go_iconst (by unfold in32; omega) dX9_loaves_20 ?_
    exact Go_ret rfl dX9_loaves_21
  · skip
    replace h5 := bI_n.mp h5
    refine Go_iload_n 2 rfl rfl dX9_loaves_8 ?_
    refine Go_i2l dX9_loaves_9 ?_
    refine Go_lconst (v := 0) ⟨rfl, by unfold in64; omega⟩ dX9_loaves_10 ?_
    refine Go_ldc2 klX9_85 (by unfold in64; omega) dX9_loaves_11 ?_
    refine Go_callSI (fX9_in _ _ _) cwX9_81 smX9_in ⟨Nat.le_of_ble_eq_true rfl, Nat.le_of_ble_eq_true rfl⟩ rfl (Nat.le_of_ble_eq_true rfl) sh_rf dX9_loaves_14 ?_
    refine Go_if_ne dX9_loaves_17 rfl (fun h17 => ?_) (fun h17 => ?_)
    · skip
      replace h17 := bI_n.mp h17
      exact absurd ⟨h5, h17⟩ h
    · skip
      replace h17 := bI_0.mp h17
      refine Go_iconst (by unfold in32; omega) dX9_loaves_20 ?_
      exact Go_ret rfl dX9_loaves_21
set_option maxHeartbeats 4000000 in
set_option maxRecDepth 100000 in
theorem pX9_loaves_same {D : va_G} {ca : Nat → ClassId} {M : gMem} {nv np : Nat} (hC : MS M nv np) (v : Nat) (hv : v < nv) (x : Int) (h : 0 ≤ x ∧ x ≤ 1000) (hs : M 107 v = x) : Fn D ca mX9_loaves [gR 106, gI (v : Int), gI x] SH M [gI (M 107 v)] SH (M) := by
  refine Fn_of okX9_loaves (Nat.le_of_ble_eq_true rfl) (Or.inr (Or.inl ⟨_, rfl, rfl⟩)) (Nat.le_refl _) (Nat.le_refl _) ?_
  refine Go_ls2 (ls' := [(0, gR 106), (1, gI _), (2, gI _)]) rfl ?_
  have hv12 := hC.2.2.1
  have hn10 := hC.2.2.2.2
  refine Go_aload_n 0 rfl rfl dX9_loaves_0 ?_
  refine Go_iload_n 1 rfl rfl dX9_loaves_1 ?_
  refine Go_callVI (q := vwCl[9]) (fX9_isVillage hC _) cwX9_90 imX9_isVillage rfl rfl ⟨Nat.le_of_ble_eq_true rfl, Nat.le_of_ble_eq_true rfl⟩ sh_106 rfl (Nat.le_of_ble_eq_true rfl) sh_rf dX9_loaves_2 ?_
  refine Go_if_eq dX9_loaves_5 rfl (fun h5 => ?_) (fun h5 => ?_)
  · skip
    replace h5 := bI_0.mp h5
    exfalso; omega
  · skip
    replace h5 := bI_n.mp h5
    refine Go_iload_n 2 rfl rfl dX9_loaves_8 ?_
    refine Go_i2l dX9_loaves_9 ?_
    refine Go_lconst (v := 0) ⟨rfl, by unfold in64; omega⟩ dX9_loaves_10 ?_
    refine Go_ldc2 klX9_85 (by unfold in64; omega) dX9_loaves_11 ?_
    refine Go_callSI (fX9_in _ _ _) cwX9_81 smX9_in ⟨Nat.le_of_ble_eq_true rfl, Nat.le_of_ble_eq_true rfl⟩ rfl (Nat.le_of_ble_eq_true rfl) sh_rf dX9_loaves_14 ?_
    refine Go_if_ne dX9_loaves_17 rfl (fun h17 => ?_) (fun h17 => ?_)
    · skip
      replace h17 := bI_n.mp h17
      refine Go_aload_n 0 rfl rfl dX9_loaves_22 ?_
      refine Go_getR (c' := 107) faX9_7 sh_106 (pt_106_1 (M := M) hC.1) dX9_loaves_23 ?_
      refine Go_iload_n 1 rfl rfl dX9_loaves_26 ?_
      refine Go_ialoadv v (v := M 107 (v)) rfl sh_107 rfl (by omega) dX9_loaves_27 ?_
      refine Go_istore_n (ls' := [(3, gI _), (0, gR 106), (1, gI _), (2, gI _)]) rfl dX9_loaves_28 (by decide) rfl ?_
      refine Go_iload_n 0 rfl rfl dX9_loaves_29 ?_
      refine Go_iload_n 3 rfl rfl dX9_loaves_30 ?_
      refine Go_icmp_eq dX9_loaves_31 rfl (fun h31 => ?_) (fun h31 => ?_)
      · skip
        refine Go_iload_n 0 rfl rfl dX9_loaves_45 ?_
        exact Go_ret rfl dX9_loaves_46
      · skip
        exact absurd hs h31
    · skip
      replace h17 := bI_0.mp h17
      exact absurd h h17
set_option maxHeartbeats 4000000 in
set_option maxRecDepth 100000 in
theorem pX9_loaves {D : va_G} {ca : Nat → ClassId} {M : gMem} {nv np : Nat} (hC : MS M nv np) (k : Nat) (hk : M 106 13 = (k : Int)) (hk2 : k ≤ 10) (v : Nat) (hv : v < nv) (x : Int) (h : 0 ≤ x ∧ x ≤ 1000) (hs : ¬ M 107 v = x) : Fn D ca mX9_loaves [gR 106, gI (v : Int), gI x] SH M [gI (M 107 v)] SH (gSet (kpM M k) 107 (gUp ((kpM M k) 107) v x)) := by
  refine Fn_of okX9_loaves (Nat.le_of_ble_eq_true rfl) (Or.inr (Or.inl ⟨_, rfl, rfl⟩)) (Nat.le_refl _) (Nat.le_refl _) ?_
  refine Go_ls2 (ls' := [(0, gR 106), (1, gI _), (2, gI _)]) rfl ?_
  have hv12 := hC.2.2.1
  have hn10 := hC.2.2.2.2
  refine Go_aload_n 0 rfl rfl dX9_loaves_0 ?_
  refine Go_iload_n 1 rfl rfl dX9_loaves_1 ?_
  refine Go_callVI (q := vwCl[9]) (fX9_isVillage hC _) cwX9_90 imX9_isVillage rfl rfl ⟨Nat.le_of_ble_eq_true rfl, Nat.le_of_ble_eq_true rfl⟩ sh_106 rfl (Nat.le_of_ble_eq_true rfl) sh_rf dX9_loaves_2 ?_
  refine Go_if_eq dX9_loaves_5 rfl (fun h5 => ?_) (fun h5 => ?_)
  · skip
    replace h5 := bI_0.mp h5
    exfalso; omega
  · skip
    replace h5 := bI_n.mp h5
    refine Go_iload_n 2 rfl rfl dX9_loaves_8 ?_
    refine Go_i2l dX9_loaves_9 ?_
    refine Go_lconst (v := 0) ⟨rfl, by unfold in64; omega⟩ dX9_loaves_10 ?_
    refine Go_ldc2 klX9_85 (by unfold in64; omega) dX9_loaves_11 ?_
    refine Go_callSI (fX9_in _ _ _) cwX9_81 smX9_in ⟨Nat.le_of_ble_eq_true rfl, Nat.le_of_ble_eq_true rfl⟩ rfl (Nat.le_of_ble_eq_true rfl) sh_rf dX9_loaves_14 ?_
    refine Go_if_ne dX9_loaves_17 rfl (fun h17 => ?_) (fun h17 => ?_)
    · skip
      replace h17 := bI_n.mp h17
      refine Go_aload_n 0 rfl rfl dX9_loaves_22 ?_
      refine Go_getR (c' := 107) faX9_7 sh_106 (pt_106_1 (M := M) hC.1) dX9_loaves_23 ?_
      refine Go_iload_n 1 rfl rfl dX9_loaves_26 ?_
      refine Go_ialoadv v (v := M 107 (v)) rfl sh_107 rfl (by omega) dX9_loaves_27 ?_
      refine Go_istore_n (ls' := [(3, gI _), (0, gR 106), (1, gI _), (2, gI _)]) rfl dX9_loaves_28 (by decide) rfl ?_
      refine Go_iload_n 0 rfl rfl dX9_loaves_29 ?_
      refine Go_iload_n 3 rfl rfl dX9_loaves_30 ?_
      refine Go_icmp_eq dX9_loaves_31 rfl (fun h31 => ?_) (fun h31 => ?_)
      · skip
        exact absurd h31 hs
      · skip
        refine Go_aload_n 1 rfl rfl dX9_loaves_34 ?_
        refine Go_callV0 (q := vwCl[9]) (fX9_keep hC k hk hk2) cwX9_87 imX9_keep rfl rfl ⟨Nat.le_of_ble_eq_true rfl, Nat.le_of_ble_eq_true rfl⟩ sh_106 rfl (Nat.le_of_ble_eq_true rfl) sh_rf dX9_loaves_35 ?_
        generalize hNe : kpM M k = N
        have hN : MS N nv np := by rw [← hNe]; exact MS_kp hC k
        have hNo : ∀ i, i < 106 ∨ (106 < i ∧ i < 117) ∨ 122 < i → N i = M i := fun i hi => by rw [← hNe]; exact kpM_o hi
        refine Go_aload_n 1 rfl rfl dX9_loaves_38 ?_
        refine Go_getR (c' := 107) faX9_7 sh_106 (pt_106_1 (M := N) hN.1) dX9_loaves_39 ?_
        refine Go_iload_n 2 rfl rfl dX9_loaves_42 ?_
        refine Go_iload_n 3 rfl rfl dX9_loaves_43 ?_
        refine Go_iastore v sh_107 rfl (by omega) dX9_loaves_44 ?_
        refine Go_iload_n 0 rfl rfl dX9_loaves_45 ?_
        exact Go_ret rfl dX9_loaves_46
    · skip
      replace h17 := bI_0.mp h17
      exact absurd h h17
set_option maxHeartbeats 4000000 in
set_option maxRecDepth 100000 in
theorem pX9_road_bad {D : va_G} {ca : Nat → ClassId} {M : gMem} {nv np : Nat} (hC : MS M nv np) (a b z : Int) (h : ¬ ((0 ≤ a ∧ a ≤ (nv : Int) - 1) ∧ (0 ≤ b ∧ b ≤ (nv : Int) - 1) ∧ a ≠ b ∧ 0 ≤ z ∧ z ≤ 1000)) : Fn D ca mX9_road [gR 106, gI a, gI b, gI z] SH M [gI (-1)] SH (M) := by
  refine Fn_of okX9_road (Nat.le_of_ble_eq_true rfl) (Or.inr (Or.inl ⟨_, rfl, rfl⟩)) (Nat.le_refl _) (Nat.le_refl _) ?_
  refine Go_ls2 (ls' := [(0, gR 106), (1, gI _), (2, gI _), (3, gI _)]) rfl ?_
  have hv12 := hC.2.2.1
  have hn10 := hC.2.2.2.2
  refine Go_aload_n 0 rfl rfl dX9_road_0 ?_
  refine Go_iload_n 1 rfl rfl dX9_road_1 ?_
  refine Go_i2l dX9_road_2 ?_
  refine Go_iload_n 2 rfl rfl dX9_road_3 ?_
  refine Go_i2l dX9_road_4 ?_
  refine Go_iload_n 3 rfl rfl dX9_road_5 ?_
  refine Go_i2l dX9_road_6 ?_
  refine Go_callVI (q := vwCl[9]) (fX9_isRoad hC _ _ _) cwX9_94 imX9_isRoad rfl rfl ⟨Nat.le_of_ble_eq_true rfl, Nat.le_of_ble_eq_true rfl⟩ sh_106 rfl (Nat.le_of_ble_eq_true rfl) sh_rf dX9_road_7 ?_
  refine Go_if_ne dX9_road_10 rfl (fun h10 => ?_) (fun h10 => ?_)
  · skip
    replace h10 := bI_n.mp h10
    exact absurd h10 h
  · skip
    replace h10 := bI_0.mp h10
    refine Go_iconst (by unfold in32; omega) dX9_road_13 ?_
    exact Go_ret rfl dX9_road_14
set_option maxHeartbeats 4000000 in
set_option maxRecDepth 100000 in
theorem pX9_road_same {D : va_G} {ca : Nat → ClassId} {M : gMem} {nv np : Nat} (hC : MS M nv np) (a b : Nat) (ha : a < nv) (hb : b < nv) (hab : a ≠ b) (z : Int) (h : 0 ≤ z ∧ z ≤ 1000) (hs : M 109 (12 * a + b) = z) : Fn D ca mX9_road [gR 106, gI (a : Int), gI (b : Int), gI z] SH M [gI (M 109 (12 * a + b))] SH (M) := by
  refine Fn_of okX9_road (Nat.le_of_ble_eq_true rfl) (Or.inr (Or.inl ⟨_, rfl, rfl⟩)) (Nat.le_refl _) (Nat.le_refl _) ?_
  refine Go_ls2 (ls' := [(0, gR 106), (1, gI _), (2, gI _), (3, gI _)]) rfl ?_
  have hv12 := hC.2.2.1
  have hn10 := hC.2.2.2.2
  refine Go_aload_n 0 rfl rfl dX9_road_0 ?_
  refine Go_iload_n 1 rfl rfl dX9_road_1 ?_
  refine Go_i2l dX9_road_2 ?_
  refine Go_iload_n 2 rfl rfl dX9_road_3 ?_
  refine Go_i2l dX9_road_4 ?_
  refine Go_iload_n 3 rfl rfl dX9_road_5 ?_
  refine Go_i2l dX9_road_6 ?_
  refine Go_callVI (q := vwCl[9]) (fX9_isRoad hC _ _ _) cwX9_94 imX9_isRoad rfl rfl ⟨Nat.le_of_ble_eq_true rfl, Nat.le_of_ble_eq_true rfl⟩ sh_106 rfl (Nat.le_of_ble_eq_true rfl) sh_rf dX9_road_7 ?_
  refine Go_if_ne dX9_road_10 rfl (fun h10 => ?_) (fun h10 => ?_)
  · skip
    replace h10 := bI_n.mp h10
    refine Go_aload_n 0 rfl rfl dX9_road_15 ?_
    refine Go_getR (c' := 109) faX9_17 sh_106 (pt_106_3 (M := M) hC.1) dX9_road_16 ?_
    refine Go_bipush ⟨by decide, by unfold in32; omega⟩ dX9_road_19 ?_
    refine Go_iload_n 1 rfl rfl dX9_road_21 ?_
    refine Go_imuln 12 a rfl rfl (by omega) dX9_road_22 ?_
    refine Go_iload_n 2 rfl rfl dX9_road_23 ?_
    refine Go_iaddn (12 * a) b rfl rfl (by omega) dX9_road_24 ?_
    refine Go_ialoadv ((12 * a) + b) (v := M 109 ((12 * a) + b)) rfl sh_109 rfl (by omega) dX9_road_25 ?_
    refine Go_istore (ls' := [(4, gI _), (0, gR 106), (1, gI _), (2, gI _), (3, gI _)]) dX9_road_26 (by decide) rfl ?_
    refine Go_iload 0 rfl dX9_road_28 ?_
    refine Go_iload_n 4 rfl rfl dX9_road_30 ?_
    refine Go_icmp_eq dX9_road_31 rfl (fun h31 => ?_) (fun h31 => ?_)
    · skip
      refine Go_iload 0 rfl dX9_road_62 ?_
      exact Go_ret rfl dX9_road_64
    · skip
      exact absurd hs h31
  · skip
    replace h10 := bI_0.mp h10
    exact absurd ⟨⟨by omega, by omega⟩, ⟨by omega, by omega⟩, by omega, h⟩ h10
set_option maxHeartbeats 4000000 in
set_option maxRecDepth 100000 in
theorem pX9_road {D : va_G} {ca : Nat → ClassId} {M : gMem} {nv np : Nat} (hC : MS M nv np) (k : Nat) (hk : M 106 13 = (k : Int)) (hk2 : k ≤ 10) (a b : Nat) (ha : a < nv) (hb : b < nv) (hab : a ≠ b) (z : Int) (h : 0 ≤ z ∧ z ≤ 1000) (hs : ¬ M 109 (12 * a + b) = z) : Fn D ca mX9_road [gR 106, gI (a : Int), gI (b : Int), gI z] SH M [gI (M 109 (12 * a + b))] SH (gSet (kpM M k) 109 (gUp (gUp ((kpM M k) 109) (12 * a + b) z) (12 * b + a) z)) := by
  refine Fn_of okX9_road (Nat.le_of_ble_eq_true rfl) (Or.inr (Or.inl ⟨_, rfl, rfl⟩)) (Nat.le_refl _) (Nat.le_refl _) ?_
  refine Go_ls2 (ls' := [(0, gR 106), (1, gI _), (2, gI _), (3, gI _)]) rfl ?_
  have hv12 := hC.2.2.1
  have hn10 := hC.2.2.2.2
  refine Go_aload_n 0 rfl rfl dX9_road_0 ?_
  refine Go_iload_n 1 rfl rfl dX9_road_1 ?_
  refine Go_i2l dX9_road_2 ?_
  refine Go_iload_n 2 rfl rfl dX9_road_3 ?_
  refine Go_i2l dX9_road_4 ?_
  refine Go_iload_n 3 rfl rfl dX9_road_5 ?_
  refine Go_i2l dX9_road_6 ?_
  refine Go_callVI (q := vwCl[9]) (fX9_isRoad hC _ _ _) cwX9_94 imX9_isRoad rfl rfl ⟨Nat.le_of_ble_eq_true rfl, Nat.le_of_ble_eq_true rfl⟩ sh_106 rfl (Nat.le_of_ble_eq_true rfl) sh_rf dX9_road_7 ?_
  refine Go_if_ne dX9_road_10 rfl (fun h10 => ?_) (fun h10 => ?_)
  · skip
    replace h10 := bI_n.mp h10
    refine Go_aload_n 0 rfl rfl dX9_road_15 ?_
    refine Go_getR (c' := 109) faX9_17 sh_106 (pt_106_3 (M := M) hC.1) dX9_road_16 ?_
    refine Go_bipush ⟨by decide, by unfold in32; omega⟩ dX9_road_19 ?_
    refine Go_iload_n 1 rfl rfl dX9_road_21 ?_
    refine Go_imuln 12 a rfl rfl (by omega) dX9_road_22 ?_
    refine Go_iload_n 2 rfl rfl dX9_road_23 ?_
    refine Go_iaddn (12 * a) b rfl rfl (by omega) dX9_road_24 ?_
    refine Go_ialoadv ((12 * a) + b) (v := M 109 ((12 * a) + b)) rfl sh_109 rfl (by omega) dX9_road_25 ?_
    refine Go_istore (ls' := [(4, gI _), (0, gR 106), (1, gI _), (2, gI _), (3, gI _)]) dX9_road_26 (by decide) rfl ?_
    refine Go_iload 0 rfl dX9_road_28 ?_
    refine Go_iload_n 4 rfl rfl dX9_road_30 ?_
    refine Go_icmp_eq dX9_road_31 rfl (fun h31 => ?_) (fun h31 => ?_)
    · skip
      exact absurd h31 hs
    · skip
      refine Go_aload_n 1 rfl rfl dX9_road_34 ?_
      refine Go_callV0 (q := vwCl[9]) (fX9_keep hC k hk hk2) cwX9_87 imX9_keep rfl rfl ⟨Nat.le_of_ble_eq_true rfl, Nat.le_of_ble_eq_true rfl⟩ sh_106 rfl (Nat.le_of_ble_eq_true rfl) sh_rf dX9_road_35 ?_
      generalize hNe : kpM M k = N
      have hN : MS N nv np := by rw [← hNe]; exact MS_kp hC k
      have hNo : ∀ i, i < 106 ∨ (106 < i ∧ i < 117) ∨ 122 < i → N i = M i := fun i hi => by rw [← hNe]; exact kpM_o hi
      refine Go_aload_n 1 rfl rfl dX9_road_38 ?_
      refine Go_getR (c' := 109) faX9_17 sh_106 (pt_106_3 (M := N) hN.1) dX9_road_39 ?_
      refine Go_bipush ⟨by decide, by unfold in32; omega⟩ dX9_road_42 ?_
      refine Go_iload_n 2 rfl rfl dX9_road_44 ?_
      refine Go_imuln 12 a rfl rfl (by omega) dX9_road_45 ?_
      refine Go_iload_n 3 rfl rfl dX9_road_46 ?_
      refine Go_iaddn (12 * a) b rfl rfl (by omega) dX9_road_47 ?_
      refine Go_iload_n 4 rfl rfl dX9_road_48 ?_
      refine Go_iastore ((12 * a) + b) sh_109 rfl (by omega) dX9_road_49 ?_
      refine Go_aload_n 1 rfl rfl dX9_road_50 ?_
      refine Go_getR (c' := 109) faX9_17 sh_106 (pt_106_3 (M := N) hN.1) dX9_road_51 ?_
      refine Go_bipush ⟨by decide, by unfold in32; omega⟩ dX9_road_54 ?_
      refine Go_iload_n 3 rfl rfl dX9_road_56 ?_
      refine Go_imuln 12 b rfl rfl (by omega) dX9_road_57 ?_
      refine Go_iload_n 2 rfl rfl dX9_road_58 ?_
      refine Go_iaddn (12 * b) a rfl rfl (by omega) dX9_road_59 ?_
      refine Go_iload_n 4 rfl rfl dX9_road_60 ?_
      refine Go_iastore ((12 * b) + a) sh_109 rfl (by omega) dX9_road_61 ?_
      refine Go_M (M2 := gSet N 109 (gUp (gUp (N 109) (12 * a + b) z) (12 * b + a) z)) (gSet_ss _ _ _ _) ?_
      refine Go_iload 0 rfl dX9_road_62 ?_
      exact Go_ret rfl dX9_road_64
  · skip
    replace h10 := bI_0.mp h10
    exact absurd ⟨⟨by omega, by omega⟩, ⟨by omega, by omega⟩, by omega, h⟩ h10
set_option maxHeartbeats 4000000 in
set_option maxRecDepth 100000 in
theorem pX9_place_bad {D : va_G} {ca : Nat → ClassId} {M : gMem} {nv np : Nat} (hC : MS M nv np) (v y z : Int) (h : ¬ ((0 ≤ v ∧ v ≤ (nv : Int) - 1) ∧ (0 ≤ y ∧ y ≤ 4) ∧ 0 ≤ z ∧ z ≤ 100000)) : Fn D ca mX9_place [gR 106, gI v, gI y, gI z] SH M [gI (-1)] SH (M) := by
  refine Fn_of okX9_place (Nat.le_of_ble_eq_true rfl) (Or.inr (Or.inl ⟨_, rfl, rfl⟩)) (Nat.le_refl _) (Nat.le_refl _) ?_
  refine Go_ls2 (ls' := [(0, gR 106), (1, gI _), (2, gI _), (3, gI _)]) rfl ?_
  have hv12 := hC.2.2.1
  have hn10 := hC.2.2.2.2
  refine Go_aload_n 0 rfl rfl dX9_place_0 ?_
  refine Go_iload_n 1 rfl rfl dX9_place_1 ?_
  refine Go_callVI (q := vwCl[9]) (fX9_isVillage hC _) cwX9_90 imX9_isVillage rfl rfl ⟨Nat.le_of_ble_eq_true rfl, Nat.le_of_ble_eq_true rfl⟩ sh_106 rfl (Nat.le_of_ble_eq_true rfl) sh_rf dX9_place_2 ?_
  refine Go_if_eq dX9_place_5 rfl (fun h5 => ?_) (fun h5 => ?_)
  · skip
    replace h5 := bI_0.mp h5
    refine Go_iconst (by unfold in32; omega) dX9_place_32 ?_
    exact Go_ret rfl dX9_place_33
  · skip
    replace h5 := bI_n.mp h5
    refine Go_iload_n 2 rfl rfl dX9_place_8 ?_
    refine Go_i2l dX9_place_9 ?_
    refine Go_lconst (v := 0) ⟨rfl, by unfold in64; omega⟩ dX9_place_10 ?_
    refine Go_ldc2 klX9_97 (by unfold in64; omega) dX9_place_11 ?_
    refine Go_callSI (fX9_in _ _ _) cwX9_81 smX9_in ⟨Nat.le_of_ble_eq_true rfl, Nat.le_of_ble_eq_true rfl⟩ rfl (Nat.le_of_ble_eq_true rfl) sh_rf dX9_place_14 ?_
    refine Go_if_eq dX9_place_17 rfl (fun h17 => ?_) (fun h17 => ?_)
    · skip
      replace h17 := bI_0.mp h17
      refine Go_iconst (by unfold in32; omega) dX9_place_32 ?_
      exact Go_ret rfl dX9_place_33
    · skip
      replace h17 := bI_n.mp h17
      refine Go_iload_n 3 rfl rfl dX9_place_20 ?_
      refine Go_i2l dX9_place_21 ?_
      refine Go_lconst (v := 0) ⟨rfl, by unfold in64; omega⟩ dX9_place_22 ?_
      refine Go_ldc2 klX9_99 (by unfold in64; omega) dX9_place_23 ?_
      refine Go_callSI (fX9_in _ _ _) cwX9_81 smX9_in ⟨Nat.le_of_ble_eq_true rfl, Nat.le_of_ble_eq_true rfl⟩ rfl (Nat.le_of_ble_eq_true rfl) sh_rf dX9_place_26 ?_
      refine Go_if_ne dX9_place_29 rfl (fun h29 => ?_) (fun h29 => ?_)
      · skip
        replace h29 := bI_n.mp h29
        exact absurd ⟨h5, h17, h29⟩ h
      · skip
        replace h29 := bI_0.mp h29
        refine Go_iconst (by unfold in32; omega) dX9_place_32 ?_
        exact Go_ret rfl dX9_place_33
set_option maxHeartbeats 4000000 in
set_option maxRecDepth 100000 in
theorem pX9_place_full {D : va_G} {ca : Nat → ClassId} {M : gMem} {nv np : Nat} (hC : MS M nv np) (v y z : Int) (h : (0 ≤ v ∧ v ≤ (nv : Int) - 1) ∧ (0 ≤ y ∧ y ≤ 4) ∧ 0 ≤ z ∧ z ≤ 100000) (hf : ¬ np < 10) : Fn D ca mX9_place [gR 106, gI v, gI y, gI z] SH M [gI (-3)] SH (M) := by
  refine Fn_of okX9_place (Nat.le_of_ble_eq_true rfl) (Or.inr (Or.inl ⟨_, rfl, rfl⟩)) (Nat.le_refl _) (Nat.le_refl _) ?_
  refine Go_ls2 (ls' := [(0, gR 106), (1, gI _), (2, gI _), (3, gI _)]) rfl ?_
  have hv12 := hC.2.2.1
  have hn10 := hC.2.2.2.2
  refine Go_aload_n 0 rfl rfl dX9_place_0 ?_
  refine Go_iload_n 1 rfl rfl dX9_place_1 ?_
  refine Go_callVI (q := vwCl[9]) (fX9_isVillage hC _) cwX9_90 imX9_isVillage rfl rfl ⟨Nat.le_of_ble_eq_true rfl, Nat.le_of_ble_eq_true rfl⟩ sh_106 rfl (Nat.le_of_ble_eq_true rfl) sh_rf dX9_place_2 ?_
  refine Go_if_eq dX9_place_5 rfl (fun h5 => ?_) (fun h5 => ?_)
  · skip
    replace h5 := bI_0.mp h5
    exact absurd h.1 h5
  · skip
    replace h5 := bI_n.mp h5
    refine Go_iload_n 2 rfl rfl dX9_place_8 ?_
    refine Go_i2l dX9_place_9 ?_
    refine Go_lconst (v := 0) ⟨rfl, by unfold in64; omega⟩ dX9_place_10 ?_
    refine Go_ldc2 klX9_97 (by unfold in64; omega) dX9_place_11 ?_
    refine Go_callSI (fX9_in _ _ _) cwX9_81 smX9_in ⟨Nat.le_of_ble_eq_true rfl, Nat.le_of_ble_eq_true rfl⟩ rfl (Nat.le_of_ble_eq_true rfl) sh_rf dX9_place_14 ?_
    refine Go_if_eq dX9_place_17 rfl (fun h17 => ?_) (fun h17 => ?_)
    · skip
      replace h17 := bI_0.mp h17
      exact absurd h.2.1 h17
    · skip
      replace h17 := bI_n.mp h17
      refine Go_iload_n 3 rfl rfl dX9_place_20 ?_
      refine Go_i2l dX9_place_21 ?_
      refine Go_lconst (v := 0) ⟨rfl, by unfold in64; omega⟩ dX9_place_22 ?_
      refine Go_ldc2 klX9_99 (by unfold in64; omega) dX9_place_23 ?_
      refine Go_callSI (fX9_in _ _ _) cwX9_81 smX9_in ⟨Nat.le_of_ble_eq_true rfl, Nat.le_of_ble_eq_true rfl⟩ rfl (Nat.le_of_ble_eq_true rfl) sh_rf dX9_place_26 ?_
      refine Go_if_ne dX9_place_29 rfl (fun h29 => ?_) (fun h29 => ?_)
      · skip
        replace h29 := bI_n.mp h29
        refine Go_aload_n 0 rfl rfl dX9_place_34 ?_
        refine Go_getIv (v := (np : Int)) hC.2.2.2.1 faX9_78 sh_106 dX9_place_35 ?_
        refine Go_bipush ⟨by decide, by unfold in32; omega⟩ dX9_place_38 ?_
        refine Go_icmp_ne dX9_place_40 rfl (fun h40 => ?_) (fun h40 => ?_)
        · skip
          exfalso; omega
        · skip
          refine Go_bipush ⟨by decide, by unfold in32; omega⟩ dX9_place_43 ?_
          exact Go_ret rfl dX9_place_45
      · skip
        replace h29 := bI_0.mp h29
        exact absurd h.2.2 h29
set_option maxHeartbeats 4000000 in
set_option maxRecDepth 100000 in
theorem pX9_place {D : va_G} {ca : Nat → ClassId} {M : gMem} {nv np : Nat} (hC : MS M nv np) (k : Nat) (hk : M 106 13 = (k : Int)) (hk2 : k ≤ 10) (v y z : Int) (h : (0 ≤ v ∧ v ≤ (nv : Int) - 1) ∧ (0 ≤ y ∧ y ≤ 4) ∧ 0 ≤ z ∧ z ≤ 100000) (hf : np < 10) : Fn D ca mX9_place [gR 106, gI v, gI y, gI z] SH M [gI (np : Int)] SH (pcM (kpM M k) np v y z) := by
  refine Fn_of okX9_place (Nat.le_of_ble_eq_true rfl) (Or.inr (Or.inl ⟨_, rfl, rfl⟩)) (Nat.le_refl _) (Nat.le_refl _) ?_
  refine Go_ls2 (ls' := [(0, gR 106), (1, gI _), (2, gI _), (3, gI _)]) rfl ?_
  have hv12 := hC.2.2.1
  have hn10 := hC.2.2.2.2
  refine Go_aload_n 0 rfl rfl dX9_place_0 ?_
  refine Go_iload_n 1 rfl rfl dX9_place_1 ?_
  refine Go_callVI (q := vwCl[9]) (fX9_isVillage hC _) cwX9_90 imX9_isVillage rfl rfl ⟨Nat.le_of_ble_eq_true rfl, Nat.le_of_ble_eq_true rfl⟩ sh_106 rfl (Nat.le_of_ble_eq_true rfl) sh_rf dX9_place_2 ?_
  refine Go_if_eq dX9_place_5 rfl (fun h5 => ?_) (fun h5 => ?_)
  · skip
    replace h5 := bI_0.mp h5
    exact absurd h.1 h5
  · skip
    replace h5 := bI_n.mp h5
    refine Go_iload_n 2 rfl rfl dX9_place_8 ?_
    refine Go_i2l dX9_place_9 ?_
    refine Go_lconst (v := 0) ⟨rfl, by unfold in64; omega⟩ dX9_place_10 ?_
    refine Go_ldc2 klX9_97 (by unfold in64; omega) dX9_place_11 ?_
    refine Go_callSI (fX9_in _ _ _) cwX9_81 smX9_in ⟨Nat.le_of_ble_eq_true rfl, Nat.le_of_ble_eq_true rfl⟩ rfl (Nat.le_of_ble_eq_true rfl) sh_rf dX9_place_14 ?_
    refine Go_if_eq dX9_place_17 rfl (fun h17 => ?_) (fun h17 => ?_)
    · skip
      replace h17 := bI_0.mp h17
      exact absurd h.2.1 h17
    · skip
      replace h17 := bI_n.mp h17
      refine Go_iload_n 3 rfl rfl dX9_place_20 ?_
      refine Go_i2l dX9_place_21 ?_
      refine Go_lconst (v := 0) ⟨rfl, by unfold in64; omega⟩ dX9_place_22 ?_
      refine Go_ldc2 klX9_99 (by unfold in64; omega) dX9_place_23 ?_
      refine Go_callSI (fX9_in _ _ _) cwX9_81 smX9_in ⟨Nat.le_of_ble_eq_true rfl, Nat.le_of_ble_eq_true rfl⟩ rfl (Nat.le_of_ble_eq_true rfl) sh_rf dX9_place_26 ?_
      refine Go_if_ne dX9_place_29 rfl (fun h29 => ?_) (fun h29 => ?_)
      · skip
        replace h29 := bI_n.mp h29
        refine Go_aload_n 0 rfl rfl dX9_place_34 ?_
        refine Go_getIv (v := (np : Int)) hC.2.2.2.1 faX9_78 sh_106 dX9_place_35 ?_
        refine Go_bipush ⟨by decide, by unfold in32; omega⟩ dX9_place_38 ?_
        refine Go_icmp_ne dX9_place_40 rfl (fun h40 => ?_) (fun h40 => ?_)
        · skip
          refine Go_aload_n 0 rfl rfl dX9_place_46 ?_
          refine Go_callV0 (q := vwCl[9]) (fX9_keep hC k hk hk2) cwX9_87 imX9_keep rfl rfl ⟨Nat.le_of_ble_eq_true rfl, Nat.le_of_ble_eq_true rfl⟩ sh_106 rfl (Nat.le_of_ble_eq_true rfl) sh_rf dX9_place_47 ?_
          generalize hNe : kpM M k = N
          have hN : MS N nv np := by rw [← hNe]; exact MS_kp hC k
          have hNo : ∀ i, i < 106 ∨ (106 < i ∧ i < 117) ∨ 122 < i → N i = M i := fun i hi => by rw [← hNe]; exact kpM_o hi
          refine Go_aload_n 0 rfl rfl dX9_place_50 ?_
          refine Go_getR (c' := 110) faX9_20 sh_106 (pt_106_5 (M := N) hN.1) dX9_place_51 ?_
          refine Go_aload_n 0 rfl rfl dX9_place_54 ?_
          refine Go_getIv (v := (np : Int)) hN.2.2.2.1 faX9_78 sh_106 dX9_place_55 ?_
          refine Go_iload_n 1 rfl rfl dX9_place_58 ?_
          refine Go_iastore np sh_110 rfl (by omega) dX9_place_59 ?_
          refine Go_aload_n 0 rfl rfl dX9_place_60 ?_
          refine Go_getR (c' := 111) faX9_23 sh_106 (pt_106_6 (M := N) hN.1) dX9_place_61 ?_
          refine Go_aload_n 0 rfl rfl dX9_place_64 ?_
          refine Go_getIv (v := (np : Int)) hN.2.2.2.1 faX9_78 sh_106 dX9_place_65 ?_
          refine Go_iload_n 2 rfl rfl dX9_place_68 ?_
          refine Go_iastore np sh_111 rfl (by omega) dX9_place_69 ?_
          refine Go_aload_n 0 rfl rfl dX9_place_70 ?_
          refine Go_getR (c' := 112) faX9_26 sh_106 (pt_106_7 (M := N) hN.1) dX9_place_71 ?_
          refine Go_aload_n 0 rfl rfl dX9_place_74 ?_
          refine Go_getIv (v := (np : Int)) hN.2.2.2.1 faX9_78 sh_106 dX9_place_75 ?_
          refine Go_iload_n 3 rfl rfl dX9_place_78 ?_
          refine Go_iastore np sh_112 rfl (by omega) dX9_place_79 ?_
          refine Go_aload_n 0 rfl rfl dX9_place_80 ?_
          refine Go_getR (c' := 113) faX9_29 sh_106 (pt_106_8 (M := N) hN.1) dX9_place_81 ?_
          refine Go_aload_n 0 rfl rfl dX9_place_84 ?_
          refine Go_getIv (v := (np : Int)) hN.2.2.2.1 faX9_78 sh_106 dX9_place_85 ?_
          refine Go_bipush ⟨by decide, by unfold in32; omega⟩ dX9_place_88 ?_
          refine Go_iastore np sh_113 rfl (by omega) dX9_place_90 ?_
          refine Go_aload_n 0 rfl rfl dX9_place_91 ?_
          refine Go_dupR dX9_place_92 ?_
          refine Go_getIv (v := (np : Int)) hN.2.2.2.1 faX9_78 sh_106 dX9_place_93 ?_
          refine Go_iconst (by unfold in32; omega) dX9_place_96 ?_
          refine Go_iaddn np 1 rfl rfl (by omega) dX9_place_97 ?_
          refine Go_putI fpX9_78 sh_106 dX9_place_98 ?_
          refine Go_aload_n 0 rfl rfl dX9_place_101 ?_
          refine Go_getIv (v := ((np + 1 : Nat) : Int)) rfl faX9_78 sh_106 dX9_place_102 ?_
          refine Go_iconst (by unfold in32; omega) dX9_place_105 ?_
          refine Go_isubn (np + 1) 1 rfl rfl (by omega) dX9_place_106 ?_
          exact Go_ret rfl dX9_place_107
        · skip
          exfalso; omega
      · skip
        replace h29 := bI_0.mp h29
        exact absurd h.2.2 h29
set_option maxHeartbeats 4000000 in
set_option maxRecDepth 100000 in
theorem pX9_reach_bad {D : va_G} {ca : Nat → ClassId} {M : gMem} {nv np : Nat} (hC : MS M nv np) (p x : Int) (h : ¬ ((0 ≤ p ∧ p ≤ (np : Int) - 1) ∧ 0 ≤ x ∧ x ≤ 12000)) : Fn D ca mX9_reach [gR 106, gI p, gI x] SH M [gI (-1)] SH (M) := by
  refine Fn_of okX9_reach (Nat.le_of_ble_eq_true rfl) (Or.inr (Or.inl ⟨_, rfl, rfl⟩)) (Nat.le_refl _) (Nat.le_refl _) ?_
  refine Go_ls2 (ls' := [(0, gR 106), (1, gI _), (2, gI _)]) rfl ?_
  have hv12 := hC.2.2.1
  have hn10 := hC.2.2.2.2
  refine Go_aload_n 0 rfl rfl dX9_reach_0 ?_
  refine Go_iload_n 1 rfl rfl dX9_reach_1 ?_
  refine Go_callVI (q := vwCl[9]) (fX9_isPlace hC _) cwX9_101 imX9_isPlace rfl rfl ⟨Nat.le_of_ble_eq_true rfl, Nat.le_of_ble_eq_true rfl⟩ sh_106 rfl (Nat.le_of_ble_eq_true rfl) sh_rf dX9_reach_2 ?_
  refine Go_if_eq dX9_reach_5 rfl (fun h5 => ?_) (fun h5 => ?_)
  · skip
    replace h5 := bI_0.mp h5
    refine Go_iconst (by unfold in32; omega) dX9_reach_20 ?_
    exact Go_ret rfl dX9_reach_21
  · skip
    replace h5 := bI_n.mp h5
    refine Go_iload_n 2 rfl rfl dX9_reach_8 ?_
    refine Go_i2l dX9_reach_9 ?_
    refine Go_lconst (v := 0) ⟨rfl, by unfold in64; omega⟩ dX9_reach_10 ?_
    refine Go_ldc2 klX9_104 (by unfold in64; omega) dX9_reach_11 ?_
    refine Go_callSI (fX9_in _ _ _) cwX9_81 smX9_in ⟨Nat.le_of_ble_eq_true rfl, Nat.le_of_ble_eq_true rfl⟩ rfl (Nat.le_of_ble_eq_true rfl) sh_rf dX9_reach_14 ?_
    refine Go_if_ne dX9_reach_17 rfl (fun h17 => ?_) (fun h17 => ?_)
    · skip
      replace h17 := bI_n.mp h17
      exact absurd ⟨h5, h17⟩ h
    · skip
      replace h17 := bI_0.mp h17
      refine Go_iconst (by unfold in32; omega) dX9_reach_20 ?_
      exact Go_ret rfl dX9_reach_21
set_option maxHeartbeats 4000000 in
set_option maxRecDepth 100000 in
theorem pX9_reach_st {D : va_G} {ca : Nat → ClassId} {M : gMem} {nv np : Nat} (hC : MS M nv np) (p : Nat) (hp : p < np) (x : Int) (h : 0 ≤ x ∧ x ≤ 12000) (h4 : M 111 p ≠ 4) : Fn D ca mX9_reach [gR 106, gI (p : Int), gI x] SH M [gI (-2)] SH (M) := by
  refine Fn_of okX9_reach (Nat.le_of_ble_eq_true rfl) (Or.inr (Or.inl ⟨_, rfl, rfl⟩)) (Nat.le_refl _) (Nat.le_refl _) ?_
  refine Go_ls2 (ls' := [(0, gR 106), (1, gI _), (2, gI _)]) rfl ?_
  have hv12 := hC.2.2.1
  have hn10 := hC.2.2.2.2
  refine Go_aload_n 0 rfl rfl dX9_reach_0 ?_
  refine Go_iload_n 1 rfl rfl dX9_reach_1 ?_
  refine Go_callVI (q := vwCl[9]) (fX9_isPlace hC _) cwX9_101 imX9_isPlace rfl rfl ⟨Nat.le_of_ble_eq_true rfl, Nat.le_of_ble_eq_true rfl⟩ sh_106 rfl (Nat.le_of_ble_eq_true rfl) sh_rf dX9_reach_2 ?_
  refine Go_if_eq dX9_reach_5 rfl (fun h5 => ?_) (fun h5 => ?_)
  · skip
    replace h5 := bI_0.mp h5
    exfalso; omega
  · skip
    replace h5 := bI_n.mp h5
    refine Go_iload_n 2 rfl rfl dX9_reach_8 ?_
    refine Go_i2l dX9_reach_9 ?_
    refine Go_lconst (v := 0) ⟨rfl, by unfold in64; omega⟩ dX9_reach_10 ?_
    refine Go_ldc2 klX9_104 (by unfold in64; omega) dX9_reach_11 ?_
    refine Go_callSI (fX9_in _ _ _) cwX9_81 smX9_in ⟨Nat.le_of_ble_eq_true rfl, Nat.le_of_ble_eq_true rfl⟩ rfl (Nat.le_of_ble_eq_true rfl) sh_rf dX9_reach_14 ?_
    refine Go_if_ne dX9_reach_17 rfl (fun h17 => ?_) (fun h17 => ?_)
    · skip
      replace h17 := bI_n.mp h17
      refine Go_aload_n 0 rfl rfl dX9_reach_22 ?_
      refine Go_getR (c' := 111) faX9_23 sh_106 (pt_106_6 (M := M) hC.1) dX9_reach_23 ?_
      refine Go_iload_n 1 rfl rfl dX9_reach_26 ?_
      refine Go_ialoadv p (v := M 111 (p)) rfl sh_111 rfl (by omega) dX9_reach_27 ?_
      refine Go_iconst (by unfold in32; omega) dX9_reach_28 ?_
      refine Go_icmp_eq dX9_reach_29 rfl (fun h29 => ?_) (fun h29 => ?_)
      · skip
        exact absurd h29 h4
      · skip
        refine Go_bipush ⟨by decide, by unfold in32; omega⟩ dX9_reach_32 ?_
        exact Go_ret rfl dX9_reach_34
    · skip
      replace h17 := bI_0.mp h17
      exact absurd h h17
set_option maxHeartbeats 4000000 in
set_option maxRecDepth 100000 in
theorem pX9_reach_same {D : va_G} {ca : Nat → ClassId} {M : gMem} {nv np : Nat} (hC : MS M nv np) (p : Nat) (hp : p < np) (x : Int) (h : 0 ≤ x ∧ x ≤ 12000) (h4 : M 111 p = 4) (hs : M 113 p = x) : Fn D ca mX9_reach [gR 106, gI (p : Int), gI x] SH M [gI (M 113 p)] SH (M) := by
  refine Fn_of okX9_reach (Nat.le_of_ble_eq_true rfl) (Or.inr (Or.inl ⟨_, rfl, rfl⟩)) (Nat.le_refl _) (Nat.le_refl _) ?_
  refine Go_ls2 (ls' := [(0, gR 106), (1, gI _), (2, gI _)]) rfl ?_
  have hv12 := hC.2.2.1
  have hn10 := hC.2.2.2.2
  refine Go_aload_n 0 rfl rfl dX9_reach_0 ?_
  refine Go_iload_n 1 rfl rfl dX9_reach_1 ?_
  refine Go_callVI (q := vwCl[9]) (fX9_isPlace hC _) cwX9_101 imX9_isPlace rfl rfl ⟨Nat.le_of_ble_eq_true rfl, Nat.le_of_ble_eq_true rfl⟩ sh_106 rfl (Nat.le_of_ble_eq_true rfl) sh_rf dX9_reach_2 ?_
  refine Go_if_eq dX9_reach_5 rfl (fun h5 => ?_) (fun h5 => ?_)
  · skip
    replace h5 := bI_0.mp h5
    exfalso; omega
  · skip
    replace h5 := bI_n.mp h5
    refine Go_iload_n 2 rfl rfl dX9_reach_8 ?_
    refine Go_i2l dX9_reach_9 ?_
    refine Go_lconst (v := 0) ⟨rfl, by unfold in64; omega⟩ dX9_reach_10 ?_
    refine Go_ldc2 klX9_104 (by unfold in64; omega) dX9_reach_11 ?_
    refine Go_callSI (fX9_in _ _ _) cwX9_81 smX9_in ⟨Nat.le_of_ble_eq_true rfl, Nat.le_of_ble_eq_true rfl⟩ rfl (Nat.le_of_ble_eq_true rfl) sh_rf dX9_reach_14 ?_
    refine Go_if_ne dX9_reach_17 rfl (fun h17 => ?_) (fun h17 => ?_)
    · skip
      replace h17 := bI_n.mp h17
      refine Go_aload_n 0 rfl rfl dX9_reach_22 ?_
      refine Go_getR (c' := 111) faX9_23 sh_106 (pt_106_6 (M := M) hC.1) dX9_reach_23 ?_
      refine Go_iload_n 1 rfl rfl dX9_reach_26 ?_
      refine Go_ialoadv p (v := M 111 (p)) rfl sh_111 rfl (by omega) dX9_reach_27 ?_
      refine Go_iconst (by unfold in32; omega) dX9_reach_28 ?_
      refine Go_icmp_eq dX9_reach_29 rfl (fun h29 => ?_) (fun h29 => ?_)
      · skip
        refine Go_aload_n 0 rfl rfl dX9_reach_35 ?_
        refine Go_getR (c' := 113) faX9_29 sh_106 (pt_106_8 (M := M) hC.1) dX9_reach_36 ?_
        refine Go_iload_n 1 rfl rfl dX9_reach_39 ?_
        refine Go_ialoadv p (v := M 113 (p)) rfl sh_113 rfl (by omega) dX9_reach_40 ?_
        refine Go_istore_n (ls' := [(3, gI _), (0, gR 106), (1, gI _), (2, gI _)]) rfl dX9_reach_41 (by decide) rfl ?_
        refine Go_iload_n 0 rfl rfl dX9_reach_42 ?_
        refine Go_iload_n 3 rfl rfl dX9_reach_43 ?_
        refine Go_icmp_eq dX9_reach_44 rfl (fun h44 => ?_) (fun h44 => ?_)
        · skip
          refine Go_iload_n 0 rfl rfl dX9_reach_58 ?_
          exact Go_ret rfl dX9_reach_59
        · skip
          exact absurd hs h44
      · skip
        exact absurd h4 h29
    · skip
      replace h17 := bI_0.mp h17
      exact absurd h h17
set_option maxHeartbeats 4000000 in
set_option maxRecDepth 100000 in
theorem pX9_reach {D : va_G} {ca : Nat → ClassId} {M : gMem} {nv np : Nat} (hC : MS M nv np) (k : Nat) (hk : M 106 13 = (k : Int)) (hk2 : k ≤ 10) (p : Nat) (hp : p < np) (x : Int) (h : 0 ≤ x ∧ x ≤ 12000) (h4 : M 111 p = 4) (hs : ¬ M 113 p = x) : Fn D ca mX9_reach [gR 106, gI (p : Int), gI x] SH M [gI (M 113 p)] SH (gSet (kpM M k) 113 (gUp ((kpM M k) 113) p x)) := by
  refine Fn_of okX9_reach (Nat.le_of_ble_eq_true rfl) (Or.inr (Or.inl ⟨_, rfl, rfl⟩)) (Nat.le_refl _) (Nat.le_refl _) ?_
  refine Go_ls2 (ls' := [(0, gR 106), (1, gI _), (2, gI _)]) rfl ?_
  have hv12 := hC.2.2.1
  have hn10 := hC.2.2.2.2
  refine Go_aload_n 0 rfl rfl dX9_reach_0 ?_
  refine Go_iload_n 1 rfl rfl dX9_reach_1 ?_
  refine Go_callVI (q := vwCl[9]) (fX9_isPlace hC _) cwX9_101 imX9_isPlace rfl rfl ⟨Nat.le_of_ble_eq_true rfl, Nat.le_of_ble_eq_true rfl⟩ sh_106 rfl (Nat.le_of_ble_eq_true rfl) sh_rf dX9_reach_2 ?_
  refine Go_if_eq dX9_reach_5 rfl (fun h5 => ?_) (fun h5 => ?_)
  · skip
    replace h5 := bI_0.mp h5
    exfalso; omega
  · skip
    replace h5 := bI_n.mp h5
    refine Go_iload_n 2 rfl rfl dX9_reach_8 ?_
    refine Go_i2l dX9_reach_9 ?_
    refine Go_lconst (v := 0) ⟨rfl, by unfold in64; omega⟩ dX9_reach_10 ?_
    refine Go_ldc2 klX9_104 (by unfold in64; omega) dX9_reach_11 ?_
    refine Go_callSI (fX9_in _ _ _) cwX9_81 smX9_in ⟨Nat.le_of_ble_eq_true rfl, Nat.le_of_ble_eq_true rfl⟩ rfl (Nat.le_of_ble_eq_true rfl) sh_rf dX9_reach_14 ?_
    refine Go_if_ne dX9_reach_17 rfl (fun h17 => ?_) (fun h17 => ?_)
    · skip
      replace h17 := bI_n.mp h17
      refine Go_aload_n 0 rfl rfl dX9_reach_22 ?_
      refine Go_getR (c' := 111) faX9_23 sh_106 (pt_106_6 (M := M) hC.1) dX9_reach_23 ?_
      refine Go_iload_n 1 rfl rfl dX9_reach_26 ?_
      refine Go_ialoadv p (v := M 111 (p)) rfl sh_111 rfl (by omega) dX9_reach_27 ?_
      refine Go_iconst (by unfold in32; omega) dX9_reach_28 ?_
      refine Go_icmp_eq dX9_reach_29 rfl (fun h29 => ?_) (fun h29 => ?_)
      · skip
        refine Go_aload_n 0 rfl rfl dX9_reach_35 ?_
        refine Go_getR (c' := 113) faX9_29 sh_106 (pt_106_8 (M := M) hC.1) dX9_reach_36 ?_
        refine Go_iload_n 1 rfl rfl dX9_reach_39 ?_
        refine Go_ialoadv p (v := M 113 (p)) rfl sh_113 rfl (by omega) dX9_reach_40 ?_
        refine Go_istore_n (ls' := [(3, gI _), (0, gR 106), (1, gI _), (2, gI _)]) rfl dX9_reach_41 (by decide) rfl ?_
        refine Go_iload_n 0 rfl rfl dX9_reach_42 ?_
        refine Go_iload_n 3 rfl rfl dX9_reach_43 ?_
        refine Go_icmp_eq dX9_reach_44 rfl (fun h44 => ?_) (fun h44 => ?_)
        · skip
          exact absurd h44 hs
        · skip
          refine Go_aload_n 1 rfl rfl dX9_reach_47 ?_
          refine Go_callV0 (q := vwCl[9]) (fX9_keep hC k hk hk2) cwX9_87 imX9_keep rfl rfl ⟨Nat.le_of_ble_eq_true rfl, Nat.le_of_ble_eq_true rfl⟩ sh_106 rfl (Nat.le_of_ble_eq_true rfl) sh_rf dX9_reach_48 ?_
          generalize hNe : kpM M k = N
          have hN : MS N nv np := by rw [← hNe]; exact MS_kp hC k
          have hNo : ∀ i, i < 106 ∨ (106 < i ∧ i < 117) ∨ 122 < i → N i = M i := fun i hi => by rw [← hNe]; exact kpM_o hi
          refine Go_aload_n 1 rfl rfl dX9_reach_51 ?_
          refine Go_getR (c' := 113) faX9_29 sh_106 (pt_106_8 (M := N) hN.1) dX9_reach_52 ?_
          refine Go_iload_n 2 rfl rfl dX9_reach_55 ?_
          refine Go_iload_n 3 rfl rfl dX9_reach_56 ?_
          refine Go_iastore p sh_113 rfl (by omega) dX9_reach_57 ?_
          refine Go_iload_n 0 rfl rfl dX9_reach_58 ?_
          exact Go_ret rfl dX9_reach_59
      · skip
        exact absurd h4 h29
    · skip
      replace h17 := bI_0.mp h17
      exact absurd h h17
set_option maxHeartbeats 4000000 in
set_option maxRecDepth 100000 in
theorem pX9_number_bad {D : va_G} {ca : Nat → ClassId} {M : gMem} {nv np : Nat} (hC : MS M nv np) (x : Int) (h : ¬ (0 ≤ x ∧ x ≤ 20)) : Fn D ca mX9_number [gR 106, gI x] SH M [gI (-1)] SH (M) := by
  refine Fn_of okX9_number (Nat.le_of_ble_eq_true rfl) (Or.inr (Or.inl ⟨_, rfl, rfl⟩)) (Nat.le_refl _) (Nat.le_refl _) ?_
  refine Go_ls2 (ls' := [(0, gR 106), (1, gI _)]) rfl ?_
  have hv12 := hC.2.2.1
  have hn10 := hC.2.2.2.2
  refine Go_iload_n 1 rfl rfl dX9_number_0 ?_
  refine Go_i2l dX9_number_1 ?_
  refine Go_lconst (v := 0) ⟨rfl, by unfold in64; omega⟩ dX9_number_2 ?_
  refine Go_ldc2 klX9_106 (by unfold in64; omega) dX9_number_3 ?_
  refine Go_callSI (fX9_in _ _ _) cwX9_81 smX9_in ⟨Nat.le_of_ble_eq_true rfl, Nat.le_of_ble_eq_true rfl⟩ rfl (Nat.le_of_ble_eq_true rfl) sh_rf dX9_number_6 ?_
  refine Go_if_ne dX9_number_9 rfl (fun h9 => ?_) (fun h9 => ?_)
  · skip
    replace h9 := bI_n.mp h9
    exact absurd h9 h
  · skip
    replace h9 := bI_0.mp h9
    refine Go_iconst (by unfold in32; omega) dX9_number_12 ?_
    exact Go_ret rfl dX9_number_13
set_option maxHeartbeats 4000000 in
set_option maxRecDepth 100000 in
theorem pX9_number_same {D : va_G} {ca : Nat → ClassId} {M : gMem} {nv np : Nat} (hC : MS M nv np) (x : Int) (h : 0 ≤ x ∧ x ≤ 20) (hs : M 106 9 = x) : Fn D ca mX9_number [gR 106, gI x] SH M [gI (M 106 9)] SH (M) := by
  refine Fn_of okX9_number (Nat.le_of_ble_eq_true rfl) (Or.inr (Or.inl ⟨_, rfl, rfl⟩)) (Nat.le_refl _) (Nat.le_refl _) ?_
  refine Go_ls2 (ls' := [(0, gR 106), (1, gI _)]) rfl ?_
  have hv12 := hC.2.2.1
  have hn10 := hC.2.2.2.2
  refine Go_iload_n 1 rfl rfl dX9_number_0 ?_
  refine Go_i2l dX9_number_1 ?_
  refine Go_lconst (v := 0) ⟨rfl, by unfold in64; omega⟩ dX9_number_2 ?_
  refine Go_ldc2 klX9_106 (by unfold in64; omega) dX9_number_3 ?_
  refine Go_callSI (fX9_in _ _ _) cwX9_81 smX9_in ⟨Nat.le_of_ble_eq_true rfl, Nat.le_of_ble_eq_true rfl⟩ rfl (Nat.le_of_ble_eq_true rfl) sh_rf dX9_number_6 ?_
  refine Go_if_ne dX9_number_9 rfl (fun h9 => ?_) (fun h9 => ?_)
  · skip
    replace h9 := bI_n.mp h9
    refine Go_aload_n 0 rfl rfl dX9_number_14 ?_
    refine Go_getIv (v := M 106 9) rfl faX9_32 sh_106 dX9_number_15 ?_
    refine Go_istore_n (ls' := [(2, gI _), (0, gR 106), (1, gI _)]) rfl dX9_number_18 (by decide) rfl ?_
    refine Go_iload_n 0 rfl rfl dX9_number_19 ?_
    refine Go_iload_n 2 rfl rfl dX9_number_20 ?_
    refine Go_icmp_eq dX9_number_21 rfl (fun h21 => ?_) (fun h21 => ?_)
    · skip
      refine Go_iload_n 0 rfl rfl dX9_number_33 ?_
      exact Go_ret rfl dX9_number_34
    · skip
      exact absurd hs h21
  · skip
    replace h9 := bI_0.mp h9
    exact absurd h h9
set_option maxHeartbeats 4000000 in
set_option maxRecDepth 100000 in
theorem pX9_number {D : va_G} {ca : Nat → ClassId} {M : gMem} {nv np : Nat} (hC : MS M nv np) (k : Nat) (hk : M 106 13 = (k : Int)) (hk2 : k ≤ 10) (x : Int) (h : 0 ≤ x ∧ x ≤ 20) (hs : ¬ M 106 9 = x) : Fn D ca mX9_number [gR 106, gI x] SH M [gI (M 106 9)] SH (gSet (kpM M k) 106 (gUp ((kpM M k) 106) 9 x)) := by
  refine Fn_of okX9_number (Nat.le_of_ble_eq_true rfl) (Or.inr (Or.inl ⟨_, rfl, rfl⟩)) (Nat.le_refl _) (Nat.le_refl _) ?_
  refine Go_ls2 (ls' := [(0, gR 106), (1, gI _)]) rfl ?_
  have hv12 := hC.2.2.1
  have hn10 := hC.2.2.2.2
  refine Go_iload_n 1 rfl rfl dX9_number_0 ?_
  refine Go_i2l dX9_number_1 ?_
  refine Go_lconst (v := 0) ⟨rfl, by unfold in64; omega⟩ dX9_number_2 ?_
  refine Go_ldc2 klX9_106 (by unfold in64; omega) dX9_number_3 ?_
  refine Go_callSI (fX9_in _ _ _) cwX9_81 smX9_in ⟨Nat.le_of_ble_eq_true rfl, Nat.le_of_ble_eq_true rfl⟩ rfl (Nat.le_of_ble_eq_true rfl) sh_rf dX9_number_6 ?_
  refine Go_if_ne dX9_number_9 rfl (fun h9 => ?_) (fun h9 => ?_)
  · skip
    replace h9 := bI_n.mp h9
    refine Go_aload_n 0 rfl rfl dX9_number_14 ?_
    refine Go_getIv (v := M 106 9) rfl faX9_32 sh_106 dX9_number_15 ?_
    refine Go_istore_n (ls' := [(2, gI _), (0, gR 106), (1, gI _)]) rfl dX9_number_18 (by decide) rfl ?_
    refine Go_iload_n 0 rfl rfl dX9_number_19 ?_
    refine Go_iload_n 2 rfl rfl dX9_number_20 ?_
    refine Go_icmp_eq dX9_number_21 rfl (fun h21 => ?_) (fun h21 => ?_)
    · skip
      exact absurd h21 hs
    · skip
      refine Go_aload_n 1 rfl rfl dX9_number_24 ?_
      refine Go_callV0 (q := vwCl[9]) (fX9_keep hC k hk hk2) cwX9_87 imX9_keep rfl rfl ⟨Nat.le_of_ble_eq_true rfl, Nat.le_of_ble_eq_true rfl⟩ sh_106 rfl (Nat.le_of_ble_eq_true rfl) sh_rf dX9_number_25 ?_
      generalize hNe : kpM M k = N
      have hN : MS N nv np := by rw [← hNe]; exact MS_kp hC k
      have hNo : ∀ i, i < 106 ∨ (106 < i ∧ i < 117) ∨ 122 < i → N i = M i := fun i hi => by rw [← hNe]; exact kpM_o hi
      refine Go_aload_n 1 rfl rfl dX9_number_28 ?_
      refine Go_iload_n 2 rfl rfl dX9_number_29 ?_
      refine Go_putI fpX9_32 sh_106 dX9_number_30 ?_
      refine Go_iload_n 0 rfl rfl dX9_number_33 ?_
      exact Go_ret rfl dX9_number_34
  · skip
    replace h9 := bI_0.mp h9
    exact absurd h h9
