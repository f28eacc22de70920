def zcS (b : Nat) (r : Nat → Int) : Nat → (Nat → Int)
  | 0 => r
  | i + 1 => gUp (zcS b r i) (b + i) 0
def mpM (M : gMem) (k : Nat) (z n : Int) : gMem := gSet (gSet (gSet M 114 (gUp (M 114) k z)) 115 (gUp (M 115) k n)) 116 (zcS (60 * k) (M 116) 60)
set_option maxHeartbeats 4000000 in
set_option maxRecDepth 100000 in
theorem pX9_map_bad {D : va_G} {ca : Nat → ClassId} {M : gMem} {nv np : Nat} (hC : MS M nv np) (k z n : Int) (h : ¬ ((0 ≤ k ∧ k ≤ 3) ∧ (0 ≤ z ∧ z ≤ 2) ∧ n ≤ 60)) : Fn D ca mX9_map [gR 106, gI k, gI z, gI n] SH M [gI (-1)] SH (M) := by
  refine Fn_of okX9_map (Nat.le_of_ble_eq_true rfl) (Or.inr (Or.inl ⟨_, rfl, rfl⟩)) (Nat.le_refl _) (Nat.le_refl _) ?_
  refine Go_ls2 (ls' := [(0, gR 106), (1, gI _), (2, gI _), (3, gI _)]) rfl ?_
  have hv12 := hC.2.2.1
  have hn10 := hC.2.2.2.2
  refine Go_iload_n 1 rfl rfl dX9_map_0 ?_
  refine Go_i2l dX9_map_1 ?_
  refine Go_lconst (v := 0) ⟨rfl, by unfold in64; omega⟩ dX9_map_2 ?_
  refine Go_ldc2 klX9_108 (by unfold in64; omega) dX9_map_3 ?_
  refine Go_callSI (fX9_in _ _ _) cwX9_81 smX9_in ⟨Nat.le_of_ble_eq_true rfl, Nat.le_of_ble_eq_true rfl⟩ rfl (Nat.le_of_ble_eq_true rfl) sh_rf dX9_map_6 ?_
  refine Go_if_eq dX9_map_9 rfl (fun h9 => ?_) (fun h9 => ?_)
  · skip
    replace h9 := bI_0.mp h9
    refine Go_iconst (by unfold in32; omega) dX9_map_30 ?_
    exact Go_ret rfl dX9_map_31
  · skip
    replace h9 := bI_n.mp h9
    refine Go_iload_n 2 rfl rfl dX9_map_12 ?_
    refine Go_i2l dX9_map_13 ?_
    refine Go_lconst (v := 0) ⟨rfl, by unfold in64; omega⟩ dX9_map_14 ?_
    refine Go_ldc2 klX9_110 (by unfold in64; omega) dX9_map_15 ?_
    refine Go_callSI (fX9_in _ _ _) cwX9_81 smX9_in ⟨Nat.le_of_ble_eq_true rfl, Nat.le_of_ble_eq_true rfl⟩ rfl (Nat.le_of_ble_eq_true rfl) sh_rf dX9_map_18 ?_
    refine Go_if_eq dX9_map_21 rfl (fun h21 => ?_) (fun h21 => ?_)
    · skip
      replace h21 := bI_0.mp h21
      refine Go_iconst (by unfold in32; omega) dX9_map_30 ?_
      exact Go_ret rfl dX9_map_31
    · skip
      replace h21 := bI_n.mp h21
      refine Go_iload_n 3 rfl rfl dX9_map_24 ?_
      refine Go_bipush ⟨by decide, by unfold in32; omega⟩ dX9_map_25 ?_
      refine Go_icmp_le dX9_map_27 rfl (fun h27 => ?_) (fun h27 => ?_)
      · skip
        exact absurd ⟨h9, h21, h27⟩ h
      · skip
        refine Go_iconst (by unfold in32; omega) dX9_map_30 ?_
        exact Go_ret rfl dX9_map_31
set_option maxHeartbeats 4000000 in
set_option maxRecDepth 100000 in
theorem pX9_map_neg {D : va_G} {ca : Nat → ClassId} {M : gMem} {nv np : Nat} (hC : MS M nv np) (k z n : Int) (h : (0 ≤ k ∧ k ≤ 3) ∧ (0 ≤ z ∧ z ≤ 2) ∧ n < 0) : Fn D ca mX9_map [gR 106, gI k, gI z, gI n] SH M [gI (-14)] SH (M) := by
  refine Fn_of okX9_map (Nat.le_of_ble_eq_true rfl) (Or.inr (Or.inl ⟨_, rfl, rfl⟩)) (Nat.le_refl _) (Nat.le_refl _) ?_
  refine Go_ls2 (ls' := [(0, gR 106), (1, gI _), (2, gI _), (3, gI _)]) rfl ?_
  have hv12 := hC.2.2.1
  have hn10 := hC.2.2.2.2
  refine Go_iload_n 1 rfl rfl dX9_map_0 ?_
  refine Go_i2l dX9_map_1 ?_
  refine Go_lconst (v := 0) ⟨rfl, by unfold in64; omega⟩ dX9_map_2 ?_
  refine Go_ldc2 klX9_108 (by unfold in64; omega) dX9_map_3 ?_
  refine Go_callSI (fX9_in _ _ _) cwX9_81 smX9_in ⟨Nat.le_of_ble_eq_true rfl, Nat.le_of_ble_eq_true rfl⟩ rfl (Nat.le_of_ble_eq_true rfl) sh_rf dX9_map_6 ?_
  refine Go_if_eq dX9_map_9 rfl (fun h9 => ?_) (fun h9 => ?_)
  · skip
    replace h9 := bI_0.mp h9
    exact absurd h.1 h9
  · skip
    replace h9 := bI_n.mp h9
    refine Go_iload_n 2 rfl rfl dX9_map_12 ?_
    refine Go_i2l dX9_map_13 ?_
    refine Go_lconst (v := 0) ⟨rfl, by unfold in64; omega⟩ dX9_map_14 ?_
    refine Go_ldc2 klX9_110 (by unfold in64; omega) dX9_map_15 ?_
    refine Go_callSI (fX9_in _ _ _) cwX9_81 smX9_in ⟨Nat.le_of_ble_eq_true rfl, Nat.le_of_ble_eq_true rfl⟩ rfl (Nat.le_of_ble_eq_true rfl) sh_rf dX9_map_18 ?_
    refine Go_if_eq dX9_map_21 rfl (fun h21 => ?_) (fun h21 => ?_)
    · skip
      replace h21 := bI_0.mp h21
      exact absurd h.2.1 h21
    · skip
      replace h21 := bI_n.mp h21
      refine Go_iload_n 3 rfl rfl dX9_map_24 ?_
      refine Go_bipush ⟨by decide, by unfold in32; omega⟩ dX9_map_25 ?_
      refine Go_icmp_le dX9_map_27 rfl (fun h27 => ?_) (fun h27 => ?_)
      · skip
        refine Go_iload_n 3 rfl rfl dX9_map_32 ?_
        refine Go_if_ge dX9_map_33 rfl (fun h33 => ?_) (fun h33 => ?_)
        · skip
          exfalso; omega
        · skip
          refine Go_bipush ⟨by decide, by unfold in32; omega⟩ dX9_map_36 ?_
          exact Go_ret rfl dX9_map_38
      · skip
        exfalso; omega
set_option maxHeartbeats 4000000 in
set_option maxRecDepth 100000 in
theorem pX9_map {D : va_G} {ca : Nat → ClassId} {M : gMem} {nv np : Nat} (hC : MS M nv np) (q : Nat) (hq : q < 4) (z n : Int) (hz : (0 ≤ z ∧ z ≤ 2)) (hn : 0 ≤ n ∧ n ≤ 60) : Fn D ca mX9_map [gR 106, gI (q : Int), gI z, gI n] SH M [gI 1] SH (mpM M q z n) := by
  refine Fn_of okX9_map (Nat.le_of_ble_eq_true rfl) (Or.inr (Or.inl ⟨_, rfl, rfl⟩)) (Nat.le_refl _) (Nat.le_refl _) ?_
  refine Go_ls2 (ls' := [(0, gR 106), (1, gI _), (2, gI _), (3, gI _)]) rfl ?_
  have hv12 := hC.2.2.1
  have hn10 := hC.2.2.2.2
  have loop_56 : ∀ (k : Nat) (i : Nat) (w : Nat → Int), i + k = 60 → zcS (60 * q) (M 116) i = w → Go D ca none (gRm mX9_map (SH.length - SH.length) (gSz SH - gSz SH)) mX9_map 56 [(0, gR 106), (1, gI (q : Int)), (4, gI (i : Int))] [] SH (gSet (gSet (gSet M 114 (gUp (M 114) q z)) 115 (gUp (M 115) q n)) 116 w) [gI 1] SH (mpM M q z n) := by
    intro k
    induction k with
    | zero =>
      intro i w he hx
      have ei : i = 60 := by omega
      subst ei
      subst hx
      refine Go_iload 2 rfl dX9_map_56 ?_
      refine Go_bipush ⟨by decide, by unfold in32; omega⟩ dX9_map_58 ?_
      refine Go_icmp_ge dX9_map_60 rfl (fun h60 => ?_) (fun h60 => ?_)
      · skip
        refine Go_iconst (by unfold in32; omega) dX9_map_82 ?_
        exact Go_ret rfl dX9_map_83
      · skip
        exact absurd h60 (by omega)
    | succ k ih_56 =>
      intro i w he hx
      refine Go_iload 2 rfl dX9_map_56 ?_
      refine Go_bipush ⟨by decide, by unfold in32; omega⟩ dX9_map_58 ?_
      refine Go_icmp_ge dX9_map_60 rfl (fun h60 => ?_) (fun h60 => ?_)
      · skip
        exact absurd h60 (by omega)
      · skip
        refine Go_aload_n 0 rfl rfl dX9_map_63 ?_
        refine Go_getR (c' := 116) faX9_42 sh_106 (pt_106_12 (M := M) hC.1) dX9_map_64 ?_
        refine Go_bipush ⟨by decide, by unfold in32; omega⟩ dX9_map_67 ?_
        refine Go_iload_n 1 rfl rfl dX9_map_69 ?_
        refine Go_imuln 60 q rfl rfl (by omega) dX9_map_70 ?_
        refine Go_iload 2 rfl dX9_map_71 ?_
        refine Go_iaddn (60 * q) i rfl rfl (by omega) dX9_map_73 ?_
        refine Go_lconst (v := 0) ⟨rfl, by unfold in64; omega⟩ dX9_map_74 ?_
        refine Go_lastoreS ((60 * q) + i) sh_116 rfl (by omega) dX9_map_75 ?_
        refine Go_iincn i 1 rfl rfl (by omega) 2 (ls' := [(4, gI _), (0, gR 106), (1, gI _)]) rfl dX9_map_76 (by decide) rfl ?_
        refine Go_goto dX9_map_79 rfl ?_
        refine Go_pick [1, 2, 0] (ls' := [(0, gR 106), (1, gI _), (4, gI _)]) rfl ?_
        exact ih_56 (i + 1) _ (by omega) (by simp only [zcS, hx])
  refine Go_iload_n 1 rfl rfl dX9_map_0 ?_
  refine Go_i2l dX9_map_1 ?_
  refine Go_lconst (v := 0) ⟨rfl, by unfold in64; omega⟩ dX9_map_2 ?_
  refine Go_ldc2 klX9_108 (by unfold in64; omega) dX9_map_3 ?_
  refine Go_callSI (fX9_in _ _ _) cwX9_81 smX9_in ⟨Nat.le_of_ble_eq_true rfl, Nat.le_of_ble_eq_true rfl⟩ rfl (Nat.le_of_ble_eq_true rfl) sh_rf dX9_map_6 ?_
  refine Go_if_eq dX9_map_9 rfl (fun h9 => ?_) (fun h9 => ?_)
  · skip
    replace h9 := bI_0.mp h9
    exfalso; omega
  · skip
    replace h9 := bI_n.mp h9
    refine Go_iload_n 2 rfl rfl dX9_map_12 ?_
    refine Go_i2l dX9_map_13 ?_
    refine Go_lconst (v := 0) ⟨rfl, by unfold in64; omega⟩ dX9_map_14 ?_
    refine Go_ldc2 klX9_110 (by unfold in64; omega) dX9_map_15 ?_
    refine Go_callSI (fX9_in _ _ _) cwX9_81 smX9_in ⟨Nat.le_of_ble_eq_true rfl, Nat.le_of_ble_eq_true rfl⟩ rfl (Nat.le_of_ble_eq_true rfl) sh_rf dX9_map_18 ?_
    refine Go_if_eq dX9_map_21 rfl (fun h21 => ?_) (fun h21 => ?_)
    · skip
      replace h21 := bI_0.mp h21
      exact absurd hz h21
    · skip
      replace h21 := bI_n.mp h21
      refine Go_iload_n 3 rfl rfl dX9_map_24 ?_
      refine Go_bipush ⟨by decide, by unfold in32; omega⟩ dX9_map_25 ?_
      refine Go_icmp_le dX9_map_27 rfl (fun h27 => ?_) (fun h27 => ?_)
      · skip
        refine Go_iload_n 3 rfl rfl dX9_map_32 ?_
        refine Go_if_ge dX9_map_33 rfl (fun h33 => ?_) (fun h33 => ?_)
        · skip
          refine Go_aload_n 0 rfl rfl dX9_map_39 ?_
          refine Go_getR (c' := 114) faX9_36 sh_106 (pt_106_10 (M := M) hC.1) dX9_map_40 ?_
          refine Go_iload_n 1 rfl rfl dX9_map_43 ?_
          refine Go_iload_n 2 rfl rfl dX9_map_44 ?_
          refine Go_iastore q sh_114 rfl (by omega) dX9_map_45 ?_
          refine Go_aload_n 0 rfl rfl dX9_map_46 ?_
          refine Go_getR (c' := 115) faX9_39 sh_106 (pt_106_11 (M := M) hC.1) dX9_map_47 ?_
          refine Go_iload_n 1 rfl rfl dX9_map_50 ?_
          refine Go_iload_n 3 rfl rfl dX9_map_51 ?_
          refine Go_iastore q sh_115 rfl (by omega) dX9_map_52 ?_
          refine Go_o 116 ?_
          refine Go_iconst (by unfold in32; omega) dX9_map_53 ?_
          refine Go_istore (ls' := [(4, gI _), (0, gR 106), (1, gI _), (2, gI _), (3, gI _)]) dX9_map_54 (by decide) rfl ?_
          refine Go_pick [1, 2, 0] (ls' := [(0, gR 106), (1, gI _), (4, gI _)]) rfl ?_
          exact loop_56 60 0 _ (by omega) rfl
        · skip
          exfalso; omega
      · skip
        exfalso; omega
set_option maxHeartbeats 4000000 in
set_option maxRecDepth 100000 in
theorem pX9_lay_bad {D : va_G} {ca : Nat → ClassId} {M : gMem} {nv np : Nat} (hC : MS M nv np) (k i v : Int) (h : ¬ (0 ≤ k ∧ k ≤ 3)) : Fn D ca mX9_lay [gR 106, gI k, gI i, gJ v] SH M [gI (-1)] SH (M) := by
  refine Fn_of okX9_lay (Nat.le_of_ble_eq_true rfl) (Or.inr (Or.inl ⟨_, rfl, rfl⟩)) (Nat.le_refl _) (Nat.le_refl _) ?_
  refine Go_ls2 (ls' := [(0, gR 106), (1, gI _), (2, gI _), (3, gJ _)]) rfl ?_
  have hv12 := hC.2.2.1
  have hn10 := hC.2.2.2.2
  refine Go_iload_n 1 rfl rfl dX9_lay_0 ?_
  refine Go_i2l dX9_lay_1 ?_
  refine Go_lconst (v := 0) ⟨rfl, by unfold in64; omega⟩ dX9_lay_2 ?_
  refine Go_ldc2 klX9_108 (by unfold in64; omega) dX9_lay_3 ?_
  refine Go_callSI (fX9_in _ _ _) cwX9_81 smX9_in ⟨Nat.le_of_ble_eq_true rfl, Nat.le_of_ble_eq_true rfl⟩ rfl (Nat.le_of_ble_eq_true rfl) sh_rf dX9_lay_6 ?_
  refine Go_if_ne dX9_lay_9 rfl (fun h9 => ?_) (fun h9 => ?_)
  · skip
    replace h9 := bI_n.mp h9
    exact absurd h9 h
  · skip
    replace h9 := bI_0.mp h9
    refine Go_iconst (by unfold in32; omega) dX9_lay_12 ?_
    exact Go_ret rfl dX9_lay_13
set_option maxHeartbeats 4000000 in
set_option maxRecDepth 100000 in
theorem pX9_lay_null {D : va_G} {ca : Nat → ClassId} {M : gMem} {nv np : Nat} (hC : MS M nv np) (k : Nat) (hk : k < 4) (i v : Int) (h : M 114 k = -4) : Fn D ca mX9_lay [gR 106, gI (k : Int), gI i, gJ v] SH M [gI (-11)] SH (M) := by
  refine Fn_of okX9_lay (Nat.le_of_ble_eq_true rfl) (Or.inr (Or.inl ⟨_, rfl, rfl⟩)) (Nat.le_refl _) (Nat.le_refl _) ?_
  refine Go_ls2 (ls' := [(0, gR 106), (1, gI _), (2, gI _), (3, gJ _)]) rfl ?_
  have hv12 := hC.2.2.1
  have hn10 := hC.2.2.2.2
  refine Go_iload_n 1 rfl rfl dX9_lay_0 ?_
  refine Go_i2l dX9_lay_1 ?_
  refine Go_lconst (v := 0) ⟨rfl, by unfold in64; omega⟩ dX9_lay_2 ?_
  refine Go_ldc2 klX9_108 (by unfold in64; omega) dX9_lay_3 ?_
  refine Go_callSI (fX9_in _ _ _) cwX9_81 smX9_in ⟨Nat.le_of_ble_eq_true rfl, Nat.le_of_ble_eq_true rfl⟩ rfl (Nat.le_of_ble_eq_true rfl) sh_rf dX9_lay_6 ?_
  refine Go_if_ne dX9_lay_9 rfl (fun h9 => ?_) (fun h9 => ?_)
  · skip
    replace h9 := bI_n.mp h9
    refine Go_aload_n 0 rfl rfl dX9_lay_14 ?_
    refine Go_getR (c' := 114) faX9_36 sh_106 (pt_106_10 (M := M) hC.1) dX9_lay_15 ?_
    refine Go_iload_n 1 rfl rfl dX9_lay_18 ?_
    refine Go_ialoadv k (v := M 114 (k)) rfl sh_114 rfl (by omega) dX9_lay_19 ?_
    refine Go_bipush ⟨by decide, by unfold in32; omega⟩ dX9_lay_20 ?_
    refine Go_icmp_ne dX9_lay_22 rfl (fun h22 => ?_) (fun h22 => ?_)
    · skip
      exact absurd h h22
    · skip
      refine Go_bipush ⟨by decide, by unfold in32; omega⟩ dX9_lay_25 ?_
      exact Go_ret rfl dX9_lay_27
  · skip
    replace h9 := bI_0.mp h9
    exfalso; omega
set_option maxHeartbeats 4000000 in
set_option maxRecDepth 100000 in
theorem pX9_lay_ix {D : va_G} {ca : Nat → ClassId} {M : gMem} {nv np : Nat} (hC : MS M nv np) (k : Nat) (hk : k < 4) (z : Nat) (hz : M 115 k = (z : Int)) (hz2 : z ≤ 60) (i v : Int) (h : M 114 k ≠ -4) (hi : ¬ (0 ≤ i ∧ i ≤ (z : Int) - 1)) : Fn D ca mX9_lay [gR 106, gI (k : Int), gI i, gJ v] SH M [gI (-12)] SH (M) := by
  refine Fn_of okX9_lay (Nat.le_of_ble_eq_true rfl) (Or.inr (Or.inl ⟨_, rfl, rfl⟩)) (Nat.le_refl _) (Nat.le_refl _) ?_
  refine Go_ls2 (ls' := [(0, gR 106), (1, gI _), (2, gI _), (3, gJ _)]) rfl ?_
  have hv12 := hC.2.2.1
  have hn10 := hC.2.2.2.2
  refine Go_iload_n 1 rfl rfl dX9_lay_0 ?_
  refine Go_i2l dX9_lay_1 ?_
  refine Go_lconst (v := 0) ⟨rfl, by unfold in64; omega⟩ dX9_lay_2 ?_
  refine Go_ldc2 klX9_108 (by unfold in64; omega) dX9_lay_3 ?_
  refine Go_callSI (fX9_in _ _ _) cwX9_81 smX9_in ⟨Nat.le_of_ble_eq_true rfl, Nat.le_of_ble_eq_true rfl⟩ rfl (Nat.le_of_ble_eq_true rfl) sh_rf dX9_lay_6 ?_
  refine Go_if_ne dX9_lay_9 rfl (fun h9 => ?_) (fun h9 => ?_)
  · skip
    replace h9 := bI_n.mp h9
    refine Go_aload_n 0 rfl rfl dX9_lay_14 ?_
    refine Go_getR (c' := 114) faX9_36 sh_106 (pt_106_10 (M := M) hC.1) dX9_lay_15 ?_
    refine Go_iload_n 1 rfl rfl dX9_lay_18 ?_
    refine Go_ialoadv k (v := M 114 (k)) rfl sh_114 rfl (by omega) dX9_lay_19 ?_
    refine Go_bipush ⟨by decide, by unfold in32; omega⟩ dX9_lay_20 ?_
    refine Go_icmp_ne dX9_lay_22 rfl (fun h22 => ?_) (fun h22 => ?_)
    · skip
      refine Go_iload_n 2 rfl rfl dX9_lay_28 ?_
      refine Go_i2l dX9_lay_29 ?_
      refine Go_lconst (v := 0) ⟨rfl, by unfold in64; omega⟩ dX9_lay_30 ?_
      refine Go_aload_n 0 rfl rfl dX9_lay_31 ?_
      refine Go_getR (c' := 115) faX9_39 sh_106 (pt_106_11 (M := M) hC.1) dX9_lay_32 ?_
      refine Go_iload_n 1 rfl rfl dX9_lay_35 ?_
      refine Go_ialoadv k (v := ((z : Nat) : Int)) hz sh_115 rfl (by omega) dX9_lay_36 ?_
      refine Go_iconst (by unfold in32; omega) dX9_lay_37 ?_
      refine Go_isubc (by omega) dX9_lay_38 ?_
      refine Go_i2l dX9_lay_39 ?_
      refine Go_callSI (fX9_in _ _ _) cwX9_81 smX9_in ⟨Nat.le_of_ble_eq_true rfl, Nat.le_of_ble_eq_true rfl⟩ rfl (Nat.le_of_ble_eq_true rfl) sh_rf dX9_lay_40 ?_
      refine Go_if_ne dX9_lay_43 rfl (fun h43 => ?_) (fun h43 => ?_)
      · skip
        replace h43 := bI_n.mp h43
        exact absurd h43 hi
      · skip
        replace h43 := bI_0.mp h43
        refine Go_bipush ⟨by decide, by unfold in32; omega⟩ dX9_lay_46 ?_
        exact Go_ret rfl dX9_lay_48
    · skip
      exact absurd h22 h
  · skip
    replace h9 := bI_0.mp h9
    exfalso; omega
set_option maxHeartbeats 4000000 in
set_option maxRecDepth 100000 in
theorem pX9_lay {D : va_G} {ca : Nat → ClassId} {M : gMem} {nv np : Nat} (hC : MS M nv np) (k : Nat) (hk : k < 4) (z : Nat) (hz : M 115 k = (z : Int)) (hz2 : z ≤ 60) (i : Nat) (hi : i < z) (v : Int) (h : M 114 k ≠ -4) : Fn D ca mX9_lay [gR 106, gI (k : Int), gI (i : Int), gJ v] SH M [gI 1] SH (gSet M 116 (gUp (M 116) (60 * k + i) (wrF (M 114 k) v))) := by
  refine Fn_of okX9_lay (Nat.le_of_ble_eq_true rfl) (Or.inr (Or.inl ⟨_, rfl, rfl⟩)) (Nat.le_refl _) (Nat.le_refl _) ?_
  refine Go_ls2 (ls' := [(0, gR 106), (1, gI _), (2, gI _), (3, gJ _)]) rfl ?_
  have hv12 := hC.2.2.1
  have hn10 := hC.2.2.2.2
  refine Go_iload_n 1 rfl rfl dX9_lay_0 ?_
  refine Go_i2l dX9_lay_1 ?_
  refine Go_lconst (v := 0) ⟨rfl, by unfold in64; omega⟩ dX9_lay_2 ?_
  refine Go_ldc2 klX9_108 (by unfold in64; omega) dX9_lay_3 ?_
  refine Go_callSI (fX9_in _ _ _) cwX9_81 smX9_in ⟨Nat.le_of_ble_eq_true rfl, Nat.le_of_ble_eq_true rfl⟩ rfl (Nat.le_of_ble_eq_true rfl) sh_rf dX9_lay_6 ?_
  refine Go_if_ne dX9_lay_9 rfl (fun h9 => ?_) (fun h9 => ?_)
  · skip
    replace h9 := bI_n.mp h9
    refine Go_aload_n 0 rfl rfl dX9_lay_14 ?_
    refine Go_getR (c' := 114) faX9_36 sh_106 (pt_106_10 (M := M) hC.1) dX9_lay_15 ?_
    refine Go_iload_n 1 rfl rfl dX9_lay_18 ?_
    refine Go_ialoadv k (v := M 114 (k)) rfl sh_114 rfl (by omega) dX9_lay_19 ?_
    refine Go_bipush ⟨by decide, by unfold in32; omega⟩ dX9_lay_20 ?_
    refine Go_icmp_ne dX9_lay_22 rfl (fun h22 => ?_) (fun h22 => ?_)
    · skip
      refine Go_iload_n 2 rfl rfl dX9_lay_28 ?_
      refine Go_i2l dX9_lay_29 ?_
      refine Go_lconst (v := 0) ⟨rfl, by unfold in64; omega⟩ dX9_lay_30 ?_
      refine Go_aload_n 0 rfl rfl dX9_lay_31 ?_
      refine Go_getR (c' := 115) faX9_39 sh_106 (pt_106_11 (M := M) hC.1) dX9_lay_32 ?_
      refine Go_iload_n 1 rfl rfl dX9_lay_35 ?_
      refine Go_ialoadv k (v := ((z : Nat) : Int)) hz sh_115 rfl (by omega) dX9_lay_36 ?_
      refine Go_iconst (by unfold in32; omega) dX9_lay_37 ?_
      refine Go_isubc (by omega) dX9_lay_38 ?_
      refine Go_i2l dX9_lay_39 ?_
      refine Go_callSI (fX9_in _ _ _) cwX9_81 smX9_in ⟨Nat.le_of_ble_eq_true rfl, Nat.le_of_ble_eq_true rfl⟩ rfl (Nat.le_of_ble_eq_true rfl) sh_rf dX9_lay_40 ?_
      refine Go_if_ne dX9_lay_43 rfl (fun h43 => ?_) (fun h43 => ?_)
      · skip
        replace h43 := bI_n.mp h43
        refine Go_aload_n 0 rfl rfl dX9_lay_49 ?_
        refine Go_getR (c' := 116) faX9_42 sh_106 (pt_106_12 (M := M) hC.1) dX9_lay_50 ?_
        refine Go_bipush ⟨by decide, by unfold in32; omega⟩ dX9_lay_53 ?_
        refine Go_iload_n 1 rfl rfl dX9_lay_55 ?_
        refine Go_imuln 60 k rfl rfl (by omega) dX9_lay_56 ?_
        refine Go_iload_n 2 rfl rfl dX9_lay_57 ?_
        refine Go_iaddn (60 * k) i rfl rfl (by omega) dX9_lay_58 ?_
        refine Go_aload_n 0 rfl rfl dX9_lay_59 ?_
        refine Go_getR (c' := 114) faX9_36 sh_106 (pt_106_10 (M := M) hC.1) dX9_lay_60 ?_
        refine Go_iload_n 1 rfl rfl dX9_lay_63 ?_
        refine Go_ialoadv k (v := M 114 (k)) rfl sh_114 rfl (by omega) dX9_lay_64 ?_
        refine Go_if_ne dX9_lay_65 rfl (fun h65 => ?_) (fun h65 => ?_)
        · skip
          refine Go_aload_n 0 rfl rfl dX9_lay_75 ?_
          refine Go_getR (c' := 114) faX9_36 sh_106 (pt_106_10 (M := M) hC.1) dX9_lay_76 ?_
          refine Go_iload_n 1 rfl rfl dX9_lay_79 ?_
          refine Go_ialoadv k (v := M 114 (k)) rfl sh_114 rfl (by omega) dX9_lay_80 ?_
          refine Go_iconst (by unfold in32; omega) dX9_lay_81 ?_
          refine Go_icmp_ne dX9_lay_82 rfl (fun h82 => ?_) (fun h82 => ?_)
          · skip
            refine Go_lload_n 3 rfl rfl dX9_lay_91 ?_
            refine Go_lastore ((60 * k) + i) sh_116 rfl (by omega) dX9_lay_92 ?_
            refine Go_M (M2 := gSet M 116 (gUp (M 116) (60 * k + i) (wrF (M 114 k) v))) (by unfold wrF; rw [if_neg (by exact h65), if_neg (by exact h82)]) ?_
            refine Go_iconst (by unfold in32; omega) dX9_lay_93 ?_
            exact Go_ret rfl dX9_lay_94
          · skip
            refine Go_lload_n 3 rfl rfl dX9_lay_85 ?_
            refine Go_l2i dX9_lay_86 ?_
            refine Go_i2l dX9_lay_87 ?_
            refine Go_goto dX9_lay_88 rfl ?_
            refine Go_lastore ((60 * k) + i) sh_116 rfl (by omega) dX9_lay_92 ?_
            refine Go_M (M2 := gSet M 116 (gUp (M 116) (60 * k + i) (wrF (M 114 k) v))) (by unfold wrF; rw [if_neg (by exact h65), if_pos (by exact h82)]) ?_
            refine Go_iconst (by unfold in32; omega) dX9_lay_93 ?_
            exact Go_ret rfl dX9_lay_94
        · skip
          refine Go_lload_n 3 rfl rfl dX9_lay_68 ?_
          refine Go_l2i dX9_lay_69 ?_
          refine Go_i2b dX9_lay_70 ?_
          refine Go_i2l dX9_lay_71 ?_
          refine Go_goto dX9_lay_72 rfl ?_
          refine Go_lastore ((60 * k) + i) sh_116 rfl (by omega) dX9_lay_92 ?_
          refine Go_M (M2 := gSet M 116 (gUp (M 116) (60 * k + i) (wrF (M 114 k) v))) (by unfold wrF; rw [if_pos (by exact h65)]) ?_
          refine Go_iconst (by unfold in32; omega) dX9_lay_93 ?_
          exact Go_ret rfl dX9_lay_94
      · skip
        replace h43 := bI_0.mp h43
        exfalso; omega
    · skip
      exact absurd h22 h
  · skip
    replace h9 := bI_0.mp h9
    exfalso; omega
set_option maxHeartbeats 4000000 in
set_option maxRecDepth 100000 in
theorem pX9_apart_bad {D : va_G} {ca : Nat → ClassId} {M : gMem} {nv np : Nat} (hC : MS M nv np) (a b : Int) (h : ¬ ((0 ≤ a ∧ a ≤ (nv : Int) - 1) ∧ (0 ≤ b ∧ b ≤ (nv : Int) - 1))) : Fn D ca mX9_apart [gR 106, gI a, gI b] SH M [gI (-1)] SH (M) := by
  refine Fn_of okX9_apart (Nat.le_of_ble_eq_true rfl) (Or.inr (Or.inl ⟨_, rfl, rfl⟩)) (Nat.le_refl _) (Nat.le_refl _) ?_
  refine Go_ls2 (ls' := [(0, gR 106), (1, gI _), (2, gI _)]) rfl ?_
  have hv12 := hC.2.2.1
  have hn10 := hC.2.2.2.2
  refine Go_aload_n 0 rfl rfl dX9_apart_0 ?_
  refine Go_iload_n 1 rfl rfl dX9_apart_1 ?_
  refine Go_callVI (q := vwCl[9]) (fX9_isVillage hC _) cwX9_90 imX9_isVillage rfl rfl ⟨Nat.le_of_ble_eq_true rfl, Nat.le_of_ble_eq_true rfl⟩ sh_106 rfl (Nat.le_of_ble_eq_true rfl) sh_rf dX9_apart_2 ?_
  refine Go_if_eq dX9_apart_5 rfl (fun h5 => ?_) (fun h5 => ?_)
  · skip
    replace h5 := bI_0.mp h5
    refine Go_iconst (by unfold in32; omega) dX9_apart_16 ?_
    exact Go_ret rfl dX9_apart_17
  · skip
    replace h5 := bI_n.mp h5
    refine Go_aload_n 0 rfl rfl dX9_apart_8 ?_
    refine Go_iload_n 2 rfl rfl dX9_apart_9 ?_
    refine Go_callVI (q := vwCl[9]) (fX9_isVillage hC _) cwX9_90 imX9_isVillage rfl rfl ⟨Nat.le_of_ble_eq_true rfl, Nat.le_of_ble_eq_true rfl⟩ sh_106 rfl (Nat.le_of_ble_eq_true rfl) sh_rf dX9_apart_10 ?_
    refine Go_if_ne dX9_apart_13 rfl (fun h13 => ?_) (fun h13 => ?_)
    · skip
      replace h13 := bI_n.mp h13
      exact absurd ⟨h5, h13⟩ h
    · skip
      replace h13 := bI_0.mp h13
      refine Go_iconst (by unfold in32; omega) dX9_apart_16 ?_
      exact Go_ret rfl dX9_apart_17
set_option maxHeartbeats 4000000 in
set_option maxRecDepth 100000 in
theorem pX9_apart {D : va_G} {ca : Nat → ClassId} {M : gMem} {nv np : Nat} (hC : MS M nv np) (a b : Nat) (ha : a < nv) (hb : b < nv) : Fn D ca mX9_apart [gR 106, gI (a : Int), gI (b : Int)] SH M [gI ((fyM M nv) 124 (12 * a + b))] SH (fyM M nv) := by
  refine Fn_of okX9_apart (Nat.le_of_ble_eq_true rfl) (Or.inr (Or.inl ⟨_, rfl, rfl⟩)) (Nat.le_refl _) (Nat.le_refl _) ?_
  refine Go_ls2 (ls' := [(0, gR 106), (1, gI _), (2, gI _)]) rfl ?_
  have hv12 := hC.2.2.1
  have hn10 := hC.2.2.2.2
  have hN := MS_fy hC
  refine Go_aload_n 0 rfl rfl dX9_apart_0 ?_
  refine Go_iload_n 1 rfl rfl dX9_apart_1 ?_
  refine Go_callVI (q := vwCl[9]) (fX9_isVillage hC _) cwX9_90 imX9_isVillage rfl rfl ⟨Nat.le_of_ble_eq_true rfl, Nat.le_of_ble_eq_true rfl⟩ sh_106 rfl (Nat.le_of_ble_eq_true rfl) sh_rf dX9_apart_2 ?_
  refine Go_if_eq dX9_apart_5 rfl (fun h5 => ?_) (fun h5 => ?_)
  · skip
    replace h5 := bI_0.mp h5
    exfalso; omega
  · skip
    replace h5 := bI_n.mp h5
    refine Go_aload_n 0 rfl rfl dX9_apart_8 ?_
    refine Go_iload_n 2 rfl rfl dX9_apart_9 ?_
    refine Go_callVI (q := vwCl[9]) (fX9_isVillage hC _) cwX9_90 imX9_isVillage rfl rfl ⟨Nat.le_of_ble_eq_true rfl, Nat.le_of_ble_eq_true rfl⟩ sh_106 rfl (Nat.le_of_ble_eq_true rfl) sh_rf dX9_apart_10 ?_
    refine Go_if_ne dX9_apart_13 rfl (fun h13 => ?_) (fun h13 => ?_)
    · skip
      replace h13 := bI_n.mp h13
      refine Go_aload_n 0 rfl rfl dX9_apart_18 ?_
      refine Go_callV0 (q := vwCl[9]) (fX9_findWays hC) cwX9_112 imX9_findWays rfl rfl ⟨Nat.le_of_ble_eq_true rfl, Nat.le_of_ble_eq_true rfl⟩ sh_106 rfl (Nat.le_of_ble_eq_true rfl) sh_rf dX9_apart_19 ?_
      refine Go_M (M2 := fyM M nv) rfl ?_
      generalize hNe : fyM M nv = N at hN ⊢
      refine Go_aload_n 0 rfl rfl dX9_apart_22 ?_
      refine Go_getR (c' := 124) faX9_66 sh_106 (pt_106_21 (M := N) hN.1) dX9_apart_23 ?_
      refine Go_bipush ⟨by decide, by unfold in32; omega⟩ dX9_apart_26 ?_
      refine Go_iload_n 1 rfl rfl dX9_apart_28 ?_
      refine Go_imuln 12 a rfl rfl (by omega) dX9_apart_29 ?_
      refine Go_iload_n 2 rfl rfl dX9_apart_30 ?_
      refine Go_iaddn (12 * a) b rfl rfl (by omega) dX9_apart_31 ?_
      refine Go_ialoadv ((12 * a) + b) (v := N 124 ((12 * a) + b)) rfl sh_124 rfl (by omega) dX9_apart_32 ?_
      exact Go_ret rfl dX9_apart_33
    · skip
      replace h13 := bI_0.mp h13
      exfalso; omega
set_option maxHeartbeats 4000000 in
set_option maxRecDepth 100000 in
theorem pX9_allowed_bad {D : va_G} {ca : Nat → ClassId} {M : gMem} {nv np : Nat} (hC : MS M nv np) (x : Int) (h : ¬ (0 ≤ x ∧ x ≤ ((2 ^ np : Nat) : Int) - 1)) : Fn D ca mX9_allowed [gR 106, gI x] SH M [gI (-1)] SH (M) := by
  refine Fn_of okX9_allowed (Nat.le_of_ble_eq_true rfl) (Or.inr (Or.inl ⟨_, rfl, rfl⟩)) (Nat.le_refl _) (Nat.le_refl _) ?_
  refine Go_ls2 (ls' := [(0, gR 106), (1, gI _)]) rfl ?_
  have hv12 := hC.2.2.1
  have hn10 := hC.2.2.2.2
  refine Go_aload_n 0 rfl rfl dX9_allowed_0 ?_
  refine Go_iload_n 1 rfl rfl dX9_allowed_1 ?_
  refine Go_callVI (q := vwCl[9]) (fX9_isChoice hC _) cwX9_136 imX9_isChoice rfl rfl ⟨Nat.le_of_ble_eq_true rfl, Nat.le_of_ble_eq_true rfl⟩ sh_106 rfl (Nat.le_of_ble_eq_true rfl) sh_rf dX9_allowed_2 ?_
  refine Go_if_ne dX9_allowed_5 rfl (fun h5 => ?_) (fun h5 => ?_)
  · skip
    replace h5 := bI_n.mp h5
    exact absurd h5 h
  · skip
    replace h5 := bI_0.mp h5
    refine Go_iconst (by unfold in32; omega) dX9_allowed_8 ?_
    exact Go_ret rfl dX9_allowed_9
set_option maxHeartbeats 4000000 in
set_option maxRecDepth 100000 in
theorem pX9_allowed {D : va_G} {ca : Nat → ClassId} {M : gMem} {nv np : Nat} (hC : MS M nv np) (c : Nat) (hc : c < 2 ^ np) : Fn D ca mX9_allowed [gR 106, gI (c : Int)] SH M [gI (bI (alP (M 111) np (M 106 9) c = true))] SH (M) := by
  refine Fn_of okX9_allowed (Nat.le_of_ble_eq_true rfl) (Or.inr (Or.inl ⟨_, rfl, rfl⟩)) (Nat.le_refl _) (Nat.le_refl _) ?_
  refine Go_ls2 (ls' := [(0, gR 106), (1, gI _)]) rfl ?_
  have hv12 := hC.2.2.1
  have hn10 := hC.2.2.2.2
  have hpw := p10 hn10
  refine Go_aload_n 0 rfl rfl dX9_allowed_0 ?_
  refine Go_iload_n 1 rfl rfl dX9_allowed_1 ?_
  refine Go_callVI (q := vwCl[9]) (fX9_isChoice hC _) cwX9_136 imX9_isChoice rfl rfl ⟨Nat.le_of_ble_eq_true rfl, Nat.le_of_ble_eq_true rfl⟩ sh_106 rfl (Nat.le_of_ble_eq_true rfl) sh_rf dX9_allowed_2 ?_
  refine Go_if_ne dX9_allowed_5 rfl (fun h5 => ?_) (fun h5 => ?_)
  · skip
    replace h5 := bI_n.mp h5
    refine Go_aload_n 0 rfl rfl dX9_allowed_10 ?_
    refine Go_iload_n 1 rfl rfl dX9_allowed_11 ?_
    refine Go_callVI (q := vwCl[9]) (fX9_isAllowed hC c (by omega)) cwX9_139 imX9_isAllowed rfl rfl ⟨Nat.le_of_ble_eq_true rfl, Nat.le_of_ble_eq_true rfl⟩ sh_106 rfl (Nat.le_of_ble_eq_true rfl) sh_rf dX9_allowed_12 ?_
    refine Go_if_eq dX9_allowed_15 rfl (fun h15 => ?_) (fun h15 => ?_)
    · skip
      replace h15 := bI_0.mp h15
      refine Go_iconst (by unfold in32; omega) dX9_allowed_22 ?_
      exact Go_ret (by rw [bI_f (by exact h15)]) dX9_allowed_23
    · skip
      replace h15 := bI_n.mp h15
      refine Go_iconst (by unfold in32; omega) dX9_allowed_18 ?_
      refine Go_goto dX9_allowed_19 rfl ?_
      exact Go_ret (by rw [bI_t (by exact h15)]) dX9_allowed_23
  · skip
    replace h5 := bI_0.mp h5
    exact absurd (show 0 ≤ (c : Int) ∧ (c : Int) ≤ ((2 ^ np : Nat) : Int) - 1 by omega) h5
set_option maxHeartbeats 4000000 in
set_option maxRecDepth 100000 in
theorem pX9_cost_bad {D : va_G} {ca : Nat → ClassId} {M : gMem} {nv np : Nat} (hC : MS M nv np) (x : Int) (h : ¬ (0 ≤ x ∧ x ≤ ((2 ^ np : Nat) : Int) - 1)) : Fn D ca mX9_cost [gR 106, gI x] SH M [gJ (-1)] SH (M) := by
  refine Fn_of okX9_cost (Nat.le_of_ble_eq_true rfl) (Or.inr (Or.inr (Or.inr ⟨_, rfl, rfl⟩))) (Nat.le_refl _) (Nat.le_refl _) ?_
  refine Go_ls2 (ls' := [(0, gR 106), (1, gI _)]) rfl ?_
  have hv12 := hC.2.2.1
  have hn10 := hC.2.2.2.2
  refine Go_aload_n 0 rfl rfl dX9_cost_0 ?_
  refine Go_iload_n 1 rfl rfl dX9_cost_1 ?_
  refine Go_callVI (q := vwCl[9]) (fX9_isChoice hC _) cwX9_136 imX9_isChoice rfl rfl ⟨Nat.le_of_ble_eq_true rfl, Nat.le_of_ble_eq_true rfl⟩ sh_106 rfl (Nat.le_of_ble_eq_true rfl) sh_rf dX9_cost_2 ?_
  refine Go_if_ne dX9_cost_5 rfl (fun h5 => ?_) (fun h5 => ?_)
  · skip
    replace h5 := bI_n.mp h5
    exact absurd h5 h
  · skip
    replace h5 := bI_0.mp h5
    refine Go_ldc2 klX9_142 (by unfold in64; omega) dX9_cost_8 ?_
    exact Go_ret rfl dX9_cost_11
set_option maxHeartbeats 4000000 in
set_option maxRecDepth 100000 in
theorem pX9_cost {D : va_G} {ca : Nat → ClassId} {M : gMem} {nv np : Nat} (hC : MS M nv np) (hH : ∀ p, p < np → ∃ z : Nat, z < 12 ∧ M 110 p = (z : Int)) (c : Nat) (hc : c < 2 ^ np) : Fn D ca mX9_cost [gR 106, gI (c : Int)] SH M [gJ (if 0 < (wgM (fyM M nv) nv np c).1 then -4 else (wgM (fyM M nv) nv np c).2.1)] SH (gSet (fyM M nv) 106 (whF ((fyM M nv) 106) (wgM (fyM M nv) nv np c))) := by
  refine Fn_of okX9_cost (Nat.le_of_ble_eq_true rfl) (Or.inr (Or.inr (Or.inr ⟨_, rfl, rfl⟩))) (Nat.le_refl _) (Nat.le_refl _) ?_
  refine Go_ls2 (ls' := [(0, gR 106), (1, gI _)]) rfl ?_
  have hv12 := hC.2.2.1
  have hn10 := hC.2.2.2.2
  have hN := MS_fy hC
  have hpw := p10 hn10
  refine Go_aload_n 0 rfl rfl dX9_cost_0 ?_
  refine Go_iload_n 1 rfl rfl dX9_cost_1 ?_
  refine Go_callVI (q := vwCl[9]) (fX9_isChoice hC _) cwX9_136 imX9_isChoice rfl rfl ⟨Nat.le_of_ble_eq_true rfl, Nat.le_of_ble_eq_true rfl⟩ sh_106 rfl (Nat.le_of_ble_eq_true rfl) sh_rf dX9_cost_2 ?_
  refine Go_if_ne dX9_cost_5 rfl (fun h5 => ?_) (fun h5 => ?_)
  · skip
    replace h5 := bI_n.mp h5
    refine Go_aload_n 0 rfl rfl dX9_cost_12 ?_
    refine Go_callV0 (q := vwCl[9]) (fX9_findWays hC) cwX9_112 imX9_findWays rfl rfl ⟨Nat.le_of_ble_eq_true rfl, Nat.le_of_ble_eq_true rfl⟩ sh_106 rfl (Nat.le_of_ble_eq_true rfl) sh_rf dX9_cost_13 ?_
    refine Go_M (M2 := fyM M nv) rfl ?_
    generalize hNe : fyM M nv = N at hN ⊢
    refine Go_o 106 ?_
    refine Go_aload_n 0 rfl rfl dX9_cost_16 ?_
    refine Go_iload_n 1 rfl rfl dX9_cost_17 ?_
    refine Go_callV0 (q := vwCl[9]) (fX9_weigh hN (fun p hp => by rw [← hNe]; exact hH p hp) (N 106) (agM_rf _) c (by omega)) cwX9_144 imX9_weigh rfl rfl ⟨Nat.le_of_ble_eq_true rfl, Nat.le_of_ble_eq_true rfl⟩ sh_106 rfl (Nat.le_of_ble_eq_true rfl) sh_rf dX9_cost_18 ?_
    refine Go_aload_n 0 rfl rfl dX9_cost_21 ?_
    refine Go_getIv (v := (wgM N nv np c).1) rfl faX9_119 sh_106 dX9_cost_22 ?_
    refine Go_if_le dX9_cost_25 rfl (fun h25 => ?_) (fun h25 => ?_)
    · skip
      refine Go_aload_n 0 rfl rfl dX9_cost_34 ?_
      refine Go_getJv (v := (wgM N nv np c).2.1) rfl faX9_122 sh_106 dX9_cost_35 ?_
      exact Go_ret (by first | rw [if_pos (by exact h25)] | rw [if_neg (by exact Int.not_lt.mpr h25)]) dX9_cost_38
    · skip
      refine Go_ldc2 klX9_148 (by unfold in64; omega) dX9_cost_28 ?_
      refine Go_goto dX9_cost_31 rfl ?_
      exact Go_ret (by first | rw [if_pos (by exact h25)] | rw [if_neg (by exact Int.not_lt.mpr h25)]) dX9_cost_38
  · skip
    replace h5 := bI_0.mp h5
    exact absurd (show 0 ≤ (c : Int) ∧ (c : Int) ≤ ((2 ^ np : Nat) : Int) - 1 by omega) h5
set_option maxHeartbeats 4000000 in
set_option maxRecDepth 100000 in
theorem pX9_served_bad1 {D : va_G} {ca : Nat → ClassId} {M : gMem} {nv np : Nat} (hC : MS M nv np) (x : Int) (h : ¬ (0 ≤ x ∧ x ≤ ((2 ^ np : Nat) : Int) - 1)) (v : Int) : Fn D ca mX9_served [gR 106, gI x, gI v] SH M [gI (-1)] SH (M) := by
  refine Fn_of okX9_served (Nat.le_of_ble_eq_true rfl) (Or.inr (Or.inl ⟨_, rfl, rfl⟩)) (Nat.le_refl _) (Nat.le_refl _) ?_
  refine Go_ls2 (ls' := [(0, gR 106), (1, gI _), (2, gI _)]) rfl ?_
  have hv12 := hC.2.2.1
  have hn10 := hC.2.2.2.2
  refine Go_aload_n 0 rfl rfl dX9_served_0 ?_
  refine Go_iload_n 1 rfl rfl dX9_served_1 ?_
  refine Go_callVI (q := vwCl[9]) (fX9_isChoice hC _) cwX9_136 imX9_isChoice rfl rfl ⟨Nat.le_of_ble_eq_true rfl, Nat.le_of_ble_eq_true rfl⟩ sh_106 rfl (Nat.le_of_ble_eq_true rfl) sh_rf dX9_served_2 ?_
  refine Go_if_eq dX9_served_5 rfl (fun h5 => ?_) (fun h5 => ?_)
  · skip
    replace h5 := bI_0.mp h5
    refine Go_iconst (by unfold in32; omega) dX9_served_16 ?_
    exact Go_ret rfl dX9_served_17
  · skip
    replace h5 := bI_n.mp h5
    exact absurd h5 h
set_option maxHeartbeats 4000000 in
set_option maxRecDepth 100000 in
theorem pX9_served_bad2 {D : va_G} {ca : Nat → ClassId} {M : gMem} {nv np : Nat} (hC : MS M nv np) (x v : Int) (h : ¬ (0 ≤ v ∧ v ≤ (nv : Int) - 1)) : Fn D ca mX9_served [gR 106, gI x, gI v] SH M [gI (-1)] SH (M) := by
  refine Fn_of okX9_served (Nat.le_of_ble_eq_true rfl) (Or.inr (Or.inl ⟨_, rfl, rfl⟩)) (Nat.le_refl _) (Nat.le_refl _) ?_
  refine Go_ls2 (ls' := [(0, gR 106), (1, gI _), (2, gI _)]) rfl ?_
  have hv12 := hC.2.2.1
  have hn10 := hC.2.2.2.2
  refine Go_aload_n 0 rfl rfl dX9_served_0 ?_
  refine Go_iload_n 1 rfl rfl dX9_served_1 ?_
  refine Go_callVI (q := vwCl[9]) (fX9_isChoice hC _) cwX9_136 imX9_isChoice rfl rfl ⟨Nat.le_of_ble_eq_true rfl, Nat.le_of_ble_eq_true rfl⟩ sh_106 rfl (Nat.le_of_ble_eq_true rfl) sh_rf dX9_served_2 ?_
  refine Go_if_eq dX9_served_5 rfl (fun h5 => ?_) (fun h5 => ?_)
  · skip
    replace h5 := bI_0.mp h5
    refine Go_iconst (by unfold in32; omega) dX9_served_16 ?_
    exact Go_ret rfl dX9_served_17
  · skip
    replace h5 := bI_n.mp h5
    refine Go_aload_n 0 rfl rfl dX9_served_8 ?_
    refine Go_iload_n 2 rfl rfl dX9_served_9 ?_
    refine Go_callVI (q := vwCl[9]) (fX9_isVillage hC _) cwX9_90 imX9_isVillage rfl rfl ⟨Nat.le_of_ble_eq_true rfl, Nat.le_of_ble_eq_true rfl⟩ sh_106 rfl (Nat.le_of_ble_eq_true rfl) sh_rf dX9_served_10 ?_
    refine Go_if_ne dX9_served_13 rfl (fun h13 => ?_) (fun h13 => ?_)
    · skip
      replace h13 := bI_n.mp h13
      exact absurd h13 h
    · skip
      replace h13 := bI_0.mp h13
      refine Go_iconst (by unfold in32; omega) dX9_served_16 ?_
      exact Go_ret rfl dX9_served_17
set_option maxHeartbeats 4000000 in
set_option maxRecDepth 100000 in
theorem pX9_served {D : va_G} {ca : Nat → ClassId} {M : gMem} {nv np : Nat} (hC : MS M nv np) (hH : ∀ p, p < np → ∃ z : Nat, z < 12 ∧ M 110 p = (z : Int)) (c : Nat) (hc : c < 2 ^ np) (v : Nat) (hv : v < nv) : Fn D ca mX9_served [gR 106, gI (c : Int), gI (v : Int)] SH M [gI (svM9 (fyM M nv) np c v)] SH (fyM M nv) := by
  refine Fn_of okX9_served (Nat.le_of_ble_eq_true rfl) (Or.inr (Or.inl ⟨_, rfl, rfl⟩)) (Nat.le_refl _) (Nat.le_refl _) ?_
  refine Go_ls2 (ls' := [(0, gR 106), (1, gI _), (2, gI _)]) rfl ?_
  have hv12 := hC.2.2.1
  have hn10 := hC.2.2.2.2
  have hN := MS_fy hC
  have hpw := p10 hn10
  refine Go_aload_n 0 rfl rfl dX9_served_0 ?_
  refine Go_iload_n 1 rfl rfl dX9_served_1 ?_
  refine Go_callVI (q := vwCl[9]) (fX9_isChoice hC _) cwX9_136 imX9_isChoice rfl rfl ⟨Nat.le_of_ble_eq_true rfl, Nat.le_of_ble_eq_true rfl⟩ sh_106 rfl (Nat.le_of_ble_eq_true rfl) sh_rf dX9_served_2 ?_
  refine Go_if_eq dX9_served_5 rfl (fun h5 => ?_) (fun h5 => ?_)
  · skip
    replace h5 := bI_0.mp h5
    exact absurd (show 0 ≤ (c : Int) ∧ (c : Int) ≤ ((2 ^ np : Nat) : Int) - 1 by omega) h5
  · skip
    replace h5 := bI_n.mp h5
    refine Go_aload_n 0 rfl rfl dX9_served_8 ?_
    refine Go_iload_n 2 rfl rfl dX9_served_9 ?_
    refine Go_callVI (q := vwCl[9]) (fX9_isVillage hC _) cwX9_90 imX9_isVillage rfl rfl ⟨Nat.le_of_ble_eq_true rfl, Nat.le_of_ble_eq_true rfl⟩ sh_106 rfl (Nat.le_of_ble_eq_true rfl) sh_rf dX9_served_10 ?_
    refine Go_if_ne dX9_served_13 rfl (fun h13 => ?_) (fun h13 => ?_)
    · skip
      replace h13 := bI_n.mp h13
      refine Go_aload_n 0 rfl rfl dX9_served_18 ?_
      refine Go_callV0 (q := vwCl[9]) (fX9_findWays hC) cwX9_112 imX9_findWays rfl rfl ⟨Nat.le_of_ble_eq_true rfl, Nat.le_of_ble_eq_true rfl⟩ sh_106 rfl (Nat.le_of_ble_eq_true rfl) sh_rf dX9_served_19 ?_
      refine Go_M (M2 := fyM M nv) rfl ?_
      generalize hNe : fyM M nv = N at hN ⊢
      refine Go_aload_n 0 rfl rfl dX9_served_22 ?_
      refine Go_iload_n 1 rfl rfl dX9_served_23 ?_
      refine Go_iload_n 2 rfl rfl dX9_served_24 ?_
      refine Go_callVI (q := vwCl[9]) (fX9_servedBy hN (fun p hp => by rw [← hNe]; exact hH p hp) c v (by omega) (by omega)) cwX9_133 imX9_servedBy rfl rfl ⟨Nat.le_of_ble_eq_true rfl, Nat.le_of_ble_eq_true rfl⟩ sh_106 rfl (Nat.le_of_ble_eq_true rfl) sh_rf dX9_served_25 ?_
      refine Go_topI (v := svM9 N np c v) rfl ?_
      exact Go_ret rfl dX9_served_28
    · skip
      replace h13 := bI_0.mp h13
      exfalso; omega
def sr9 (B sv : Nat → Int) (car : Nat → Int) (p : Nat) : Nat → Int × Int × Int
  | 0 => (0, 0, 0)
  | v + 1 => if 0 < B v ∧ sv v = (p : Int) then (w32 ((sr9 B sv car p v).1 + 1), w32 ((sr9 B sv car p v).2.1 + B v), if (sr9 B sv car p v).2.2 < car v then car v else (sr9 B sv car p v).2.2) else sr9 B sv car p v
def sr9M (N : gMem) (nv np c p : Nat) : Int × Int × Int := sr9 (N 107) (svM9 N np c) (mcM N p) p nv
set_option maxHeartbeats 4000000 in
set_option maxRecDepth 100000 in
theorem pX9_share_bad1 {D : va_G} {ca : Nat → ClassId} {M : gMem} {nv np : Nat} (hC : MS M nv np) (x : Int) (h : ¬ (0 ≤ x ∧ x ≤ ((2 ^ np : Nat) : Int) - 1)) (p w : Int) : Fn D ca mX9_share [gR 106, gI x, gI p, gI w] SH M [gI (-1)] SH (M) := by
  refine Fn_of okX9_share (Nat.le_of_ble_eq_true rfl) (Or.inr (Or.inl ⟨_, rfl, rfl⟩)) (Nat.le_refl _) (Nat.le_refl _) ?_
  refine Go_ls2 (ls' := [(0, gR 106), (1, gI _), (2, gI _), (3, gI _)]) rfl ?_
  have hv12 := hC.2.2.1
  have hn10 := hC.2.2.2.2
  refine Go_aload_n 0 rfl rfl dX9_share_0 ?_
  refine Go_iload_n 1 rfl rfl dX9_share_1 ?_
  refine Go_callVI (q := vwCl[9]) (fX9_isChoice hC _) cwX9_136 imX9_isChoice rfl rfl ⟨Nat.le_of_ble_eq_true rfl, Nat.le_of_ble_eq_true rfl⟩ sh_106 rfl (Nat.le_of_ble_eq_true rfl) sh_rf dX9_share_2 ?_
  refine Go_if_eq dX9_share_5 rfl (fun h5 => ?_) (fun h5 => ?_)
  · skip
    replace h5 := bI_0.mp h5
    refine Go_iconst (by unfold in32; omega) dX9_share_28 ?_
    exact Go_ret rfl dX9_share_29
  · skip
    replace h5 := bI_n.mp h5
    exact absurd h5 h
set_option maxHeartbeats 4000000 in
set_option maxRecDepth 100000 in
theorem pX9_share_bad2 {D : va_G} {ca : Nat → ClassId} {M : gMem} {nv np : Nat} (hC : MS M nv np) (x p w : Int) (h : ¬ ((0 ≤ p ∧ p ≤ (np : Int) - 1) ∧ 0 ≤ w ∧ w ≤ 2)) : Fn D ca mX9_share [gR 106, gI x, gI p, gI w] SH M [gI (-1)] SH (M) := by
  refine Fn_of okX9_share (Nat.le_of_ble_eq_true rfl) (Or.inr (Or.inl ⟨_, rfl, rfl⟩)) (Nat.le_refl _) (Nat.le_refl _) ?_
  refine Go_ls2 (ls' := [(0, gR 106), (1, gI _), (2, gI _), (3, gI _)]) rfl ?_
  have hv12 := hC.2.2.1
  have hn10 := hC.2.2.2.2
  refine Go_aload_n 0 rfl rfl dX9_share_0 ?_
  refine Go_iload_n 1 rfl rfl dX9_share_1 ?_
  refine Go_callVI (q := vwCl[9]) (fX9_isChoice hC _) cwX9_136 imX9_isChoice rfl rfl ⟨Nat.le_of_ble_eq_true rfl, Nat.le_of_ble_eq_true rfl⟩ sh_106 rfl (Nat.le_of_ble_eq_true rfl) sh_rf dX9_share_2 ?_
  refine Go_if_eq dX9_share_5 rfl (fun h5 => ?_) (fun h5 => ?_)
  · skip
    replace h5 := bI_0.mp h5
    refine Go_iconst (by unfold in32; omega) dX9_share_28 ?_
    exact Go_ret rfl dX9_share_29
  · skip
    replace h5 := bI_n.mp h5
    refine Go_aload_n 0 rfl rfl dX9_share_8 ?_
    refine Go_iload_n 2 rfl rfl dX9_share_9 ?_
    refine Go_callVI (q := vwCl[9]) (fX9_isPlace hC _) cwX9_101 imX9_isPlace rfl rfl ⟨Nat.le_of_ble_eq_true rfl, Nat.le_of_ble_eq_true rfl⟩ sh_106 rfl (Nat.le_of_ble_eq_true rfl) sh_rf dX9_share_10 ?_
    refine Go_if_eq dX9_share_13 rfl (fun h13 => ?_) (fun h13 => ?_)
    · skip
      replace h13 := bI_0.mp h13
      refine Go_iconst (by unfold in32; omega) dX9_share_28 ?_
      exact Go_ret rfl dX9_share_29
    · skip
      replace h13 := bI_n.mp h13
      refine Go_iload_n 3 rfl rfl dX9_share_16 ?_
      refine Go_i2l dX9_share_17 ?_
      refine Go_lconst (v := 0) ⟨rfl, by unfold in64; omega⟩ dX9_share_18 ?_
      refine Go_ldc2 klX9_110 (by unfold in64; omega) dX9_share_19 ?_
      refine Go_callSI (fX9_in _ _ _) cwX9_81 smX9_in ⟨Nat.le_of_ble_eq_true rfl, Nat.le_of_ble_eq_true rfl⟩ rfl (Nat.le_of_ble_eq_true rfl) sh_rf dX9_share_22 ?_
      refine Go_if_ne dX9_share_25 rfl (fun h25 => ?_) (fun h25 => ?_)
      · skip
        replace h25 := bI_n.mp h25
        exact absurd ⟨h13, h25⟩ h
      · skip
        replace h25 := bI_0.mp h25
        refine Go_iconst (by unfold in32; omega) dX9_share_28 ?_
        exact Go_ret rfl dX9_share_29
set_option maxHeartbeats 4000000 in
set_option maxRecDepth 100000 in
theorem pX9_share_st {D : va_G} {ca : Nat → ClassId} {M : gMem} {nv np : Nat} (hC : MS M nv np) (c : Nat) (hc : c < 2 ^ np) (p : Nat) (hp : p < np) (w : Int) (hw : 0 ≤ w ∧ w ≤ 2) (h : ¬ c.testBit p = true) : Fn D ca mX9_share [gR 106, gI (c : Int), gI (p : Int), gI w] SH M [gI (-2)] SH (M) := by
  refine Fn_of okX9_share (Nat.le_of_ble_eq_true rfl) (Or.inr (Or.inl ⟨_, rfl, rfl⟩)) (Nat.le_refl _) (Nat.le_refl _) ?_
  refine Go_ls2 (ls' := [(0, gR 106), (1, gI _), (2, gI _), (3, gI _)]) rfl ?_
  have hv12 := hC.2.2.1
  have hn10 := hC.2.2.2.2
  have hpw := p10 hn10
  refine Go_aload_n 0 rfl rfl dX9_share_0 ?_
  refine Go_iload_n 1 rfl rfl dX9_share_1 ?_
  refine Go_callVI (q := vwCl[9]) (fX9_isChoice hC _) cwX9_136 imX9_isChoice rfl rfl ⟨Nat.le_of_ble_eq_true rfl, Nat.le_of_ble_eq_true rfl⟩ sh_106 rfl (Nat.le_of_ble_eq_true rfl) sh_rf dX9_share_2 ?_
  refine Go_if_eq dX9_share_5 rfl (fun h5 => ?_) (fun h5 => ?_)
  · skip
    replace h5 := bI_0.mp h5
    exact absurd (show 0 ≤ (c : Int) ∧ (c : Int) ≤ ((2 ^ np : Nat) : Int) - 1 by omega) h5
  · skip
    replace h5 := bI_n.mp h5
    refine Go_aload_n 0 rfl rfl dX9_share_8 ?_
    refine Go_iload_n 2 rfl rfl dX9_share_9 ?_
    refine Go_callVI (q := vwCl[9]) (fX9_isPlace hC _) cwX9_101 imX9_isPlace rfl rfl ⟨Nat.le_of_ble_eq_true rfl, Nat.le_of_ble_eq_true rfl⟩ sh_106 rfl (Nat.le_of_ble_eq_true rfl) sh_rf dX9_share_10 ?_
    refine Go_if_eq dX9_share_13 rfl (fun h13 => ?_) (fun h13 => ?_)
    · skip
      replace h13 := bI_0.mp h13
      exfalso; omega
    · skip
      replace h13 := bI_n.mp h13
      refine Go_iload_n 3 rfl rfl dX9_share_16 ?_
      refine Go_i2l dX9_share_17 ?_
      refine Go_lconst (v := 0) ⟨rfl, by unfold in64; omega⟩ dX9_share_18 ?_
      refine Go_ldc2 klX9_110 (by unfold in64; omega) dX9_share_19 ?_
      refine Go_callSI (fX9_in _ _ _) cwX9_81 smX9_in ⟨Nat.le_of_ble_eq_true rfl, Nat.le_of_ble_eq_true rfl⟩ rfl (Nat.le_of_ble_eq_true rfl) sh_rf dX9_share_22 ?_
      refine Go_if_ne dX9_share_25 rfl (fun h25 => ?_) (fun h25 => ?_)
      · skip
        replace h25 := bI_n.mp h25
        refine Go_iload_n 1 rfl rfl dX9_share_30 ?_
        refine Go_iload_n 2 rfl rfl dX9_share_31 ?_
        refine Go_ishr dX9_share_32 ?_
        refine Go_iconst (by unfold in32; omega) dX9_share_33 ?_
        refine Go_iand dX9_share_34 ?_
        refine Go_topI (v := bI (c.testBit p = true)) (bit_s (by omega) (by omega)) ?_
        refine Go_if_ne dX9_share_35 rfl (fun h35 => ?_) (fun h35 => ?_)
        · skip
          exact absurd (bI_n.mp h35) h
        · skip
          refine Go_bipush ⟨by decide, by unfold in32; omega⟩ dX9_share_38 ?_
          exact Go_ret rfl dX9_share_40
      · skip
        replace h25 := bI_0.mp h25
        exact absurd hw h25
set_option maxHeartbeats 4000000 in
set_option maxRecDepth 100000 in
theorem shareT {D : va_G} {ca : Nat → ClassId} {N : gMem} {nv np : Nat} (hN : MS N nv np) (hH : ∀ p, p < np → ∃ z : Nat, z < 12 ∧ N 110 p = (z : Int)) (c p : Nat) (hc : c < 1024) (hp : p < np) (w : Int) : Go D ca none (gRm mX9_share (SH.length - SH.length) (gSz SH - gSz SH)) mX9_share 45 [(0, gR 106), (1, gI (c : Int)), (2, gI (p : Int)), (3, gI w)] [] SH N [gI (if w = 0 then (sr9M N nv np c p).1 else if w = 1 then (sr9M N nv np c p).2.1 else (sr9M N nv np c p).2.2)] SH (N) := by
  have hv12 := hN.2.2.1
  have hn10 := hN.2.2.2.2
  obtain ⟨z, hz, ez⟩ := hH p hp
  have loop_57 : ∀ (k : Nat) (v : Nat) (x y g : Int), v + k = nv → sr9 (N 107) (svM9 N np c) (mcM N p) p v = (x, y, g) → Go D ca none (gRm mX9_share (SH.length - SH.length) (gSz SH - gSz SH)) mX9_share 57 [(0, gR 106), (1, gI (c : Int)), (2, gI (p : Int)), (3, gI w), (4, gI x), (5, gI y), (6, gI g), (7, gI (v : Int))] [] SH N [gI (if w = 0 then (sr9M N nv np c p).1 else if w = 1 then (sr9M N nv np c p).2.1 else (sr9M N nv np c p).2.2)] SH (N) := by
    intro k
    induction k with
    | zero =>
      intro v x y g he hx
      obtain rfl : nv = v := by omega
      refine Go_iload 7 rfl dX9_share_57 ?_
      refine Go_aload_n 0 rfl rfl dX9_share_59 ?_
      refine Go_getIv (v := (nv : Int)) hN.2.1 faX9_75 sh_106 dX9_share_60 ?_
      refine Go_icmp_ge dX9_share_63 rfl (fun h63 => ?_) (fun h63 => ?_)
      · skip
        refine Go_iload_n 3 rfl rfl dX9_share_134 ?_
        refine Go_if_ne dX9_share_135 rfl (fun h135 => ?_) (fun h135 => ?_)
        · skip
          refine Go_iload_n 3 rfl rfl dX9_share_143 ?_
          refine Go_iconst (by unfold in32; omega) dX9_share_144 ?_
          refine Go_icmp_ne dX9_share_145 rfl (fun h145 => ?_) (fun h145 => ?_)
          · skip
            refine Go_iload 6 rfl dX9_share_153 ?_
            exact Go_ret (by rw [show sr9M N nv np c p = _ from hx]; first | rw [if_pos (by exact h135)] | rw [if_neg (by exact h135), if_pos (by exact h145)] | rw [if_neg (by exact h135), if_neg (by exact h145)]) dX9_share_155
          · skip
            refine Go_iload 5 rfl dX9_share_148 ?_
            refine Go_goto dX9_share_150 rfl ?_
            exact Go_ret (by rw [show sr9M N nv np c p = _ from hx]; first | rw [if_pos (by exact h135)] | rw [if_neg (by exact h135), if_pos (by exact h145)] | rw [if_neg (by exact h135), if_neg (by exact h145)]) dX9_share_155
        · skip
          refine Go_iload 4 rfl dX9_share_138 ?_
          refine Go_goto dX9_share_140 rfl ?_
          exact Go_ret (by rw [show sr9M N nv np c p = _ from hx]; first | rw [if_pos (by exact h135)] | rw [if_neg (by exact h135), if_pos (by exact h145)] | rw [if_neg (by exact h135), if_neg (by exact h145)]) dX9_share_155
      · skip
        exact absurd h63 (by omega)
    | succ k ih_57 =>
      intro v x y g he hx
      refine Go_iload 7 rfl dX9_share_57 ?_
      refine Go_aload_n 0 rfl rfl dX9_share_59 ?_
      refine Go_getIv (v := (nv : Int)) hN.2.1 faX9_75 sh_106 dX9_share_60 ?_
      refine Go_icmp_ge dX9_share_63 rfl (fun h63 => ?_) (fun h63 => ?_)
      · skip
        exact absurd h63 (by omega)
      · skip
        refine Go_aload_n 0 rfl rfl dX9_share_66 ?_
        refine Go_getR (c' := 107) faX9_7 sh_106 (pt_106_1 (M := N) hN.1) dX9_share_67 ?_
        refine Go_iload 7 rfl dX9_share_70 ?_
        refine Go_ialoadv v (v := N 107 (v)) rfl sh_107 rfl (by omega) dX9_share_72 ?_
        refine Go_if_le dX9_share_73 rfl (fun h73 => ?_) (fun h73 => ?_)
        · skip
          refine Go_iincn v 1 rfl rfl (by omega) 7 (ls' := [(7, gI _), (0, gR 106), (1, gI _), (2, gI _), (3, gI _), (4, gI _), (5, gI _), (6, gI _)]) rfl dX9_share_128 (by decide) rfl ?_
          refine Go_goto dX9_share_131 rfl ?_
          refine Go_pick [1, 2, 3, 4, 5, 6, 7, 0] (ls' := [(0, gR 106), (1, gI _), (2, gI _), (3, gI _), (4, gI _), (5, gI _), (6, gI _), (7, gI _)]) rfl ?_
          exact ih_57 (v + 1) _ _ _ (by omega) (by simp only [sr9, hx]; first | rw [if_neg (by exact fun q => absurd q.1 (Int.not_lt.mpr h73))] | rw [if_neg (by exact fun q => h84 q.2)] | rw [if_pos (by exact ⟨h73, h84⟩), if_pos (by exact h111)] | rw [if_pos (by exact ⟨h73, h84⟩), if_neg (by exact Int.not_lt.mpr h111)])
        · skip
          refine Go_aload_n 0 rfl rfl dX9_share_76 ?_
          refine Go_iload_n 1 rfl rfl dX9_share_77 ?_
          refine Go_iload 7 rfl dX9_share_78 ?_
          refine Go_callVI (q := vwCl[9]) (fX9_servedBy hN hH c v (by omega) (by omega)) cwX9_133 imX9_servedBy rfl rfl ⟨Nat.le_of_ble_eq_true rfl, Nat.le_of_ble_eq_true rfl⟩ sh_106 rfl (Nat.le_of_ble_eq_true rfl) sh_rf dX9_share_80 ?_
          refine Go_topI (v := svM9 N np c v) rfl ?_
          refine Go_iload_n 2 rfl rfl dX9_share_83 ?_
          refine Go_icmp_ne dX9_share_84 rfl (fun h84 => ?_) (fun h84 => ?_)
          · skip
            refine Go_iincn v 1 rfl rfl (by omega) 7 (ls' := [(7, gI _), (0, gR 106), (1, gI _), (2, gI _), (3, gI _), (4, gI _), (5, gI _), (6, gI _)]) rfl dX9_share_128 (by decide) rfl ?_
            refine Go_goto dX9_share_131 rfl ?_
            refine Go_pick [1, 2, 3, 4, 5, 6, 7, 0] (ls' := [(0, gR 106), (1, gI _), (2, gI _), (3, gI _), (4, gI _), (5, gI _), (6, gI _), (7, gI _)]) rfl ?_
            exact ih_57 (v + 1) _ _ _ (by omega) (by simp only [sr9, hx]; first | rw [if_neg (by exact fun q => absurd q.1 (Int.not_lt.mpr h73))] | rw [if_neg (by exact fun q => h84 q.2)] | rw [if_pos (by exact ⟨h73, h84⟩), if_pos (by exact h111)] | rw [if_pos (by exact ⟨h73, h84⟩), if_neg (by exact Int.not_lt.mpr h111)])
          · skip
            refine Go_iinc 4 (ls' := [(4, gI _), (0, gR 106), (1, gI _), (2, gI _), (3, gI _), (5, gI _), (6, gI _), (7, gI _)]) rfl dX9_share_87 (by decide) rfl ?_
            refine Go_iload 5 rfl dX9_share_90 ?_
            refine Go_aload_n 1 rfl rfl dX9_share_92 ?_
            refine Go_getR (c' := 107) faX9_7 sh_106 (pt_106_1 (M := N) hN.1) dX9_share_93 ?_
            refine Go_iload 7 rfl dX9_share_96 ?_
            refine Go_ialoadv v (v := N 107 (v)) rfl sh_107 rfl (by omega) dX9_share_98 ?_
            refine Go_iadd dX9_share_99 ?_
            refine Go_istore (ls' := [(5, gI _), (4, gI _), (0, gR 106), (1, gI _), (2, gI _), (3, gI _), (6, gI _), (7, gI _)]) dX9_share_100 (by decide) rfl ?_
            refine Go_aload_n 2 rfl rfl dX9_share_102 ?_
            refine Go_iload_n 4 rfl rfl dX9_share_103 ?_
            refine Go_iload 7 rfl dX9_share_104 ?_
            refine Go_callVI (q := vwCl[9]) (fX9_carried hN.1 p v z (by omega) (by omega) ez hz) cwX9_115 imX9_carried rfl rfl ⟨Nat.le_of_ble_eq_true rfl, Nat.le_of_ble_eq_true rfl⟩ sh_106 rfl (Nat.le_of_ble_eq_true rfl) sh_rf dX9_share_106 ?_
            refine Go_topI (v := mcM N p v) rfl ?_
            refine Go_iload 6 rfl dX9_share_109 ?_
            refine Go_icmp_le dX9_share_111 rfl (fun h111 => ?_) (fun h111 => ?_)
            · skip
              refine Go_iload 6 rfl dX9_share_124 ?_
              refine Go_istore (ls' := [(6, gI _), (5, gI _), (4, gI _), (0, gR 106), (1, gI _), (2, gI _), (3, gI _), (7, gI _)]) dX9_share_126 (by decide) rfl ?_
              refine Go_iincn v 1 rfl rfl (by omega) 7 (ls' := [(7, gI _), (6, gI _), (5, gI _), (4, gI _), (0, gR 106), (1, gI _), (2, gI _), (3, gI _)]) rfl dX9_share_128 (by decide) rfl ?_
              refine Go_goto dX9_share_131 rfl ?_
              refine Go_pick [4, 5, 6, 7, 3, 2, 1, 0] (ls' := [(0, gR 106), (1, gI _), (2, gI _), (3, gI _), (4, gI _), (5, gI _), (6, gI _), (7, gI _)]) rfl ?_
              exact ih_57 (v + 1) _ _ _ (by omega) (by simp only [sr9, hx]; first | rw [if_neg (by exact fun q => absurd q.1 (Int.not_lt.mpr h73))] | rw [if_neg (by exact fun q => h84 q.2)] | rw [if_pos (by exact ⟨h73, h84⟩), if_pos (by exact h111)] | rw [if_pos (by exact ⟨h73, h84⟩), if_neg (by exact Int.not_lt.mpr h111)])
            · skip
              refine Go_aload_n 2 rfl rfl dX9_share_114 ?_
              refine Go_iload_n 4 rfl rfl dX9_share_115 ?_
              refine Go_iload 7 rfl dX9_share_116 ?_
              refine Go_callVI (q := vwCl[9]) (fX9_carried hN.1 p v z (by omega) (by omega) ez hz) cwX9_115 imX9_carried rfl rfl ⟨Nat.le_of_ble_eq_true rfl, Nat.le_of_ble_eq_true rfl⟩ sh_106 rfl (Nat.le_of_ble_eq_true rfl) sh_rf dX9_share_118 ?_
              refine Go_topI (v := mcM N p v) rfl ?_
              refine Go_goto dX9_share_121 rfl ?_
              refine Go_istore (ls' := [(6, gI _), (5, gI _), (4, gI _), (0, gR 106), (1, gI _), (2, gI _), (3, gI _), (7, gI _)]) dX9_share_126 (by decide) rfl ?_
              refine Go_iincn v 1 rfl rfl (by omega) 7 (ls' := [(7, gI _), (6, gI _), (5, gI _), (4, gI _), (0, gR 106), (1, gI _), (2, gI _), (3, gI _)]) rfl dX9_share_128 (by decide) rfl ?_
              refine Go_goto dX9_share_131 rfl ?_
              refine Go_pick [4, 5, 6, 7, 3, 2, 1, 0] (ls' := [(0, gR 106), (1, gI _), (2, gI _), (3, gI _), (4, gI _), (5, gI _), (6, gI _), (7, gI _)]) rfl ?_
              exact ih_57 (v + 1) _ _ _ (by omega) (by simp only [sr9, hx]; first | rw [if_neg (by exact fun q => absurd q.1 (Int.not_lt.mpr h73))] | rw [if_neg (by exact fun q => h84 q.2)] | rw [if_pos (by exact ⟨h73, h84⟩), if_pos (by exact h111)] | rw [if_pos (by exact ⟨h73, h84⟩), if_neg (by exact Int.not_lt.mpr h111)])
  refine Go_iconst (by unfold in32; omega) dX9_share_45 ?_
  refine Go_istore (ls' := [(4, gI _), (0, gR 106), (1, gI _), (2, gI _), (3, gI _)]) dX9_share_46 (by decide) rfl ?_
  refine Go_iconst (by unfold in32; omega) dX9_share_48 ?_
  refine Go_istore (ls' := [(5, gI _), (4, gI _), (0, gR 106), (1, gI _), (2, gI _), (3, gI _)]) dX9_share_49 (by decide) rfl ?_
  refine Go_iconst (by unfold in32; omega) dX9_share_51 ?_
  refine Go_istore (ls' := [(6, gI _), (5, gI _), (4, gI _), (0, gR 106), (1, gI _), (2, gI _), (3, gI _)]) dX9_share_52 (by decide) rfl ?_
  refine Go_iconst (by unfold in32; omega) dX9_share_54 ?_
  refine Go_istore (ls' := [(7, gI _), (6, gI _), (5, gI _), (4, gI _), (0, gR 106), (1, gI _), (2, gI _), (3, gI _)]) dX9_share_55 (by decide) rfl ?_
  refine Go_pick [4, 5, 6, 7, 3, 2, 1, 0] (ls' := [(0, gR 106), (1, gI _), (2, gI _), (3, gI _), (4, gI _), (5, gI _), (6, gI _), (7, gI _)]) rfl ?_
  exact loop_57 nv 0 _ _ _ (by omega) rfl
set_option maxHeartbeats 4000000 in
set_option maxRecDepth 100000 in
theorem pX9_share {D : va_G} {ca : Nat → ClassId} {M : gMem} {nv np : Nat} (hC : MS M nv np) (hH : ∀ p, p < np → ∃ z : Nat, z < 12 ∧ M 110 p = (z : Int)) (c : Nat) (hc : c < 2 ^ np) (p : Nat) (hp : p < np) (w : Int) (hw : 0 ≤ w ∧ w ≤ 2) (h : c.testBit p = true) : Fn D ca mX9_share [gR 106, gI (c : Int), gI (p : Int), gI w] SH M [gI (if w = 0 then (sr9M (fyM M nv) nv np c p).1 else if w = 1 then (sr9M (fyM M nv) nv np c p).2.1 else (sr9M (fyM M nv) nv np c p).2.2)] SH (fyM M nv) := by
  refine Fn_of okX9_share (Nat.le_of_ble_eq_true rfl) (Or.inr (Or.inl ⟨_, rfl, rfl⟩)) (Nat.le_refl _) (Nat.le_refl _) ?_
  refine Go_ls2 (ls' := [(0, gR 106), (1, gI _), (2, gI _), (3, gI _)]) rfl ?_
  have hv12 := hC.2.2.1
  have hn10 := hC.2.2.2.2
  have hN := MS_fy hC
  have hpw := p10 hn10
  refine Go_aload_n 0 rfl rfl dX9_share_0 ?_
  refine Go_iload_n 1 rfl rfl dX9_share_1 ?_
  refine Go_callVI (q := vwCl[9]) (fX9_isChoice hC _) cwX9_136 imX9_isChoice rfl rfl ⟨Nat.le_of_ble_eq_true rfl, Nat.le_of_ble_eq_true rfl⟩ sh_106 rfl (Nat.le_of_ble_eq_true rfl) sh_rf dX9_share_2 ?_
  refine Go_if_eq dX9_share_5 rfl (fun h5 => ?_) (fun h5 => ?_)
  · skip
    replace h5 := bI_0.mp h5
    exact absurd (show 0 ≤ (c : Int) ∧ (c : Int) ≤ ((2 ^ np : Nat) : Int) - 1 by omega) h5
  · skip
    replace h5 := bI_n.mp h5
    refine Go_aload_n 0 rfl rfl dX9_share_8 ?_
    refine Go_iload_n 2 rfl rfl dX9_share_9 ?_
    refine Go_callVI (q := vwCl[9]) (fX9_isPlace hC _) cwX9_101 imX9_isPlace rfl rfl ⟨Nat.le_of_ble_eq_true rfl, Nat.le_of_ble_eq_true rfl⟩ sh_106 rfl (Nat.le_of_ble_eq_true rfl) sh_rf dX9_share_10 ?_
    refine Go_if_eq dX9_share_13 rfl (fun h13 => ?_) (fun h13 => ?_)
    · skip
      replace h13 := bI_0.mp h13
      exfalso; omega
    · skip
      replace h13 := bI_n.mp h13
      refine Go_iload_n 3 rfl rfl dX9_share_16 ?_
      refine Go_i2l dX9_share_17 ?_
      refine Go_lconst (v := 0) ⟨rfl, by unfold in64; omega⟩ dX9_share_18 ?_
      refine Go_ldc2 klX9_110 (by unfold in64; omega) dX9_share_19 ?_
      refine Go_callSI (fX9_in _ _ _) cwX9_81 smX9_in ⟨Nat.le_of_ble_eq_true rfl, Nat.le_of_ble_eq_true rfl⟩ rfl (Nat.le_of_ble_eq_true rfl) sh_rf dX9_share_22 ?_
      refine Go_if_ne dX9_share_25 rfl (fun h25 => ?_) (fun h25 => ?_)
      · skip
        replace h25 := bI_n.mp h25
        refine Go_iload_n 1 rfl rfl dX9_share_30 ?_
        refine Go_iload_n 2 rfl rfl dX9_share_31 ?_
        refine Go_ishr dX9_share_32 ?_
        refine Go_iconst (by unfold in32; omega) dX9_share_33 ?_
        refine Go_iand dX9_share_34 ?_
        refine Go_topI (v := bI (c.testBit p = true)) (bit_s (by omega) (by omega)) ?_
        refine Go_if_ne dX9_share_35 rfl (fun h35 => ?_) (fun h35 => ?_)
        · skip
          refine Go_aload_n 0 rfl rfl dX9_share_41 ?_
          refine Go_callV0 (q := vwCl[9]) (fX9_findWays hC) cwX9_112 imX9_findWays rfl rfl ⟨Nat.le_of_ble_eq_true rfl, Nat.le_of_ble_eq_true rfl⟩ sh_106 rfl (Nat.le_of_ble_eq_true rfl) sh_rf dX9_share_42 ?_
          refine Go_M (M2 := fyM M nv) rfl ?_
          generalize hNe : fyM M nv = N at hN ⊢
          exact shareT hN (fun p hp => by rw [← hNe]; exact hH p hp) c p (by omega) hp w
        · skip
          exact absurd (bI_t h) (by rw [h35]; decide)
      · skip
        replace h25 := bI_0.mp h25
        exact absurd hw h25
