def stM (N : gMem) (nv : Nat) (x : Int) : gMem := gSet (gSet N 2 (gUp (N 2) nv x)) 1 (gUp (N 1) 0 ((nv + 1 : Nat) : Int))
def skM (N : gMem) (np : Nat) (x y z : Int) : gMem := gSet (gSet (gSet (gSet (gSet N 4 (gUp (N 4) np x)) 5 (gUp (N 5) np y)) 6 (gUp (N 6) np z)) 7 (gUp (N 7) np 20)) 1 (gUp (N 1) 1 ((np + 1 : Nat) : Int))
theorem CS_st {N : gMem} {nv np : Nat} (hC : CS N nv np) (h : nv < 12) (x : Int) : CS (stM N nv x) (nv + 1) np := by
  refine ⟨?_, rfl, by omega, hC.2.2.2.1, hC.2.2.2.2⟩
  exact gPtr_up (i := 1) (j := 0) (x := ((nv + 1 : Nat) : Int)) (gPtr_row (i := 2) (r := gUp (N 2) nv x) hC.1 rfl) rfl
theorem CS_sk {N : gMem} {nv np : Nat} (hC : CS N nv np) (h : np < 10) (x y z : Int) : CS (skM N np x y z) nv (np + 1) := by
  refine ⟨?_, hC.2.1, hC.2.2.1, rfl, by omega⟩
  exact gPtr_up (i := 1) (j := 1) (x := ((np + 1 : Nat) : Int)) (gPtr_row (i := 7) (r := gUp (N 7) np 20) (gPtr_row (i := 6) (r := gUp (N 6) np z) (gPtr_row (i := 5) (r := gUp (N 5) np y) (gPtr_row (i := 4) (r := gUp (N 4) np x) hC.1 rfl) rfl) rfl) rfl) rfl
theorem CS_nm {N : gMem} {nv np : Nat} (hC : CS N nv np) (x : Int) : CS (gSet N 1 (gUp (N 1) 2 x)) nv np := by
  refine ⟨?_, hC.2.1, hC.2.2.1, hC.2.2.2.1, hC.2.2.2.2⟩
  exact gPtr_up (i := 1) (j := 2) (x := x) hC.1 rfl
set_option maxHeartbeats 4000000 in
set_option maxRecDepth 100000 in
theorem pX8_village_bad {D : va_G} {ca : Nat → ClassId} {M : gMem} {nv np : Nat} (hC : CS M nv np) (x : Int) (h : ¬ (0 ≤ x ∧ x ≤ 1000)) : Fn D ca mX8_village [gR 0, gI x] SH M [gI (-1)] SH (M) := by
  refine Fn_of okX8_village (Nat.le_of_ble_eq_true rfl) (Or.inr (Or.inl ⟨_, rfl, rfl⟩)) (Nat.le_refl _) (Nat.le_refl _) ?_
  refine Go_ls2 (ls' := [(0, gR 0), (1, gI _)]) rfl ?_
  have hv12 := hC.2.2.1
  have hn10 := hC.2.2.2.2
  refine Go_iload_n 1 rfl rfl dX8_village_0 ?_
  refine Go_i2l dX8_village_1 ?_
  refine Go_lconst (v := 0) ⟨rfl, by unfold in64; omega⟩ dX8_village_2 ?_
  refine Go_ldc2 klX8_77 (by unfold in64; omega) dX8_village_3 ?_
  refine Go_callSI (fX8_isWithin _ _ _) cwX8_79 smX8_isWithin ⟨Nat.le_of_ble_eq_true rfl, Nat.le_of_ble_eq_true rfl⟩ rfl (Nat.le_of_ble_eq_true rfl) sh_rf dX8_village_6 ?_
  refine Go_if_ne dX8_village_9 rfl (fun h9 => ?_) (fun h9 => ?_)
  · skip
    replace h9 := bI_n.mp h9
    exact absurd h9 h
  · skip
    replace h9 := bI_0.mp h9
    refine Go_iconst (by unfold in32; omega) dX8_village_12 ?_
    exact Go_ret rfl dX8_village_13
set_option maxHeartbeats 4000000 in
set_option maxRecDepth 100000 in
theorem pX8_village_full {D : va_G} {ca : Nat → ClassId} {M : gMem} {nv np : Nat} (hC : CS M nv np) (x : Int) (h : 0 ≤ x ∧ x ≤ 1000) (h12 : ¬ nv < 12) : Fn D ca mX8_village [gR 0, gI x] SH M [gI (-3)] SH (M) := by
  refine Fn_of okX8_village (Nat.le_of_ble_eq_true rfl) (Or.inr (Or.inl ⟨_, rfl, rfl⟩)) (Nat.le_refl _) (Nat.le_refl _) ?_
  refine Go_ls2 (ls' := [(0, gR 0), (1, gI _)]) rfl ?_
  have hv12 := hC.2.2.1
  have hn10 := hC.2.2.2.2
  refine Go_iload_n 1 rfl rfl dX8_village_0 ?_
  refine Go_i2l dX8_village_1 ?_
  refine Go_lconst (v := 0) ⟨rfl, by unfold in64; omega⟩ dX8_village_2 ?_
  refine Go_ldc2 klX8_77 (by unfold in64; omega) dX8_village_3 ?_
  refine Go_callSI (fX8_isWithin _ _ _) cwX8_79 smX8_isWithin ⟨Nat.le_of_ble_eq_true rfl, Nat.le_of_ble_eq_true rfl⟩ rfl (Nat.le_of_ble_eq_true rfl) sh_rf dX8_village_6 ?_
  refine Go_if_ne dX8_village_9 rfl (fun h9 => ?_) (fun h9 => ?_)
  · skip
    replace h9 := bI_n.mp h9
    refine Go_aload_n 0 rfl rfl dX8_village_14 ?_
    refine Go_getR (c' := 1) faX8_14 sh_0 (pt_0_0 (M := M) hC.1) dX8_village_15 ?_
    refine Go_getIv (v := (nv : Int)) hC.2.1 faX8_83 sh_1 dX8_village_18 ?_
    refine Go_bipush ⟨by decide, by unfold in32; omega⟩ dX8_village_21 ?_
    refine Go_icmp_lt dX8_village_23 rfl (fun h23 => ?_) (fun h23 => ?_)
    · skip
      exfalso; omega
    · skip
      refine Go_bipush ⟨by decide, by unfold in32; omega⟩ dX8_village_26 ?_
      exact Go_ret rfl dX8_village_28
  · skip
    replace h9 := bI_0.mp h9
    exact absurd h h9
set_option maxHeartbeats 4000000 in
set_option maxRecDepth 100000 in
theorem pX8_village {D : va_G} {ca : Nat → ClassId} {M : gMem} {nv np : Nat} (hC : CS M nv np) (hH : ∀ p, p < np → ∃ z : Nat, z < nv ∧ M 4 p = (z : Int)) (n k : Nat) (hn : M 8 1 = (n : Int)) (hn11 : n < 11) (hk : M 8 2 = (k : Int)) (h10 : k ≤ 10) (x : Int) (h : 0 ≤ x ∧ x ≤ 1000) (h12 : nv < 12) : Fn D ca mX8_village [gR 0, gI x] SH M [gI (nv : Int)] SH (kcM (stM (cpV M (10 + 7 * n) 1) nv x) n k (nv + 1) np) := by
  refine Fn_of okX8_village (Nat.le_of_ble_eq_true rfl) (Or.inr (Or.inl ⟨_, rfl, rfl⟩)) (Nat.le_refl _) (Nat.le_refl _) ?_
  refine Go_ls2 (ls' := [(0, gR 0), (1, gI _)]) rfl ?_
  have hv12 := hC.2.2.1
  have hn10 := hC.2.2.2.2
  refine Go_iload_n 1 rfl rfl dX8_village_0 ?_
  refine Go_i2l dX8_village_1 ?_
  refine Go_lconst (v := 0) ⟨rfl, by unfold in64; omega⟩ dX8_village_2 ?_
  refine Go_ldc2 klX8_77 (by unfold in64; omega) dX8_village_3 ?_
  refine Go_callSI (fX8_isWithin _ _ _) cwX8_79 smX8_isWithin ⟨Nat.le_of_ble_eq_true rfl, Nat.le_of_ble_eq_true rfl⟩ rfl (Nat.le_of_ble_eq_true rfl) sh_rf dX8_village_6 ?_
  refine Go_if_ne dX8_village_9 rfl (fun h9 => ?_) (fun h9 => ?_)
  · skip
    replace h9 := bI_n.mp h9
    refine Go_aload_n 0 rfl rfl dX8_village_14 ?_
    refine Go_getR (c' := 1) faX8_14 sh_0 (pt_0_0 (M := M) hC.1) dX8_village_15 ?_
    refine Go_getIv (v := (nv : Int)) hC.2.1 faX8_83 sh_1 dX8_village_18 ?_
    refine Go_bipush ⟨by decide, by unfold in32; omega⟩ dX8_village_21 ?_
    refine Go_icmp_lt dX8_village_23 rfl (fun h23 => ?_) (fun h23 => ?_)
    · skip
      refine Go_aload_n 0 rfl rfl dX8_village_29 ?_
      refine Go_getR (c' := 8) faX8_21 sh_0 (pt_0_1 (M := M) hC.1) dX8_village_30 ?_
      refine Go_aload_n 0 rfl rfl dX8_village_33 ?_
      refine Go_getR (c' := 1) faX8_14 sh_0 (pt_0_0 (M := M) hC.1) dX8_village_34 ?_
      refine Go_callV0 (q := vwCl[2]) (fX2_open hC.1 n hn hn11) cwX8_87 imX2_open rfl rfl ⟨Nat.le_of_ble_eq_true rfl, Nat.le_of_ble_eq_true rfl⟩ sh_8 rfl (Nat.le_of_ble_eq_true rfl) sh_rf dX8_village_37 ?_
      generalize hNe : cpV M (10 + 7 * n) 1 = N
      have hN : CS N nv np := by rw [← hNe]; exact CS_cp hC hn11
      have hNo : ∀ i, i < 10 → N i = M i := fun i hi => by rw [← hNe]; exact cpV_out (by omega)
      refine Go_aload_n 0 rfl rfl dX8_village_40 ?_
      refine Go_getR (c' := 1) faX8_14 sh_0 (pt_0_0 (M := N) hN.1) dX8_village_41 ?_
      refine Go_iload_n 1 rfl rfl dX8_village_44 ?_
      refine Go_callVI (q := vwCl[6]) (fX6_settle hN h12 x) cwX8_90 imX6_settle rfl rfl ⟨Nat.le_of_ble_eq_true rfl, Nat.le_of_ble_eq_true rfl⟩ sh_1 rfl (Nat.le_of_ble_eq_true rfl) sh_rf dX8_village_45 ?_
      refine Go_M (M2 := stM N nv x) rfl ?_
      refine Go_istore_n (ls' := [(2, gI _), (0, gR 0), (1, gI _)]) rfl dX8_village_48 (by decide) rfl ?_
      refine Go_aload_n 1 rfl rfl dX8_village_49 ?_
      refine Go_callV0 (q := vwCl[8]) (fX8_keepChange (CS_st hN h12 x) (fun p hp => by obtain ⟨z, h1, h2⟩ := hH p hp; exact ⟨z, by omega, by show N 4 p = _; rw [hNo 4 (by decide)]; exact h2⟩) n k (by show N 8 1 = _; rw [hNo 8 (by decide)]; exact hn) hn11 (by show N 8 2 = _; rw [hNo 8 (by decide)]; exact hk) h10) cwX8_94 imX8_keepChange rfl rfl ⟨Nat.le_of_ble_eq_true rfl, Nat.le_of_ble_eq_true rfl⟩ sh_0 rfl (Nat.le_of_ble_eq_true rfl) sh_rf dX8_village_50 ?_
      refine Go_iload_n 0 rfl rfl dX8_village_53 ?_
      exact Go_ret rfl dX8_village_54
    · skip
      exfalso; omega
  · skip
    replace h9 := bI_0.mp h9
    exact absurd h h9
set_option maxHeartbeats 4000000 in
set_option maxRecDepth 100000 in
theorem pX8_loaves_bad {D : va_G} {ca : Nat → ClassId} {M : gMem} {nv np : Nat} (hC : CS M nv np) (v x : Int) (h : ¬ ((0 ≤ v ∧ v ≤ (nv : Int) - 1) ∧ 0 ≤ x ∧ x ≤ 1000)) : Fn D ca mX8_loaves [gR 0, gI v, gI x] SH M [gI (-1)] SH (M) := by
  refine Fn_of okX8_loaves (Nat.le_of_ble_eq_true rfl) (Or.inr (Or.inl ⟨_, rfl, rfl⟩)) (Nat.le_refl _) (Nat.le_refl _) ?_
  refine Go_ls2 (ls' := [(0, gR 0), (1, gI _), (2, gI _)]) rfl ?_
  have hv12 := hC.2.2.1
  have hn10 := hC.2.2.2.2
  refine Go_aload_n 0 rfl rfl dX8_loaves_0 ?_
  refine Go_getR (c' := 1) faX8_14 sh_0 (pt_0_0 (M := M) hC.1) dX8_loaves_1 ?_
  refine Go_iload_n 1 rfl rfl dX8_loaves_4 ?_
  refine Go_i2l dX8_loaves_5 ?_
  refine Go_callVI (q := vwCl[6]) (fX6_hasVillage hC _) cwX8_97 imX6_hasVillage rfl rfl ⟨Nat.le_of_ble_eq_true rfl, Nat.le_of_ble_eq_true rfl⟩ sh_1 rfl (Nat.le_of_ble_eq_true rfl) sh_rf dX8_loaves_6 ?_
  refine Go_if_eq dX8_loaves_9 rfl (fun h9 => ?_) (fun h9 => ?_)
  · skip
    replace h9 := bI_0.mp h9
    refine Go_iconst (by unfold in32; omega) dX8_loaves_24 ?_
    exact Go_ret rfl dX8_loaves_25
  · skip
    replace h9 := bI_n.mp h9
    refine Go_iload_n 2 rfl rfl dX8_loaves_12 ?_
    refine Go_i2l dX8_loaves_13 ?_
    refine Go_lconst (v := 0) ⟨rfl, by unfold in64; omega⟩ dX8_loaves_14 ?_
    refine Go_ldc2 klX8_77 (by unfold in64; omega) dX8_loaves_15 ?_
    refine Go_callSI (fX8_isWithin _ _ _) cwX8_79 smX8_isWithin ⟨Nat.le_of_ble_eq_true rfl, Nat.le_of_ble_eq_true rfl⟩ rfl (Nat.le_of_ble_eq_true rfl) sh_rf dX8_loaves_18 ?_
    refine Go_if_ne dX8_loaves_21 rfl (fun h21 => ?_) (fun h21 => ?_)
    · skip
      replace h21 := bI_n.mp h21
      exact absurd ⟨h9, h21⟩ h
    · skip
      replace h21 := bI_0.mp h21
      refine Go_iconst (by unfold in32; omega) dX8_loaves_24 ?_
      exact Go_ret rfl dX8_loaves_25
set_option maxHeartbeats 4000000 in
set_option maxRecDepth 100000 in
theorem pX8_loaves {D : va_G} {ca : Nat → ClassId} {M : gMem} {nv np : Nat} (hC : CS M nv np) (hH : ∀ p, p < np → ∃ z : Nat, z < nv ∧ M 4 p = (z : Int)) (n k : Nat) (hn : M 8 1 = (n : Int)) (hn11 : n < 11) (hk : M 8 2 = (k : Int)) (h10 : k ≤ 10) (v : Nat) (hv : v < nv) (x : Int) (h : 0 ≤ x ∧ x ≤ 1000) : Fn D ca mX8_loaves [gR 0, gI (v : Int), gI x] SH M [gI (M 2 v)] SH (kcM (gSet (cpV M (10 + 7 * n) 1) 2 (gUp ((cpV M (10 + 7 * n) 1) 2) v x)) n k nv np) := by
  refine Fn_of okX8_loaves (Nat.le_of_ble_eq_true rfl) (Or.inr (Or.inl ⟨_, rfl, rfl⟩)) (Nat.le_refl _) (Nat.le_refl _) ?_
  refine Go_ls2 (ls' := [(0, gR 0), (1, gI _), (2, gI _)]) rfl ?_
  have hv12 := hC.2.2.1
  have hn10 := hC.2.2.2.2
  refine Go_aload_n 0 rfl rfl dX8_loaves_0 ?_
  refine Go_getR (c' := 1) faX8_14 sh_0 (pt_0_0 (M := M) hC.1) dX8_loaves_1 ?_
  refine Go_iload_n 1 rfl rfl dX8_loaves_4 ?_
  refine Go_i2l dX8_loaves_5 ?_
  refine Go_callVI (q := vwCl[6]) (fX6_hasVillage hC _) cwX8_97 imX6_hasVillage rfl rfl ⟨Nat.le_of_ble_eq_true rfl, Nat.le_of_ble_eq_true rfl⟩ sh_1 rfl (Nat.le_of_ble_eq_true rfl) sh_rf dX8_loaves_6 ?_
  refine Go_if_eq dX8_loaves_9 rfl (fun h9 => ?_) (fun h9 => ?_)
  · skip
    replace h9 := bI_0.mp h9
    exfalso; omega
  · skip
    replace h9 := bI_n.mp h9
    refine Go_iload_n 2 rfl rfl dX8_loaves_12 ?_
    refine Go_i2l dX8_loaves_13 ?_
    refine Go_lconst (v := 0) ⟨rfl, by unfold in64; omega⟩ dX8_loaves_14 ?_
    refine Go_ldc2 klX8_77 (by unfold in64; omega) dX8_loaves_15 ?_
    refine Go_callSI (fX8_isWithin _ _ _) cwX8_79 smX8_isWithin ⟨Nat.le_of_ble_eq_true rfl, Nat.le_of_ble_eq_true rfl⟩ rfl (Nat.le_of_ble_eq_true rfl) sh_rf dX8_loaves_18 ?_
    refine Go_if_ne dX8_loaves_21 rfl (fun h21 => ?_) (fun h21 => ?_)
    · skip
      replace h21 := bI_n.mp h21
      refine Go_aload_n 0 rfl rfl dX8_loaves_26 ?_
      refine Go_getR (c' := 1) faX8_14 sh_0 (pt_0_0 (M := M) hC.1) dX8_loaves_27 ?_
      refine Go_getR (c' := 2) faX8_101 sh_1 (pt_1_3 (M := M) hC.1) dX8_loaves_30 ?_
      refine Go_iload_n 1 rfl rfl dX8_loaves_33 ?_
      refine Go_ialoadv v (v := M 2 (v)) rfl sh_2 rfl (by omega) dX8_loaves_34 ?_
      refine Go_istore_n (ls' := [(3, gI _), (0, gR 0), (1, gI _), (2, gI _)]) rfl dX8_loaves_35 (by decide) rfl ?_
      refine Go_aload_n 1 rfl rfl dX8_loaves_36 ?_
      refine Go_getR (c' := 8) faX8_21 sh_0 (pt_0_1 (M := M) hC.1) dX8_loaves_37 ?_
      refine Go_aload_n 1 rfl rfl dX8_loaves_40 ?_
      refine Go_getR (c' := 1) faX8_14 sh_0 (pt_0_0 (M := M) hC.1) dX8_loaves_41 ?_
      refine Go_callV0 (q := vwCl[2]) (fX2_open hC.1 n hn hn11) cwX8_87 imX2_open rfl rfl ⟨Nat.le_of_ble_eq_true rfl, Nat.le_of_ble_eq_true rfl⟩ sh_8 rfl (Nat.le_of_ble_eq_true rfl) sh_rf dX8_loaves_44 ?_
      generalize hNe : cpV M (10 + 7 * n) 1 = N
      have hN : CS N nv np := by rw [← hNe]; exact CS_cp hC hn11
      have hNo : ∀ i, i < 10 → N i = M i := fun i hi => by rw [← hNe]; exact cpV_out (by omega)
      refine Go_aload_n 1 rfl rfl dX8_loaves_47 ?_
      refine Go_getR (c' := 1) faX8_14 sh_0 (pt_0_0 (M := N) hN.1) dX8_loaves_48 ?_
      refine Go_getR (c' := 2) faX8_101 sh_1 (pt_1_3 (M := N) hN.1) dX8_loaves_51 ?_
      refine Go_iload_n 2 rfl rfl dX8_loaves_54 ?_
      refine Go_iload_n 3 rfl rfl dX8_loaves_55 ?_
      refine Go_iastore v sh_2 rfl (by omega) dX8_loaves_56 ?_
      refine Go_M (M2 := gSet N 2 (gUp (N 2) v x)) rfl ?_
      refine Go_aload_n 1 rfl rfl dX8_loaves_57 ?_
      refine Go_callV0 (q := vwCl[8]) (fX8_keepChange (CS_row (i := 2) (r := gUp (N 2) v x) hN rfl) (fun p hp => by obtain ⟨z, h1, h2⟩ := hH p hp; exact ⟨z, by omega, by show N 4 p = _; rw [hNo 4 (by decide)]; exact h2⟩) n k (by show N 8 1 = _; rw [hNo 8 (by decide)]; exact hn) hn11 (by show N 8 2 = _; rw [hNo 8 (by decide)]; exact hk) h10) cwX8_94 imX8_keepChange rfl rfl ⟨Nat.le_of_ble_eq_true rfl, Nat.le_of_ble_eq_true rfl⟩ sh_0 rfl (Nat.le_of_ble_eq_true rfl) sh_rf dX8_loaves_58 ?_
      refine Go_iload_n 0 rfl rfl dX8_loaves_61 ?_
      exact Go_ret rfl dX8_loaves_62
    · skip
      replace h21 := bI_0.mp h21
      exact absurd h h21
set_option maxHeartbeats 4000000 in
set_option maxRecDepth 100000 in
theorem pX8_road_bad {D : va_G} {ca : Nat → ClassId} {M : gMem} {nv np : Nat} (hC : CS M nv np) (a b z : Int) (h : ¬ ((0 ≤ a ∧ a ≤ (nv : Int) - 1) ∧ (0 ≤ b ∧ b ≤ (nv : Int) - 1) ∧ a ≠ b ∧ 0 ≤ z ∧ z ≤ 1000)) : Fn D ca mX8_road [gR 0, gI a, gI b, gI z] SH M [gI (-1)] SH (M) := by
  refine Fn_of okX8_road (Nat.le_of_ble_eq_true rfl) (Or.inr (Or.inl ⟨_, rfl, rfl⟩)) (Nat.le_refl _) (Nat.le_refl _) ?_
  refine Go_ls2 (ls' := [(0, gR 0), (1, gI _), (2, gI _), (3, gI _)]) rfl ?_
  have hv12 := hC.2.2.1
  have hn10 := hC.2.2.2.2
  refine Go_aload_n 0 rfl rfl dX8_road_0 ?_
  refine Go_getR (c' := 1) faX8_14 sh_0 (pt_0_0 (M := M) hC.1) dX8_road_1 ?_
  refine Go_iload_n 1 rfl rfl dX8_road_4 ?_
  refine Go_i2l dX8_road_5 ?_
  refine Go_iload_n 2 rfl rfl dX8_road_6 ?_
  refine Go_i2l dX8_road_7 ?_
  refine Go_iload_n 3 rfl rfl dX8_road_8 ?_
  refine Go_i2l dX8_road_9 ?_
  refine Go_callVI (q := vwCl[6]) (fX6_takesRoad hC _ _ _) cwX8_105 imX6_takesRoad rfl rfl ⟨Nat.le_of_ble_eq_true rfl, Nat.le_of_ble_eq_true rfl⟩ sh_1 rfl (Nat.le_of_ble_eq_true rfl) sh_rf dX8_road_10 ?_
  refine Go_if_ne dX8_road_13 rfl (fun h13 => ?_) (fun h13 => ?_)
  · skip
    replace h13 := bI_n.mp h13
    exact absurd h13 h
  · skip
    replace h13 := bI_0.mp h13
    refine Go_iconst (by unfold in32; omega) dX8_road_16 ?_
    exact Go_ret rfl dX8_road_17
set_option maxHeartbeats 4000000 in
set_option maxRecDepth 100000 in
theorem pX8_road {D : va_G} {ca : Nat → ClassId} {M : gMem} {nv np : Nat} (hC : CS M nv np) (hH : ∀ p, p < np → ∃ z : Nat, z < nv ∧ M 4 p = (z : Int)) (n k : Nat) (hn : M 8 1 = (n : Int)) (hn11 : n < 11) (hk : M 8 2 = (k : Int)) (h10 : k ≤ 10) (a b : Nat) (ha : a < nv) (hb : b < nv) (hab : a ≠ b) (z : Int) (h : 0 ≤ z ∧ z ≤ 1000) : Fn D ca mX8_road [gR 0, gI (a : Int), gI (b : Int), gI z] SH M [gI (M 3 (a * 12 + b))] SH (kcM (gSet (cpV M (10 + 7 * n) 1) 3 (gUp (gUp ((cpV M (10 + 7 * n) 1) 3) (a * 12 + b) z) (b * 12 + a) z)) n k nv np) := by
  refine Fn_of okX8_road (Nat.le_of_ble_eq_true rfl) (Or.inr (Or.inl ⟨_, rfl, rfl⟩)) (Nat.le_refl _) (Nat.le_refl _) ?_
  refine Go_ls2 (ls' := [(0, gR 0), (1, gI _), (2, gI _), (3, gI _)]) rfl ?_
  have hv12 := hC.2.2.1
  have hn10 := hC.2.2.2.2
  refine Go_aload_n 0 rfl rfl dX8_road_0 ?_
  refine Go_getR (c' := 1) faX8_14 sh_0 (pt_0_0 (M := M) hC.1) dX8_road_1 ?_
  refine Go_iload_n 1 rfl rfl dX8_road_4 ?_
  refine Go_i2l dX8_road_5 ?_
  refine Go_iload_n 2 rfl rfl dX8_road_6 ?_
  refine Go_i2l dX8_road_7 ?_
  refine Go_iload_n 3 rfl rfl dX8_road_8 ?_
  refine Go_i2l dX8_road_9 ?_
  refine Go_callVI (q := vwCl[6]) (fX6_takesRoad hC _ _ _) cwX8_105 imX6_takesRoad rfl rfl ⟨Nat.le_of_ble_eq_true rfl, Nat.le_of_ble_eq_true rfl⟩ sh_1 rfl (Nat.le_of_ble_eq_true rfl) sh_rf dX8_road_10 ?_
  refine Go_if_ne dX8_road_13 rfl (fun h13 => ?_) (fun h13 => ?_)
  · skip
    replace h13 := bI_n.mp h13
    refine Go_aload_n 0 rfl rfl dX8_road_18 ?_
    refine Go_getR (c' := 1) faX8_14 sh_0 (pt_0_0 (M := M) hC.1) dX8_road_19 ?_
    refine Go_iload_n 1 rfl rfl dX8_road_22 ?_
    refine Go_iload_n 2 rfl rfl dX8_road_23 ?_
    refine Go_callVI (q := vwCl[6]) (fX6_lengthOf hC.1 a b (by omega) (by omega) (v := M 3 (a * 12 + b)) rfl) cwX8_108 imX6_lengthOf rfl rfl ⟨Nat.le_of_ble_eq_true rfl, Nat.le_of_ble_eq_true rfl⟩ sh_1 rfl (Nat.le_of_ble_eq_true rfl) sh_rf dX8_road_24 ?_
    refine Go_istore (ls' := [(4, gI _), (0, gR 0), (1, gI _), (2, gI _), (3, gI _)]) dX8_road_27 (by decide) rfl ?_
    refine Go_aload_n 1 rfl rfl dX8_road_29 ?_
    refine Go_getR (c' := 8) faX8_21 sh_0 (pt_0_1 (M := M) hC.1) dX8_road_30 ?_
    refine Go_aload_n 1 rfl rfl dX8_road_33 ?_
    refine Go_getR (c' := 1) faX8_14 sh_0 (pt_0_0 (M := M) hC.1) dX8_road_34 ?_
    refine Go_callV0 (q := vwCl[2]) (fX2_open hC.1 n hn hn11) cwX8_87 imX2_open rfl rfl ⟨Nat.le_of_ble_eq_true rfl, Nat.le_of_ble_eq_true rfl⟩ sh_8 rfl (Nat.le_of_ble_eq_true rfl) sh_rf dX8_road_37 ?_
    generalize hNe : cpV M (10 + 7 * n) 1 = N
    have hN : CS N nv np := by rw [← hNe]; exact CS_cp hC hn11
    have hNo : ∀ i, i < 10 → N i = M i := fun i hi => by rw [← hNe]; exact cpV_out (by omega)
    refine Go_aload_n 1 rfl rfl dX8_road_40 ?_
    refine Go_getR (c' := 1) faX8_14 sh_0 (pt_0_0 (M := N) hN.1) dX8_road_41 ?_
    refine Go_iload_n 2 rfl rfl dX8_road_44 ?_
    refine Go_iload_n 3 rfl rfl dX8_road_45 ?_
    refine Go_iload_n 4 rfl rfl dX8_road_46 ?_
    refine Go_o 3 ?_
    refine Go_callV0 (q := vwCl[6]) (fX6_pave hN.1 (N 3) a b (by omega) (by omega) z) cwX8_112 imX6_pave rfl rfl ⟨Nat.le_of_ble_eq_true rfl, Nat.le_of_ble_eq_true rfl⟩ sh_1 rfl (Nat.le_of_ble_eq_true rfl) sh_rf dX8_road_47 ?_
    refine Go_aload_n 1 rfl rfl dX8_road_50 ?_
    refine Go_callV0 (q := vwCl[8]) (fX8_keepChange (CS_row (i := 3) (r := gUp (gUp (N 3) (a * 12 + b) z) (b * 12 + a) z) hN rfl) (fun p hp => by obtain ⟨z, h1, h2⟩ := hH p hp; exact ⟨z, by omega, by show N 4 p = _; rw [hNo 4 (by decide)]; exact h2⟩) n k (by show N 8 1 = _; rw [hNo 8 (by decide)]; exact hn) hn11 (by show N 8 2 = _; rw [hNo 8 (by decide)]; exact hk) h10) cwX8_94 imX8_keepChange rfl rfl ⟨Nat.le_of_ble_eq_true rfl, Nat.le_of_ble_eq_true rfl⟩ sh_0 rfl (Nat.le_of_ble_eq_true rfl) sh_rf dX8_road_51 ?_
    refine Go_iload 0 rfl dX8_road_54 ?_
    exact Go_ret rfl dX8_road_56
  · skip
    replace h13 := bI_0.mp h13
    exact absurd ⟨⟨by omega, by omega⟩, ⟨by omega, by omega⟩, by omega, h⟩ h13
set_option maxHeartbeats 4000000 in
set_option maxRecDepth 100000 in
theorem pX8_place_bad {D : va_G} {ca : Nat → ClassId} {M : gMem} {nv np : Nat} (hC : CS M nv np) (v y z : Int) (h : ¬ ((0 ≤ v ∧ v ≤ (nv : Int) - 1) ∧ (0 ≤ y ∧ y ≤ 4) ∧ 0 ≤ z ∧ z ≤ 100000)) : Fn D ca mX8_place [gR 0, gI v, gI y, gI z] SH M [gI (-1)] SH (M) := by
  refine Fn_of okX8_place (Nat.le_of_ble_eq_true rfl) (Or.inr (Or.inl ⟨_, rfl, rfl⟩)) (Nat.le_refl _) (Nat.le_refl _) ?_
  refine Go_ls2 (ls' := [(0, gR 0), (1, gI _), (2, gI _), (3, gI _)]) rfl ?_
  have hv12 := hC.2.2.1
  have hn10 := hC.2.2.2.2
  refine Go_aload_n 0 rfl rfl dX8_place_0 ?_
  refine Go_getR (c' := 1) faX8_14 sh_0 (pt_0_0 (M := M) hC.1) dX8_place_1 ?_
  refine Go_iload_n 1 rfl rfl dX8_place_4 ?_
  refine Go_i2l dX8_place_5 ?_
  refine Go_callVI (q := vwCl[6]) (fX6_hasVillage hC _) cwX8_97 imX6_hasVillage rfl rfl ⟨Nat.le_of_ble_eq_true rfl, Nat.le_of_ble_eq_true rfl⟩ sh_1 rfl (Nat.le_of_ble_eq_true rfl) sh_rf dX8_place_6 ?_
  refine Go_if_eq dX8_place_9 rfl (fun h9 => ?_) (fun h9 => ?_)
  · skip
    replace h9 := bI_0.mp h9
    refine Go_iconst (by unfold in32; omega) dX8_place_36 ?_
    exact Go_ret rfl dX8_place_37
  · skip
    replace h9 := bI_n.mp h9
    refine Go_iload_n 2 rfl rfl dX8_place_12 ?_
    refine Go_i2l dX8_place_13 ?_
    refine Go_lconst (v := 0) ⟨rfl, by unfold in64; omega⟩ dX8_place_14 ?_
    refine Go_ldc2 klX8_116 (by unfold in64; omega) dX8_place_15 ?_
    refine Go_callSI (fX8_isWithin _ _ _) cwX8_79 smX8_isWithin ⟨Nat.le_of_ble_eq_true rfl, Nat.le_of_ble_eq_true rfl⟩ rfl (Nat.le_of_ble_eq_true rfl) sh_rf dX8_place_18 ?_
    refine Go_if_eq dX8_place_21 rfl (fun h21 => ?_) (fun h21 => ?_)
    · skip
      replace h21 := bI_0.mp h21
      refine Go_iconst (by unfold in32; omega) dX8_place_36 ?_
      exact Go_ret rfl dX8_place_37
    · skip
      replace h21 := bI_n.mp h21
      refine Go_iload_n 3 rfl rfl dX8_place_24 ?_
      refine Go_i2l dX8_place_25 ?_
      refine Go_lconst (v := 0) ⟨rfl, by unfold in64; omega⟩ dX8_place_26 ?_
      refine Go_ldc2 klX8_118 (by unfold in64; omega) dX8_place_27 ?_
      refine Go_callSI (fX8_isWithin _ _ _) cwX8_79 smX8_isWithin ⟨Nat.le_of_ble_eq_true rfl, Nat.le_of_ble_eq_true rfl⟩ rfl (Nat.le_of_ble_eq_true rfl) sh_rf dX8_place_30 ?_
      refine Go_if_ne dX8_place_33 rfl (fun h33 => ?_) (fun h33 => ?_)
      · skip
        replace h33 := bI_n.mp h33
        exact absurd ⟨h9, h21, h33⟩ h
      · skip
        replace h33 := bI_0.mp h33
        refine Go_iconst (by unfold in32; omega) dX8_place_36 ?_
        exact Go_ret rfl dX8_place_37
set_option maxHeartbeats 4000000 in
set_option maxRecDepth 100000 in
theorem pX8_place_full {D : va_G} {ca : Nat → ClassId} {M : gMem} {nv np : Nat} (hC : CS M nv np) (v y z : Int) (h : (0 ≤ v ∧ v ≤ (nv : Int) - 1) ∧ (0 ≤ y ∧ y ≤ 4) ∧ 0 ≤ z ∧ z ≤ 100000) (hf : ¬ np < 10) : Fn D ca mX8_place [gR 0, gI v, gI y, gI z] SH M [gI (-3)] SH (M) := by
  refine Fn_of okX8_place (Nat.le_of_ble_eq_true rfl) (Or.inr (Or.inl ⟨_, rfl, rfl⟩)) (Nat.le_refl _) (Nat.le_refl _) ?_
  refine Go_ls2 (ls' := [(0, gR 0), (1, gI _), (2, gI _), (3, gI _)]) rfl ?_
  have hv12 := hC.2.2.1
  have hn10 := hC.2.2.2.2
  refine Go_aload_n 0 rfl rfl dX8_place_0 ?_
  refine Go_getR (c' := 1) faX8_14 sh_0 (pt_0_0 (M := M) hC.1) dX8_place_1 ?_
  refine Go_iload_n 1 rfl rfl dX8_place_4 ?_
  refine Go_i2l dX8_place_5 ?_
  refine Go_callVI (q := vwCl[6]) (fX6_hasVillage hC _) cwX8_97 imX6_hasVillage rfl rfl ⟨Nat.le_of_ble_eq_true rfl, Nat.le_of_ble_eq_true rfl⟩ sh_1 rfl (Nat.le_of_ble_eq_true rfl) sh_rf dX8_place_6 ?_
  refine Go_if_eq dX8_place_9 rfl (fun h9 => ?_) (fun h9 => ?_)
  · skip
    replace h9 := bI_0.mp h9
    exact absurd h.1 h9
  · skip
    replace h9 := bI_n.mp h9
    refine Go_iload_n 2 rfl rfl dX8_place_12 ?_
    refine Go_i2l dX8_place_13 ?_
    refine Go_lconst (v := 0) ⟨rfl, by unfold in64; omega⟩ dX8_place_14 ?_
    refine Go_ldc2 klX8_116 (by unfold in64; omega) dX8_place_15 ?_
    refine Go_callSI (fX8_isWithin _ _ _) cwX8_79 smX8_isWithin ⟨Nat.le_of_ble_eq_true rfl, Nat.le_of_ble_eq_true rfl⟩ rfl (Nat.le_of_ble_eq_true rfl) sh_rf dX8_place_18 ?_
    refine Go_if_eq dX8_place_21 rfl (fun h21 => ?_) (fun h21 => ?_)
    · skip
      replace h21 := bI_0.mp h21
      exact absurd h.2.1 h21
    · skip
      replace h21 := bI_n.mp h21
      refine Go_iload_n 3 rfl rfl dX8_place_24 ?_
      refine Go_i2l dX8_place_25 ?_
      refine Go_lconst (v := 0) ⟨rfl, by unfold in64; omega⟩ dX8_place_26 ?_
      refine Go_ldc2 klX8_118 (by unfold in64; omega) dX8_place_27 ?_
      refine Go_callSI (fX8_isWithin _ _ _) cwX8_79 smX8_isWithin ⟨Nat.le_of_ble_eq_true rfl, Nat.le_of_ble_eq_true rfl⟩ rfl (Nat.le_of_ble_eq_true rfl) sh_rf dX8_place_30 ?_
      refine Go_if_ne dX8_place_33 rfl (fun h33 => ?_) (fun h33 => ?_)
      · skip
        replace h33 := bI_n.mp h33
        refine Go_aload_n 0 rfl rfl dX8_place_38 ?_
        refine Go_getR (c' := 1) faX8_14 sh_0 (pt_0_0 (M := M) hC.1) dX8_place_39 ?_
        refine Go_getIv (v := (np : Int)) hC.2.2.2.1 faX8_120 sh_1 dX8_place_42 ?_
        refine Go_bipush ⟨by decide, by unfold in32; omega⟩ dX8_place_45 ?_
        refine Go_icmp_lt dX8_place_47 rfl (fun h47 => ?_) (fun h47 => ?_)
        · skip
          exfalso; omega
        · skip
          refine Go_bipush ⟨by decide, by unfold in32; omega⟩ dX8_place_50 ?_
          exact Go_ret rfl dX8_place_52
      · skip
        replace h33 := bI_0.mp h33
        exact absurd h.2.2 h33
set_option maxHeartbeats 4000000 in
set_option maxRecDepth 100000 in
theorem pX8_place {D : va_G} {ca : Nat → ClassId} {M : gMem} {nv np : Nat} (hC : CS M nv np) (hH : ∀ p, p < np → ∃ z : Nat, z < nv ∧ M 4 p = (z : Int)) (n k : Nat) (hn : M 8 1 = (n : Int)) (hn11 : n < 11) (hk : M 8 2 = (k : Int)) (h10 : k ≤ 10) (v : Nat) (hv : v < nv) (y z : Int) (hy : 0 ≤ y ∧ y ≤ 4) (hz : 0 ≤ z ∧ z ≤ 100000) (hf : np < 10) : Fn D ca mX8_place [gR 0, gI (v : Int), gI y, gI z] SH M [gI (np : Int)] SH (kcM (skM (cpV M (10 + 7 * n) 1) np (v : Int) y z) n k nv (np + 1)) := by
  refine Fn_of okX8_place (Nat.le_of_ble_eq_true rfl) (Or.inr (Or.inl ⟨_, rfl, rfl⟩)) (Nat.le_refl _) (Nat.le_refl _) ?_
  refine Go_ls2 (ls' := [(0, gR 0), (1, gI _), (2, gI _), (3, gI _)]) rfl ?_
  have hv12 := hC.2.2.1
  have hn10 := hC.2.2.2.2
  refine Go_aload_n 0 rfl rfl dX8_place_0 ?_
  refine Go_getR (c' := 1) faX8_14 sh_0 (pt_0_0 (M := M) hC.1) dX8_place_1 ?_
  refine Go_iload_n 1 rfl rfl dX8_place_4 ?_
  refine Go_i2l dX8_place_5 ?_
  refine Go_callVI (q := vwCl[6]) (fX6_hasVillage hC _) cwX8_97 imX6_hasVillage rfl rfl ⟨Nat.le_of_ble_eq_true rfl, Nat.le_of_ble_eq_true rfl⟩ sh_1 rfl (Nat.le_of_ble_eq_true rfl) sh_rf dX8_place_6 ?_
  refine Go_if_eq dX8_place_9 rfl (fun h9 => ?_) (fun h9 => ?_)
  · skip
    replace h9 := bI_0.mp h9
    exfalso; omega
  · skip
    replace h9 := bI_n.mp h9
    refine Go_iload_n 2 rfl rfl dX8_place_12 ?_
    refine Go_i2l dX8_place_13 ?_
    refine Go_lconst (v := 0) ⟨rfl, by unfold in64; omega⟩ dX8_place_14 ?_
    refine Go_ldc2 klX8_116 (by unfold in64; omega) dX8_place_15 ?_
    refine Go_callSI (fX8_isWithin _ _ _) cwX8_79 smX8_isWithin ⟨Nat.le_of_ble_eq_true rfl, Nat.le_of_ble_eq_true rfl⟩ rfl (Nat.le_of_ble_eq_true rfl) sh_rf dX8_place_18 ?_
    refine Go_if_eq dX8_place_21 rfl (fun h21 => ?_) (fun h21 => ?_)
    · skip
      replace h21 := bI_0.mp h21
      exact absurd hy h21
    · skip
      replace h21 := bI_n.mp h21
      refine Go_iload_n 3 rfl rfl dX8_place_24 ?_
      refine Go_i2l dX8_place_25 ?_
      refine Go_lconst (v := 0) ⟨rfl, by unfold in64; omega⟩ dX8_place_26 ?_
      refine Go_ldc2 klX8_118 (by unfold in64; omega) dX8_place_27 ?_
      refine Go_callSI (fX8_isWithin _ _ _) cwX8_79 smX8_isWithin ⟨Nat.le_of_ble_eq_true rfl, Nat.le_of_ble_eq_true rfl⟩ rfl (Nat.le_of_ble_eq_true rfl) sh_rf dX8_place_30 ?_
      refine Go_if_ne dX8_place_33 rfl (fun h33 => ?_) (fun h33 => ?_)
      · skip
        replace h33 := bI_n.mp h33
        refine Go_aload_n 0 rfl rfl dX8_place_38 ?_
        refine Go_getR (c' := 1) faX8_14 sh_0 (pt_0_0 (M := M) hC.1) dX8_place_39 ?_
        refine Go_getIv (v := (np : Int)) hC.2.2.2.1 faX8_120 sh_1 dX8_place_42 ?_
        refine Go_bipush ⟨by decide, by unfold in32; omega⟩ dX8_place_45 ?_
        refine Go_icmp_lt dX8_place_47 rfl (fun h47 => ?_) (fun h47 => ?_)
        · skip
          refine Go_aload_n 0 rfl rfl dX8_place_53 ?_
          refine Go_getR (c' := 8) faX8_21 sh_0 (pt_0_1 (M := M) hC.1) dX8_place_54 ?_
          refine Go_aload_n 0 rfl rfl dX8_place_57 ?_
          refine Go_getR (c' := 1) faX8_14 sh_0 (pt_0_0 (M := M) hC.1) dX8_place_58 ?_
          refine Go_callV0 (q := vwCl[2]) (fX2_open hC.1 n hn hn11) cwX8_87 imX2_open rfl rfl ⟨Nat.le_of_ble_eq_true rfl, Nat.le_of_ble_eq_true rfl⟩ sh_8 rfl (Nat.le_of_ble_eq_true rfl) sh_rf dX8_place_61 ?_
          generalize hNe : cpV M (10 + 7 * n) 1 = N
          have hN : CS N nv np := by rw [← hNe]; exact CS_cp hC hn11
          have hNo : ∀ i, i < 10 → N i = M i := fun i hi => by rw [← hNe]; exact cpV_out (by omega)
          refine Go_aload_n 0 rfl rfl dX8_place_64 ?_
          refine Go_getR (c' := 1) faX8_14 sh_0 (pt_0_0 (M := N) hN.1) dX8_place_65 ?_
          refine Go_iload_n 1 rfl rfl dX8_place_68 ?_
          refine Go_iload_n 2 rfl rfl dX8_place_69 ?_
          refine Go_iload_n 3 rfl rfl dX8_place_70 ?_
          refine Go_callVI (q := vwCl[6]) (fX6_stake hN hf _ _ _) cwX8_123 imX6_stake rfl rfl ⟨Nat.le_of_ble_eq_true rfl, Nat.le_of_ble_eq_true rfl⟩ sh_1 rfl (Nat.le_of_ble_eq_true rfl) sh_rf dX8_place_71 ?_
          refine Go_M (M2 := skM N np (v : Int) y z) rfl ?_
          refine Go_istore (ls' := [(4, gI _), (0, gR 0), (1, gI _), (2, gI _), (3, gI _)]) dX8_place_74 (by decide) rfl ?_
          refine Go_aload_n 1 rfl rfl dX8_place_76 ?_
          have hHK : ∀ p, p < np + 1 → ∃ q : Nat, q < nv ∧ skM N np (v : Int) y z 4 p = (q : Int) := (fun p hp => by
  by_cases ep : p = np
  · subst ep; exact ⟨v, hv, gUp_s _ _ _⟩
  · obtain ⟨z, h1, h2⟩ := hH p (by omega); exact ⟨z, h1, (gUp_n ep).trans (by rw [hNo 4 (by decide)]; exact h2)⟩)
          refine Go_callV0 (q := vwCl[8]) (fX8_keepChange (CS_sk hN hf (v : Int) y z) hHK n k (by show N 8 1 = _; rw [hNo 8 (by decide)]; exact hn) hn11 (by show N 8 2 = _; rw [hNo 8 (by decide)]; exact hk) h10) cwX8_94 imX8_keepChange rfl rfl ⟨Nat.le_of_ble_eq_true rfl, Nat.le_of_ble_eq_true rfl⟩ sh_0 rfl (Nat.le_of_ble_eq_true rfl) sh_rf dX8_place_77 ?_
          refine Go_iload 0 rfl dX8_place_80 ?_
          exact Go_ret rfl dX8_place_82
        · skip
          exfalso; omega
      · skip
        replace h33 := bI_0.mp h33
        exact absurd hz h33
set_option maxHeartbeats 4000000 in
set_option maxRecDepth 100000 in
theorem pX8_reach_bad {D : va_G} {ca : Nat → ClassId} {M : gMem} {nv np : Nat} (hC : CS M nv np) (p x : Int) (h : ¬ ((0 ≤ p ∧ p ≤ (np : Int) - 1) ∧ 0 ≤ x ∧ x ≤ 12000)) : Fn D ca mX8_reach [gR 0, gI p, gI x] SH M [gI (-1)] SH (M) := by
  refine Fn_of okX8_reach (Nat.le_of_ble_eq_true rfl) (Or.inr (Or.inl ⟨_, rfl, rfl⟩)) (Nat.le_refl _) (Nat.le_refl _) ?_
  refine Go_ls2 (ls' := [(0, gR 0), (1, gI _), (2, gI _)]) rfl ?_
  have hv12 := hC.2.2.1
  have hn10 := hC.2.2.2.2
  refine Go_aload_n 0 rfl rfl dX8_reach_0 ?_
  refine Go_getR (c' := 1) faX8_14 sh_0 (pt_0_0 (M := M) hC.1) dX8_reach_1 ?_
  refine Go_iload_n 1 rfl rfl dX8_reach_4 ?_
  refine Go_callVI (q := vwCl[6]) (fX6_hasPlace hC _) cwX8_127 imX6_hasPlace rfl rfl ⟨Nat.le_of_ble_eq_true rfl, Nat.le_of_ble_eq_true rfl⟩ sh_1 rfl (Nat.le_of_ble_eq_true rfl) sh_rf dX8_reach_5 ?_
  refine Go_if_eq dX8_reach_8 rfl (fun h8 => ?_) (fun h8 => ?_)
  · skip
    replace h8 := bI_0.mp h8
    refine Go_iconst (by unfold in32; omega) dX8_reach_23 ?_
    exact Go_ret rfl dX8_reach_24
  · skip
    replace h8 := bI_n.mp h8
    refine Go_iload_n 2 rfl rfl dX8_reach_11 ?_
    refine Go_i2l dX8_reach_12 ?_
    refine Go_lconst (v := 0) ⟨rfl, by unfold in64; omega⟩ dX8_reach_13 ?_
    refine Go_ldc2 klX8_131 (by unfold in64; omega) dX8_reach_14 ?_
    refine Go_callSI (fX8_isWithin _ _ _) cwX8_79 smX8_isWithin ⟨Nat.le_of_ble_eq_true rfl, Nat.le_of_ble_eq_true rfl⟩ rfl (Nat.le_of_ble_eq_true rfl) sh_rf dX8_reach_17 ?_
    refine Go_if_ne dX8_reach_20 rfl (fun h20 => ?_) (fun h20 => ?_)
    · skip
      replace h20 := bI_n.mp h20
      exact absurd ⟨h8, h20⟩ h
    · skip
      replace h20 := bI_0.mp h20
      refine Go_iconst (by unfold in32; omega) dX8_reach_23 ?_
      exact Go_ret rfl dX8_reach_24
set_option maxHeartbeats 4000000 in
set_option maxRecDepth 100000 in
theorem pX8_reach_st {D : va_G} {ca : Nat → ClassId} {M : gMem} {nv np : Nat} (hC : CS M nv np) (p : Nat) (hp : p < np) (x : Int) (h : 0 ≤ x ∧ x ≤ 12000) (h4 : M 5 p ≠ 4) : Fn D ca mX8_reach [gR 0, gI (p : Int), gI x] SH M [gI (-2)] SH (M) := by
  refine Fn_of okX8_reach (Nat.le_of_ble_eq_true rfl) (Or.inr (Or.inl ⟨_, rfl, rfl⟩)) (Nat.le_refl _) (Nat.le_refl _) ?_
  refine Go_ls2 (ls' := [(0, gR 0), (1, gI _), (2, gI _)]) rfl ?_
  have hv12 := hC.2.2.1
  have hn10 := hC.2.2.2.2
  refine Go_aload_n 0 rfl rfl dX8_reach_0 ?_
  refine Go_getR (c' := 1) faX8_14 sh_0 (pt_0_0 (M := M) hC.1) dX8_reach_1 ?_
  refine Go_iload_n 1 rfl rfl dX8_reach_4 ?_
  refine Go_callVI (q := vwCl[6]) (fX6_hasPlace hC _) cwX8_127 imX6_hasPlace rfl rfl ⟨Nat.le_of_ble_eq_true rfl, Nat.le_of_ble_eq_true rfl⟩ sh_1 rfl (Nat.le_of_ble_eq_true rfl) sh_rf dX8_reach_5 ?_
  refine Go_if_eq dX8_reach_8 rfl (fun h8 => ?_) (fun h8 => ?_)
  · skip
    replace h8 := bI_0.mp h8
    exfalso; omega
  · skip
    replace h8 := bI_n.mp h8
    refine Go_iload_n 2 rfl rfl dX8_reach_11 ?_
    refine Go_i2l dX8_reach_12 ?_
    refine Go_lconst (v := 0) ⟨rfl, by unfold in64; omega⟩ dX8_reach_13 ?_
    refine Go_ldc2 klX8_131 (by unfold in64; omega) dX8_reach_14 ?_
    refine Go_callSI (fX8_isWithin _ _ _) cwX8_79 smX8_isWithin ⟨Nat.le_of_ble_eq_true rfl, Nat.le_of_ble_eq_true rfl⟩ rfl (Nat.le_of_ble_eq_true rfl) sh_rf dX8_reach_17 ?_
    refine Go_if_ne dX8_reach_20 rfl (fun h20 => ?_) (fun h20 => ?_)
    · skip
      replace h20 := bI_n.mp h20
      refine Go_aload_n 0 rfl rfl dX8_reach_25 ?_
      refine Go_getR (c' := 1) faX8_14 sh_0 (pt_0_0 (M := M) hC.1) dX8_reach_26 ?_
      refine Go_getR (c' := 5) faX8_133 sh_1 (pt_1_6 (M := M) hC.1) dX8_reach_29 ?_
      refine Go_iload_n 1 rfl rfl dX8_reach_32 ?_
      refine Go_ialoadv p (v := M 5 (p)) rfl sh_5 rfl (by omega) dX8_reach_33 ?_
      refine Go_iconst (by unfold in32; omega) dX8_reach_34 ?_
      refine Go_icmp_eq dX8_reach_35 rfl (fun h35 => ?_) (fun h35 => ?_)
      · skip
        exact absurd h35 h4
      · skip
        refine Go_bipush ⟨by decide, by unfold in32; omega⟩ dX8_reach_38 ?_
        exact Go_ret rfl dX8_reach_40
    · skip
      replace h20 := bI_0.mp h20
      exact absurd h h20
set_option maxHeartbeats 4000000 in
set_option maxRecDepth 100000 in
theorem pX8_reach {D : va_G} {ca : Nat → ClassId} {M : gMem} {nv np : Nat} (hC : CS M nv np) (hH : ∀ p, p < np → ∃ z : Nat, z < nv ∧ M 4 p = (z : Int)) (n k : Nat) (hn : M 8 1 = (n : Int)) (hn11 : n < 11) (hk : M 8 2 = (k : Int)) (h10 : k ≤ 10) (p : Nat) (hp : p < np) (x : Int) (h : 0 ≤ x ∧ x ≤ 12000) (h4 : M 5 p = 4) : Fn D ca mX8_reach [gR 0, gI (p : Int), gI x] SH M [gI (M 7 p)] SH (kcM (gSet (cpV M (10 + 7 * n) 1) 7 (gUp ((cpV M (10 + 7 * n) 1) 7) p x)) n k nv np) := by
  refine Fn_of okX8_reach (Nat.le_of_ble_eq_true rfl) (Or.inr (Or.inl ⟨_, rfl, rfl⟩)) (Nat.le_refl _) (Nat.le_refl _) ?_
  refine Go_ls2 (ls' := [(0, gR 0), (1, gI _), (2, gI _)]) rfl ?_
  have hv12 := hC.2.2.1
  have hn10 := hC.2.2.2.2
  refine Go_aload_n 0 rfl rfl dX8_reach_0 ?_
  refine Go_getR (c' := 1) faX8_14 sh_0 (pt_0_0 (M := M) hC.1) dX8_reach_1 ?_
  refine Go_iload_n 1 rfl rfl dX8_reach_4 ?_
  refine Go_callVI (q := vwCl[6]) (fX6_hasPlace hC _) cwX8_127 imX6_hasPlace rfl rfl ⟨Nat.le_of_ble_eq_true rfl, Nat.le_of_ble_eq_true rfl⟩ sh_1 rfl (Nat.le_of_ble_eq_true rfl) sh_rf dX8_reach_5 ?_
  refine Go_if_eq dX8_reach_8 rfl (fun h8 => ?_) (fun h8 => ?_)
  · skip
    replace h8 := bI_0.mp h8
    exfalso; omega
  · skip
    replace h8 := bI_n.mp h8
    refine Go_iload_n 2 rfl rfl dX8_reach_11 ?_
    refine Go_i2l dX8_reach_12 ?_
    refine Go_lconst (v := 0) ⟨rfl, by unfold in64; omega⟩ dX8_reach_13 ?_
    refine Go_ldc2 klX8_131 (by unfold in64; omega) dX8_reach_14 ?_
    refine Go_callSI (fX8_isWithin _ _ _) cwX8_79 smX8_isWithin ⟨Nat.le_of_ble_eq_true rfl, Nat.le_of_ble_eq_true rfl⟩ rfl (Nat.le_of_ble_eq_true rfl) sh_rf dX8_reach_17 ?_
    refine Go_if_ne dX8_reach_20 rfl (fun h20 => ?_) (fun h20 => ?_)
    · skip
      replace h20 := bI_n.mp h20
      refine Go_aload_n 0 rfl rfl dX8_reach_25 ?_
      refine Go_getR (c' := 1) faX8_14 sh_0 (pt_0_0 (M := M) hC.1) dX8_reach_26 ?_
      refine Go_getR (c' := 5) faX8_133 sh_1 (pt_1_6 (M := M) hC.1) dX8_reach_29 ?_
      refine Go_iload_n 1 rfl rfl dX8_reach_32 ?_
      refine Go_ialoadv p (v := M 5 (p)) rfl sh_5 rfl (by omega) dX8_reach_33 ?_
      refine Go_iconst (by unfold in32; omega) dX8_reach_34 ?_
      refine Go_icmp_eq dX8_reach_35 rfl (fun h35 => ?_) (fun h35 => ?_)
      · skip
        refine Go_aload_n 0 rfl rfl dX8_reach_41 ?_
        refine Go_getR (c' := 1) faX8_14 sh_0 (pt_0_0 (M := M) hC.1) dX8_reach_42 ?_
        refine Go_getR (c' := 7) faX8_136 sh_1 (pt_1_8 (M := M) hC.1) dX8_reach_45 ?_
        refine Go_iload_n 1 rfl rfl dX8_reach_48 ?_
        refine Go_ialoadv p (v := M 7 (p)) rfl sh_7 rfl (by omega) dX8_reach_49 ?_
        refine Go_istore_n (ls' := [(3, gI _), (0, gR 0), (1, gI _), (2, gI _)]) rfl dX8_reach_50 (by decide) rfl ?_
        refine Go_aload_n 1 rfl rfl dX8_reach_51 ?_
        refine Go_getR (c' := 8) faX8_21 sh_0 (pt_0_1 (M := M) hC.1) dX8_reach_52 ?_
        refine Go_aload_n 1 rfl rfl dX8_reach_55 ?_
        refine Go_getR (c' := 1) faX8_14 sh_0 (pt_0_0 (M := M) hC.1) dX8_reach_56 ?_
        refine Go_callV0 (q := vwCl[2]) (fX2_open hC.1 n hn hn11) cwX8_87 imX2_open rfl rfl ⟨Nat.le_of_ble_eq_true rfl, Nat.le_of_ble_eq_true rfl⟩ sh_8 rfl (Nat.le_of_ble_eq_true rfl) sh_rf dX8_reach_59 ?_
        generalize hNe : cpV M (10 + 7 * n) 1 = N
        have hN : CS N nv np := by rw [← hNe]; exact CS_cp hC hn11
        have hNo : ∀ i, i < 10 → N i = M i := fun i hi => by rw [← hNe]; exact cpV_out (by omega)
        refine Go_aload_n 1 rfl rfl dX8_reach_62 ?_
        refine Go_getR (c' := 1) faX8_14 sh_0 (pt_0_0 (M := N) hN.1) dX8_reach_63 ?_
        refine Go_getR (c' := 7) faX8_136 sh_1 (pt_1_8 (M := N) hN.1) dX8_reach_66 ?_
        refine Go_iload_n 2 rfl rfl dX8_reach_69 ?_
        refine Go_iload_n 3 rfl rfl dX8_reach_70 ?_
        refine Go_iastore p sh_7 rfl (by omega) dX8_reach_71 ?_
        refine Go_M (M2 := gSet N 7 (gUp (N 7) p x)) rfl ?_
        refine Go_aload_n 1 rfl rfl dX8_reach_72 ?_
        refine Go_callV0 (q := vwCl[8]) (fX8_keepChange (CS_row (i := 7) (r := gUp (N 7) p x) hN rfl) (fun p hp => by obtain ⟨z, h1, h2⟩ := hH p hp; exact ⟨z, by omega, by show N 4 p = _; rw [hNo 4 (by decide)]; exact h2⟩) n k (by show N 8 1 = _; rw [hNo 8 (by decide)]; exact hn) hn11 (by show N 8 2 = _; rw [hNo 8 (by decide)]; exact hk) h10) cwX8_94 imX8_keepChange rfl rfl ⟨Nat.le_of_ble_eq_true rfl, Nat.le_of_ble_eq_true rfl⟩ sh_0 rfl (Nat.le_of_ble_eq_true rfl) sh_rf dX8_reach_73 ?_
        refine Go_iload_n 0 rfl rfl dX8_reach_76 ?_
        exact Go_ret rfl dX8_reach_77
      · skip
        exact absurd h4 h35
    · skip
      replace h20 := bI_0.mp h20
      exact absurd h h20
set_option maxHeartbeats 4000000 in
set_option maxRecDepth 100000 in
theorem pX8_number_bad {D : va_G} {ca : Nat → ClassId} {M : gMem} {nv np : Nat} (hC : CS M nv np) (x : Int) (h : ¬ (0 ≤ x ∧ x ≤ 20)) : Fn D ca mX8_number [gR 0, gI x] SH M [gI (-1)] SH (M) := by
  refine Fn_of okX8_number (Nat.le_of_ble_eq_true rfl) (Or.inr (Or.inl ⟨_, rfl, rfl⟩)) (Nat.le_refl _) (Nat.le_refl _) ?_
  refine Go_ls2 (ls' := [(0, gR 0), (1, gI _)]) rfl ?_
  have hv12 := hC.2.2.1
  have hn10 := hC.2.2.2.2
  refine Go_iload_n 1 rfl rfl dX8_number_0 ?_
  refine Go_i2l dX8_number_1 ?_
  refine Go_lconst (v := 0) ⟨rfl, by unfold in64; omega⟩ dX8_number_2 ?_
  refine Go_ldc2 klX8_139 (by unfold in64; omega) dX8_number_3 ?_
  refine Go_callSI (fX8_isWithin _ _ _) cwX8_79 smX8_isWithin ⟨Nat.le_of_ble_eq_true rfl, Nat.le_of_ble_eq_true rfl⟩ rfl (Nat.le_of_ble_eq_true rfl) sh_rf dX8_number_6 ?_
  refine Go_if_ne dX8_number_9 rfl (fun h9 => ?_) (fun h9 => ?_)
  · skip
    replace h9 := bI_n.mp h9
    exact absurd h9 h
  · skip
    replace h9 := bI_0.mp h9
    refine Go_iconst (by unfold in32; omega) dX8_number_12 ?_
    exact Go_ret rfl dX8_number_13
set_option maxHeartbeats 4000000 in
set_option maxRecDepth 100000 in
theorem pX8_number {D : va_G} {ca : Nat → ClassId} {M : gMem} {nv np : Nat} (hC : CS M nv np) (hH : ∀ p, p < np → ∃ z : Nat, z < nv ∧ M 4 p = (z : Int)) (n k : Nat) (hn : M 8 1 = (n : Int)) (hn11 : n < 11) (hk : M 8 2 = (k : Int)) (h10 : k ≤ 10) (x : Int) (h : 0 ≤ x ∧ x ≤ 20) : Fn D ca mX8_number [gR 0, gI x] SH M [gI (M 1 2)] SH (kcM (gSet (cpV M (10 + 7 * n) 1) 1 (gUp ((cpV M (10 + 7 * n) 1) 1) 2 x)) n k nv np) := by
  refine Fn_of okX8_number (Nat.le_of_ble_eq_true rfl) (Or.inr (Or.inl ⟨_, rfl, rfl⟩)) (Nat.le_refl _) (Nat.le_refl _) ?_
  refine Go_ls2 (ls' := [(0, gR 0), (1, gI _)]) rfl ?_
  have hv12 := hC.2.2.1
  have hn10 := hC.2.2.2.2
  refine Go_iload_n 1 rfl rfl dX8_number_0 ?_
  refine Go_i2l dX8_number_1 ?_
  refine Go_lconst (v := 0) ⟨rfl, by unfold in64; omega⟩ dX8_number_2 ?_
  refine Go_ldc2 klX8_139 (by unfold in64; omega) dX8_number_3 ?_
  refine Go_callSI (fX8_isWithin _ _ _) cwX8_79 smX8_isWithin ⟨Nat.le_of_ble_eq_true rfl, Nat.le_of_ble_eq_true rfl⟩ rfl (Nat.le_of_ble_eq_true rfl) sh_rf dX8_number_6 ?_
  refine Go_if_ne dX8_number_9 rfl (fun h9 => ?_) (fun h9 => ?_)
  · skip
    replace h9 := bI_n.mp h9
    refine Go_aload_n 0 rfl rfl dX8_number_14 ?_
    refine Go_getR (c' := 1) faX8_14 sh_0 (pt_0_0 (M := M) hC.1) dX8_number_15 ?_
    refine Go_getIv (v := M 1 2) rfl faX8_141 sh_1 dX8_number_18 ?_
    refine Go_istore_n (ls' := [(2, gI _), (0, gR 0), (1, gI _)]) rfl dX8_number_21 (by decide) rfl ?_
    refine Go_aload_n 1 rfl rfl dX8_number_22 ?_
    refine Go_getR (c' := 8) faX8_21 sh_0 (pt_0_1 (M := M) hC.1) dX8_number_23 ?_
    refine Go_aload_n 1 rfl rfl dX8_number_26 ?_
    refine Go_getR (c' := 1) faX8_14 sh_0 (pt_0_0 (M := M) hC.1) dX8_number_27 ?_
    refine Go_callV0 (q := vwCl[2]) (fX2_open hC.1 n hn hn11) cwX8_87 imX2_open rfl rfl ⟨Nat.le_of_ble_eq_true rfl, Nat.le_of_ble_eq_true rfl⟩ sh_8 rfl (Nat.le_of_ble_eq_true rfl) sh_rf dX8_number_30 ?_
    generalize hNe : cpV M (10 + 7 * n) 1 = N
    have hN : CS N nv np := by rw [← hNe]; exact CS_cp hC hn11
    have hNo : ∀ i, i < 10 → N i = M i := fun i hi => by rw [← hNe]; exact cpV_out (by omega)
    refine Go_aload_n 1 rfl rfl dX8_number_33 ?_
    refine Go_getR (c' := 1) faX8_14 sh_0 (pt_0_0 (M := N) hN.1) dX8_number_34 ?_
    refine Go_iload_n 2 rfl rfl dX8_number_37 ?_
    refine Go_putI fpX8_141 sh_1 dX8_number_38 ?_
    refine Go_aload_n 1 rfl rfl dX8_number_41 ?_
    refine Go_callV0 (q := vwCl[8]) (fX8_keepChange (CS_nm hN x) (fun p hp => by obtain ⟨z, h1, h2⟩ := hH p hp; exact ⟨z, by omega, by show N 4 p = _; rw [hNo 4 (by decide)]; exact h2⟩) n k (by show N 8 1 = _; rw [hNo 8 (by decide)]; exact hn) hn11 (by show N 8 2 = _; rw [hNo 8 (by decide)]; exact hk) h10) cwX8_94 imX8_keepChange rfl rfl ⟨Nat.le_of_ble_eq_true rfl, Nat.le_of_ble_eq_true rfl⟩ sh_0 rfl (Nat.le_of_ble_eq_true rfl) sh_rf dX8_number_42 ?_
    refine Go_iload_n 0 rfl rfl dX8_number_45 ?_
    exact Go_ret rfl dX8_number_46
  · skip
    replace h9 := bI_0.mp h9
    exact absurd h h9
set_option maxHeartbeats 4000000 in
set_option maxRecDepth 100000 in
theorem pX8_draw_bad {D : va_G} {ca : Nat → ClassId} {M : gMem} {nv np : Nat} (hC : CS M nv np) (k z n : Int) (h : ¬ ((0 ≤ k ∧ k ≤ 3) ∧ (0 ≤ z ∧ z ≤ 2) ∧ 0 ≤ n)) : Fn D ca mX8_draw [gR 0, gI k, gI z, gI n] SH M [gI (-1)] SH (M) := by
  refine Fn_of okX8_draw (Nat.le_of_ble_eq_true rfl) (Or.inr (Or.inl ⟨_, rfl, rfl⟩)) (Nat.le_refl _) (Nat.le_refl _) ?_
  refine Go_ls2 (ls' := [(0, gR 0), (1, gI _), (2, gI _), (3, gI _)]) rfl ?_
  have hv12 := hC.2.2.1
  have hn10 := hC.2.2.2.2
  refine Go_iload_n 1 rfl rfl dX8_draw_0 ?_
  refine Go_callSI (fX8_isMap _) cwX8_144 smX8_isMap ⟨Nat.le_of_ble_eq_true rfl, Nat.le_of_ble_eq_true rfl⟩ rfl (Nat.le_of_ble_eq_true rfl) sh_rf dX8_draw_1 ?_
  refine Go_if_eq dX8_draw_4 rfl (fun h4 => ?_) (fun h4 => ?_)
  · skip
    replace h4 := bI_0.mp h4
    refine Go_iconst (by unfold in32; omega) dX8_draw_18 ?_
    exact Go_ret rfl dX8_draw_19
  · skip
    replace h4 := bI_n.mp h4
    refine Go_iload_n 2 rfl rfl dX8_draw_7 ?_
    refine Go_callSI (fX8_isLane _) cwX8_147 smX8_isLane ⟨Nat.le_of_ble_eq_true rfl, Nat.le_of_ble_eq_true rfl⟩ rfl (Nat.le_of_ble_eq_true rfl) sh_rf dX8_draw_8 ?_
    refine Go_if_eq dX8_draw_11 rfl (fun h11 => ?_) (fun h11 => ?_)
    · skip
      replace h11 := bI_0.mp h11
      refine Go_iconst (by unfold in32; omega) dX8_draw_18 ?_
      exact Go_ret rfl dX8_draw_19
    · skip
      replace h11 := bI_n.mp h11
      refine Go_iload_n 3 rfl rfl dX8_draw_14 ?_
      refine Go_if_ge dX8_draw_15 rfl (fun h15 => ?_) (fun h15 => ?_)
      · skip
        exact absurd ⟨h4, h11, h15⟩ h
      · skip
        refine Go_iconst (by unfold in32; omega) dX8_draw_18 ?_
        exact Go_ret rfl dX8_draw_19
set_option maxHeartbeats 4000000 in
set_option maxRecDepth 100000 in
theorem pX8_draw_no {D : va_G} {ca : Nat → ClassId} {M : gMem} {nv np : Nat} (hC : CS M nv np) (j : Nat) (hj : j < 4) (z : Int) (hz : (0 ≤ z ∧ z ≤ 2)) (c : Nat) (hc : c < 2147483648) (h : rtF nv M (98 + 2 * j) z c < 0) : Fn D ca mX8_draw [gR 0, gI (j : Int), gI z, gI (c : Int)] SH M [gI (rtF nv M (98 + 2 * j) z c)] SH (M) := by
  refine Fn_of okX8_draw (Nat.le_of_ble_eq_true rfl) (Or.inr (Or.inl ⟨_, rfl, rfl⟩)) (Nat.le_refl _) (Nat.le_refl _) ?_
  refine Go_ls2 (ls' := [(0, gR 0), (1, gI _), (2, gI _), (3, gI _)]) rfl ?_
  have hv12 := hC.2.2.1
  have hn10 := hC.2.2.2.2
  refine Go_iload_n 1 rfl rfl dX8_draw_0 ?_
  refine Go_callSI (fX8_isMap _) cwX8_144 smX8_isMap ⟨Nat.le_of_ble_eq_true rfl, Nat.le_of_ble_eq_true rfl⟩ rfl (Nat.le_of_ble_eq_true rfl) sh_rf dX8_draw_1 ?_
  refine Go_if_eq dX8_draw_4 rfl (fun h4 => ?_) (fun h4 => ?_)
  · skip
    replace h4 := bI_0.mp h4
    exfalso; omega
  · skip
    replace h4 := bI_n.mp h4
    refine Go_iload_n 2 rfl rfl dX8_draw_7 ?_
    refine Go_callSI (fX8_isLane _) cwX8_147 smX8_isLane ⟨Nat.le_of_ble_eq_true rfl, Nat.le_of_ble_eq_true rfl⟩ rfl (Nat.le_of_ble_eq_true rfl) sh_rf dX8_draw_8 ?_
    refine Go_if_eq dX8_draw_11 rfl (fun h11 => ?_) (fun h11 => ?_)
    · skip
      replace h11 := bI_0.mp h11
      exact absurd hz h11
    · skip
      replace h11 := bI_n.mp h11
      refine Go_iload_n 3 rfl rfl dX8_draw_14 ?_
      refine Go_if_ge dX8_draw_15 rfl (fun h15 => ?_) (fun h15 => ?_)
      · skip
        refine Go_aload_n 0 rfl rfl dX8_draw_20 ?_
        refine Go_aload_n 0 rfl rfl dX8_draw_21 ?_
        refine Go_getR (c' := 87) faX8_27 sh_0 (pt_0_2 (M := M) hC.1) dX8_draw_22 ?_
        refine Go_iload_n 1 rfl rfl dX8_draw_25 ?_
        refine Go_aaload (c' := (98 + 2 * j)) (C := "BreadOvens$Chart") j sh_87 rfl (pt_ch (M := M) hC.1 hj) rfl (by omega) dX8_draw_26 ?_
        refine Go_iload_n 2 rfl rfl dX8_draw_27 ?_
        refine Go_iload_n 3 rfl rfl dX8_draw_28 ?_
        refine Go_callVI (q := vwCl[8]) (rtP hC j hj z c) cwX8_164 imX8_refusalToDraw rfl rfl ⟨Nat.le_of_ble_eq_true rfl, Nat.le_of_ble_eq_true rfl⟩ sh_0 rfl (Nat.le_of_ble_eq_true rfl) sh_rf dX8_draw_29 ?_
        refine Go_istore (ls' := [(4, gI _), (0, gR 0), (1, gI _), (2, gI _), (3, gI _)]) dX8_draw_32 (by decide) rfl ?_
        refine Go_iload 0 rfl dX8_draw_34 ?_
        refine Go_if_ge dX8_draw_36 rfl (fun h36 => ?_) (fun h36 => ?_)
        · skip
          exact absurd h (Int.not_lt.mpr h36)
        · skip
          refine Go_iload 0 rfl dX8_draw_39 ?_
          exact Go_ret rfl dX8_draw_41
      · skip
        exfalso; omega
set_option maxHeartbeats 4000000 in
set_option maxRecDepth 100000 in
theorem pX8_draw {D : va_G} {ca : Nat → ClassId} {M : gMem} {nv np : Nat} (hC : CS M nv np) (hH : ∀ p, p < np → ∃ z : Nat, z < nv ∧ M 4 p = (z : Int)) (n k : Nat) (hn : M 8 1 = (n : Int)) (hn11 : n < 11) (hk : M 8 2 = (k : Int)) (h10 : k ≤ 10) (j : Nat) (hj : j < 4) (z : Int) (hz : (0 ≤ z ∧ z ≤ 2)) (c : Nat) (hc : c < 2147483648) (h : ¬ rtF nv M (98 + 2 * j) z c < 0) (hok : ∀ r, r < c → r < 20 ∧ (((r + 1) * 3 : Nat) : Int) ≤ M (98 + 2 * j) 1 ∧ tkP nv (M (98 + 2 * j + 1)) r) : Fn D ca mX8_draw [gR 0, gI (j : Int), gI z, gI (c : Int)] SH M [gI (c : Int)] SH (kcM (gSet (cpV M (10 + 7 * n) 1) 3 (pfS ((cpV M (10 + 7 * n) 1) (98 + 2 * j + 1)) ((cpV M (10 + 7 * n) 1) 3) c)) n k nv np) := by
  refine Fn_of okX8_draw (Nat.le_of_ble_eq_true rfl) (Or.inr (Or.inl ⟨_, rfl, rfl⟩)) (Nat.le_refl _) (Nat.le_refl _) ?_
  refine Go_ls2 (ls' := [(0, gR 0), (1, gI _), (2, gI _), (3, gI _)]) rfl ?_
  have hv12 := hC.2.2.1
  have hn10 := hC.2.2.2.2
  refine Go_iload_n 1 rfl rfl dX8_draw_0 ?_
  refine Go_callSI (fX8_isMap _) cwX8_144 smX8_isMap ⟨Nat.le_of_ble_eq_true rfl, Nat.le_of_ble_eq_true rfl⟩ rfl (Nat.le_of_ble_eq_true rfl) sh_rf dX8_draw_1 ?_
  refine Go_if_eq dX8_draw_4 rfl (fun h4 => ?_) (fun h4 => ?_)
  · skip
    replace h4 := bI_0.mp h4
    exfalso; omega
  · skip
    replace h4 := bI_n.mp h4
    refine Go_iload_n 2 rfl rfl dX8_draw_7 ?_
    refine Go_callSI (fX8_isLane _) cwX8_147 smX8_isLane ⟨Nat.le_of_ble_eq_true rfl, Nat.le_of_ble_eq_true rfl⟩ rfl (Nat.le_of_ble_eq_true rfl) sh_rf dX8_draw_8 ?_
    refine Go_if_eq dX8_draw_11 rfl (fun h11 => ?_) (fun h11 => ?_)
    · skip
      replace h11 := bI_0.mp h11
      exact absurd hz h11
    · skip
      replace h11 := bI_n.mp h11
      refine Go_iload_n 3 rfl rfl dX8_draw_14 ?_
      refine Go_if_ge dX8_draw_15 rfl (fun h15 => ?_) (fun h15 => ?_)
      · skip
        refine Go_aload_n 0 rfl rfl dX8_draw_20 ?_
        refine Go_aload_n 0 rfl rfl dX8_draw_21 ?_
        refine Go_getR (c' := 87) faX8_27 sh_0 (pt_0_2 (M := M) hC.1) dX8_draw_22 ?_
        refine Go_iload_n 1 rfl rfl dX8_draw_25 ?_
        refine Go_aaload (c' := (98 + 2 * j)) (C := "BreadOvens$Chart") j sh_87 rfl (pt_ch (M := M) hC.1 hj) rfl (by omega) dX8_draw_26 ?_
        refine Go_iload_n 2 rfl rfl dX8_draw_27 ?_
        refine Go_iload_n 3 rfl rfl dX8_draw_28 ?_
        refine Go_callVI (q := vwCl[8]) (rtP hC j hj z c) cwX8_164 imX8_refusalToDraw rfl rfl ⟨Nat.le_of_ble_eq_true rfl, Nat.le_of_ble_eq_true rfl⟩ sh_0 rfl (Nat.le_of_ble_eq_true rfl) sh_rf dX8_draw_29 ?_
        refine Go_istore (ls' := [(4, gI _), (0, gR 0), (1, gI _), (2, gI _), (3, gI _)]) dX8_draw_32 (by decide) rfl ?_
        refine Go_iload 0 rfl dX8_draw_34 ?_
        refine Go_if_ge dX8_draw_36 rfl (fun h36 => ?_) (fun h36 => ?_)
        · skip
          refine Go_aload_n 1 rfl rfl dX8_draw_42 ?_
          refine Go_getR (c' := 8) faX8_21 sh_0 (pt_0_1 (M := M) hC.1) dX8_draw_43 ?_
          refine Go_aload_n 1 rfl rfl dX8_draw_46 ?_
          refine Go_getR (c' := 1) faX8_14 sh_0 (pt_0_0 (M := M) hC.1) dX8_draw_47 ?_
          refine Go_callV0 (q := vwCl[2]) (fX2_open hC.1 n hn hn11) cwX8_87 imX2_open rfl rfl ⟨Nat.le_of_ble_eq_true rfl, Nat.le_of_ble_eq_true rfl⟩ sh_8 rfl (Nat.le_of_ble_eq_true rfl) sh_rf dX8_draw_50 ?_
          generalize hNe : cpV M (10 + 7 * n) 1 = N
          have hN : CS N nv np := by rw [← hNe]; exact CS_cp hC hn11
          have hNo : ∀ i, i < 10 → N i = M i := fun i hi => by rw [← hNe]; exact cpV_out (by omega)
          refine Go_aload_n 1 rfl rfl dX8_draw_53 ?_
          refine Go_aload_n 1 rfl rfl dX8_draw_54 ?_
          refine Go_getR (c' := 87) faX8_27 sh_0 (pt_0_2 (M := N) hN.1) dX8_draw_55 ?_
          refine Go_iload_n 2 rfl rfl dX8_draw_58 ?_
          refine Go_aaload (c' := (98 + 2 * j)) (C := "BreadOvens$Chart") j sh_87 rfl (pt_ch (M := N) hN.1 hj) rfl (by omega) dX8_draw_59 ?_
          refine Go_iload_n 4 rfl rfl dX8_draw_60 ?_
          have hNq : ∀ i, 87 ≤ i → N i = M i := fun i hi => by rw [← hNe]; exact cpV_out (by omega)
          refine Go_o 3 ?_
          refine Go_callV0 (q := vwCl[8]) (pfP hN j hj (N 3) c hc (fun r hr => by rw [hNq (98 + 2 * j) (by omega), hNq (98 + 2 * j + 1) (by omega)]; exact hok r hr)) cwX8_168 imX8_paveFrom rfl rfl ⟨Nat.le_of_ble_eq_true rfl, Nat.le_of_ble_eq_true rfl⟩ sh_0 rfl (Nat.le_of_ble_eq_true rfl) sh_rf dX8_draw_61 ?_
          refine Go_aload_n 1 rfl rfl dX8_draw_64 ?_
          refine Go_callV0 (q := vwCl[8]) (fX8_keepChange (CS_row (i := 3) (r := pfS (N (98 + 2 * j + 1)) (N 3) c) hN rfl) (fun p hp => by obtain ⟨z, h1, h2⟩ := hH p hp; exact ⟨z, by omega, by show N 4 p = _; rw [hNo 4 (by decide)]; exact h2⟩) n k (by show N 8 1 = _; rw [hNo 8 (by decide)]; exact hn) hn11 (by show N 8 2 = _; rw [hNo 8 (by decide)]; exact hk) h10) cwX8_94 imX8_keepChange rfl rfl ⟨Nat.le_of_ble_eq_true rfl, Nat.le_of_ble_eq_true rfl⟩ sh_0 rfl (Nat.le_of_ble_eq_true rfl) sh_rf dX8_draw_65 ?_
          refine Go_iload_n 4 rfl rfl dX8_draw_68 ?_
          exact Go_ret rfl dX8_draw_69
        · skip
          exact absurd h36 h
      · skip
        exfalso; omega
set_option maxHeartbeats 4000000 in
set_option maxRecDepth 100000 in
theorem pX8_undo_no {D : va_G} {ca : Nat → ClassId} {M : gMem} {nv np : Nat} (hC : CS M nv np) (h : M 8 2 = 0) : Fn D ca mX8_undo [gR 0] SH M [gI (-4)] SH (M) := by
  refine Fn_of okX8_undo (Nat.le_of_ble_eq_true rfl) (Or.inr (Or.inl ⟨_, rfl, rfl⟩)) (Nat.le_refl _) (Nat.le_refl _) ?_
  refine Go_ls2 (ls' := [(0, gR 0)]) rfl ?_
  have hv12 := hC.2.2.1
  have hn10 := hC.2.2.2.2
  refine Go_aload_n 0 rfl rfl dX8_undo_0 ?_
  refine Go_getR (c' := 8) faX8_21 sh_0 (pt_0_1 (M := M) hC.1) dX8_undo_1 ?_
  refine Go_getI faX8_297 sh_8 dX8_undo_4 ?_
  refine Go_if_ne dX8_undo_7 rfl (fun h7 => ?_) (fun h7 => ?_)
  · skip
    exact absurd h h7
  · skip
    refine Go_bipush ⟨by decide, by unfold in32; omega⟩ dX8_undo_10 ?_
    exact Go_ret rfl dX8_undo_12
def udM (M : gMem) (n k nv : Nat) : gMem := gSet (tbM M n k) 96 (ffS nv (tbM M n k 96) (12 - nv))
theorem tbM_out {M : gMem} {n k i : Nat} (h : 8 < i) : tbM M n k i = M i := by
  unfold tbM
  rw [cpV_out (by omega), gSet_n (by omega)]
theorem tbM_8 (M : gMem) (n k : Nat) : tbM M n k 8 = gUp (gUp (M 8) 1 (((n + 11 - 1) % 11 : Nat) : Int)) 2 ((k - 1 : Nat) : Int) := by
  unfold tbM
  rw [cpV_out (by omega), gSet_s]
theorem tbM_lt {M : gMem} {n k : Nat} : tbM M n k 0 = M 0 := by
  unfold tbM
  rw [cpV_out (by omega), gSet_n (by omega)]
theorem tbM_1 (M : gMem) (n k j : Nat) (h : j < 3) : tbM M n k 1 j = M (10 + 7 * ((n + 11 - 1) % 11)) j := by
  unfold tbM
  rw [cpV_0]
  rcases (show j = 0 ∨ j = 1 ∨ j = 2 by omega) with rfl | rfl | rfl
  · rw [gUp_n (by decide), gUp_n (by decide), gUp_s, gSet_n (by omega)]
  · rw [gUp_n (by decide), gUp_s, gSet_n (by omega)]
  · rw [gUp_s, gSet_n (by omega)]
theorem tbM_p {M : gMem} {n k : Nat} (hp : gPtr M) : gPtr (tbM M n k) := gPtr_cp (gPtr_di (f := gUp (gUp (M 8) 1 (((n + 11 - 1) % 11 : Nat) : Int)) 2 ((k - 1 : Nat) : Int)) hp rfl) gPt_1
set_option maxHeartbeats 4000000 in
set_option maxRecDepth 100000 in
theorem pX8_undo {D : va_G} {ca : Nat → ClassId} {M : gMem} {nv np : Nat} (hC : CS M nv np) (n k : Nat) (hn : M 8 1 = (n : Int)) (h11 : n < 11) (hk : M 8 2 = (k : Int)) (h10 : k ≤ 10) (h1 : 1 ≤ k) (a b : Nat) (ha : M (10 + 7 * ((n + 11 - 1) % 11)) 0 = (a : Int)) (ha2 : a ≤ 12) (hb : M (10 + 7 * ((n + 11 - 1) % 11)) 1 = (b : Int)) (hb2 : b ≤ 10) (hH : ∀ p, p < b → ∃ z : Nat, z < a ∧ tbM M n k 4 p = (z : Int)) : Fn D ca mX8_undo [gR 0] SH M [gI ((k - 1 : Nat) : Int)] SH (wkM (udM M n k a) a b) := by
  refine Fn_of okX8_undo (Nat.le_of_ble_eq_true rfl) (Or.inr (Or.inl ⟨_, rfl, rfl⟩)) (Nat.le_refl _) (Nat.le_refl _) ?_
  refine Go_ls2 (ls' := [(0, gR 0)]) rfl ?_
  have hv12 := hC.2.2.1
  have hn10 := hC.2.2.2.2
  refine Go_aload_n 0 rfl rfl dX8_undo_0 ?_
  refine Go_getR (c' := 8) faX8_21 sh_0 (pt_0_1 (M := M) hC.1) dX8_undo_1 ?_
  refine Go_getIv (v := (k : Int)) hk faX8_297 sh_8 dX8_undo_4 ?_
  refine Go_if_ne dX8_undo_7 rfl (fun h7 => ?_) (fun h7 => ?_)
  · skip
    refine Go_aload_n 0 rfl rfl dX8_undo_13 ?_
    refine Go_getR (c' := 8) faX8_21 sh_0 (pt_0_1 (M := M) hC.1) dX8_undo_14 ?_
    refine Go_aload_n 0 rfl rfl dX8_undo_17 ?_
    refine Go_getR (c' := 1) faX8_14 sh_0 (pt_0_0 (M := M) hC.1) dX8_undo_18 ?_
    refine Go_callV0 (q := vwCl[2]) (fX2_turnBack hC.1 n k hn h11 hk h10 h1) cwX8_300 imX2_turnBack rfl rfl ⟨Nat.le_of_ble_eq_true rfl, Nat.le_of_ble_eq_true rfl⟩ sh_8 rfl (Nat.le_of_ble_eq_true rfl) sh_rf dX8_undo_21 ?_
    have hN : CS (tbM M n k) a b := ⟨tbM_p hC.1, by rw [tbM_1 _ _ _ _ (by decide)]; exact ha, ha2, by rw [tbM_1 _ _ _ _ (by decide)]; exact hb, hb2⟩
    have hk2 : tbM M n k 8 2 = ((k - 1 : Nat) : Int) := by rw [tbM_8]; rfl
    rw [show udM M n k a = gSet (tbM M n k) 96 (ffS a (tbM M n k 96) (12 - a)) from rfl]
    generalize tbM M n k = N at hN hk2 hH ⊢
    refine Go_aload_n 0 rfl rfl dX8_undo_24 ?_
    refine Go_getR (c' := 95) faX8_68 sh_0 (pt_0_7 (M := N) hN.1) dX8_undo_25 ?_
    refine Go_aload_n 0 rfl rfl dX8_undo_28 ?_
    refine Go_getR (c' := 1) faX8_14 sh_0 (pt_0_0 (M := N) hN.1) dX8_undo_29 ?_
    refine Go_getIv (v := (a : Int)) hN.2.1 faX8_83 sh_1 dX8_undo_32 ?_
    refine Go_o 96 ?_
    refine Go_callV0 (q := vwCl[4]) (fX4_forgetFrom hN.1 (N 96) a ha2) cwX8_303 imX4_forgetFrom rfl rfl ⟨Nat.le_of_ble_eq_true rfl, Nat.le_of_ble_eq_true rfl⟩ sh_95 rfl (Nat.le_of_ble_eq_true rfl) sh_rf dX8_undo_35 ?_
    refine Go_aload_n 0 rfl rfl dX8_undo_38 ?_
    refine Go_callV0 (q := vwCl[8]) (fX8_workOut (CS_row (i := 96) (r := ffS a (N 96) (12 - a)) hN rfl) hH) cwX8_307 imX8_workOut rfl rfl ⟨Nat.le_of_ble_eq_true rfl, Nat.le_of_ble_eq_true rfl⟩ sh_0 rfl (Nat.le_of_ble_eq_true rfl) sh_rf dX8_undo_39 ?_
    refine Go_aload_n 0 rfl rfl dX8_undo_42 ?_
    refine Go_getR (c' := 8) faX8_21 sh_0 (pt_0_1 (M := N) hN.1) dX8_undo_43 ?_
    refine Go_getIv (v := ((k - 1 : Nat) : Int)) hk2 faX8_297 sh_8 dX8_undo_46 ?_
    exact Go_ret rfl dX8_undo_49
  · skip
    exact absurd h7 (by omega)
