set_option maxHeartbeats 4000000 in
set_option maxRecDepth 100000 in
theorem pX8_apart_bad {D : va_G} {ca : Nat → ClassId} {M : gMem} {nv np : Nat} (hC : CS M nv np) (a b : Int) (h : ¬ ((0 ≤ a ∧ a ≤ (nv : Int) - 1) ∧ (0 ≤ b ∧ b ≤ (nv : Int) - 1))) : Fn D ca mX8_apart [gR 0, gI a, gI b] SH M [gI (-1)] SH (M) := by
  refine Fn_of okX8_apart (Nat.le_of_ble_eq_true rfl) (Or.inr (Or.inl ⟨_, rfl, rfl⟩)) (Nat.le_refl _) (Nat.le_refl _) ?_
  refine Go_ls2 (ls' := [(0, gR 0), (1, gI _), (2, gI _)]) rfl ?_
  have hv12 := hC.2.2.1
  have hn10 := hC.2.2.2.2
  refine Go_aload_n 0 rfl rfl dX8_apart_0 ?_
  refine Go_getR (c' := 1) faX8_14 sh_0 (pt_0_0 (M := M) hC.1) dX8_apart_1 ?_
  refine Go_iload_n 1 rfl rfl dX8_apart_4 ?_
  refine Go_i2l dX8_apart_5 ?_
  refine Go_callVI (q := vwCl[6]) (fX6_hasVillage hC _) cwX8_97 imX6_hasVillage rfl rfl ⟨Nat.le_of_ble_eq_true rfl, Nat.le_of_ble_eq_true rfl⟩ sh_1 rfl (Nat.le_of_ble_eq_true rfl) sh_rf dX8_apart_6 ?_
  refine Go_if_eq dX8_apart_9 rfl (fun h9 => ?_) (fun h9 => ?_)
  · skip
    replace h9 := bI_0.mp h9
    refine Go_iconst (by unfold in32; omega) dX8_apart_24 ?_
    exact Go_ret rfl dX8_apart_25
  · skip
    replace h9 := bI_n.mp h9
    refine Go_aload_n 0 rfl rfl dX8_apart_12 ?_
    refine Go_getR (c' := 1) faX8_14 sh_0 (pt_0_0 (M := M) hC.1) dX8_apart_13 ?_
    refine Go_iload_n 2 rfl rfl dX8_apart_16 ?_
    refine Go_i2l dX8_apart_17 ?_
    refine Go_callVI (q := vwCl[6]) (fX6_hasVillage hC _) cwX8_97 imX6_hasVillage rfl rfl ⟨Nat.le_of_ble_eq_true rfl, Nat.le_of_ble_eq_true rfl⟩ sh_1 rfl (Nat.le_of_ble_eq_true rfl) sh_rf dX8_apart_18 ?_
    refine Go_if_ne dX8_apart_21 rfl (fun h21 => ?_) (fun h21 => ?_)
    · skip
      replace h21 := bI_n.mp h21
      exact absurd ⟨h9, h21⟩ h
    · skip
      replace h21 := bI_0.mp h21
      refine Go_iconst (by unfold in32; omega) dX8_apart_24 ?_
      exact Go_ret rfl dX8_apart_25
set_option maxHeartbeats 4000000 in
set_option maxRecDepth 100000 in
theorem pX8_apart {D : va_G} {ca : Nat → ClassId} {M : gMem} {nv np : Nat} (hC : CS M nv np) (a b : Nat) (ha : a < nv) (hb : b < nv) : Fn D ca mX8_apart [gR 0, gI (a : Int), gI (b : Int)] SH M [gI (if M 89 (a * 12 + b) = 1000000 then -4 else M 89 (a * 12 + b))] SH (M) := by
  refine Fn_of okX8_apart (Nat.le_of_ble_eq_true rfl) (Or.inr (Or.inl ⟨_, rfl, rfl⟩)) (Nat.le_refl _) (Nat.le_refl _) ?_
  refine Go_ls2 (ls' := [(0, gR 0), (1, gI _), (2, gI _)]) rfl ?_
  have hv12 := hC.2.2.1
  have hn10 := hC.2.2.2.2
  refine Go_aload_n 0 rfl rfl dX8_apart_0 ?_
  refine Go_getR (c' := 1) faX8_14 sh_0 (pt_0_0 (M := M) hC.1) dX8_apart_1 ?_
  refine Go_iload_n 1 rfl rfl dX8_apart_4 ?_
  refine Go_i2l dX8_apart_5 ?_
  refine Go_callVI (q := vwCl[6]) (fX6_hasVillage hC _) cwX8_97 imX6_hasVillage rfl rfl ⟨Nat.le_of_ble_eq_true rfl, Nat.le_of_ble_eq_true rfl⟩ sh_1 rfl (Nat.le_of_ble_eq_true rfl) sh_rf dX8_apart_6 ?_
  refine Go_if_eq dX8_apart_9 rfl (fun h9 => ?_) (fun h9 => ?_)
  · skip
    replace h9 := bI_0.mp h9
    exfalso; omega
  · skip
    replace h9 := bI_n.mp h9
    refine Go_aload_n 0 rfl rfl dX8_apart_12 ?_
    refine Go_getR (c' := 1) faX8_14 sh_0 (pt_0_0 (M := M) hC.1) dX8_apart_13 ?_
    refine Go_iload_n 2 rfl rfl dX8_apart_16 ?_
    refine Go_i2l dX8_apart_17 ?_
    refine Go_callVI (q := vwCl[6]) (fX6_hasVillage hC _) cwX8_97 imX6_hasVillage rfl rfl ⟨Nat.le_of_ble_eq_true rfl, Nat.le_of_ble_eq_true rfl⟩ sh_1 rfl (Nat.le_of_ble_eq_true rfl) sh_rf dX8_apart_18 ?_
    refine Go_if_ne dX8_apart_21 rfl (fun h21 => ?_) (fun h21 => ?_)
    · skip
      replace h21 := bI_n.mp h21
      refine Go_aload_n 0 rfl rfl dX8_apart_26 ?_
      refine Go_getR (c' := 88) faX8_34 sh_0 (pt_0_3 (M := M) hC.1) dX8_apart_27 ?_
      refine Go_iload_n 1 rfl rfl dX8_apart_30 ?_
      refine Go_iload_n 2 rfl rfl dX8_apart_31 ?_
      refine Go_callVI (q := vwCl[7]) (fX7_between hC.1 a b (by omega) (by omega) (v := M 89 (a * 12 + b)) rfl) cwX8_172 imX7_between rfl rfl ⟨Nat.le_of_ble_eq_true rfl, Nat.le_of_ble_eq_true rfl⟩ sh_88 rfl (Nat.le_of_ble_eq_true rfl) sh_rf dX8_apart_32 ?_
      refine Go_istore_n (ls' := [(3, gI _), (0, gR 0), (1, gI _), (2, gI _)]) rfl dX8_apart_35 (by decide) rfl ?_
      refine Go_iload_n 0 rfl rfl dX8_apart_36 ?_
      refine Go_ldc kcX8_175 (by unfold in32; omega) dX8_apart_37 ?_
      refine Go_icmp_ne dX8_apart_39 rfl (fun h39 => ?_) (fun h39 => ?_)
      · skip
        refine Go_iload_n 0 rfl rfl dX8_apart_47 ?_
        exact Go_ret (by first | rw [if_pos (by exact h39)] | rw [if_neg (by exact h39)]) dX8_apart_48
      · skip
        refine Go_bipush ⟨by decide, by unfold in32; omega⟩ dX8_apart_42 ?_
        refine Go_goto dX8_apart_44 rfl ?_
        exact Go_ret (by first | rw [if_pos (by exact h39)] | rw [if_neg (by exact h39)]) dX8_apart_48
    · skip
      replace h21 := bI_0.mp h21
      exfalso; omega
set_option maxHeartbeats 4000000 in
set_option maxRecDepth 100000 in
theorem pX8_way_bad {D : va_G} {ca : Nat → ClassId} {M : gMem} {nv np : Nat} (hC : CS M nv np) (a b i : Int) (h : ¬ ((0 ≤ a ∧ a ≤ (nv : Int) - 1) ∧ (0 ≤ b ∧ b ≤ (nv : Int) - 1) ∧ 0 ≤ i)) : Fn D ca mX8_way [gR 0, gI a, gI b, gI i] SH M [gI (-1)] SH (M) := by
  refine Fn_of okX8_way (Nat.le_of_ble_eq_true rfl) (Or.inr (Or.inl ⟨_, rfl, rfl⟩)) (Nat.le_refl _) (Nat.le_refl _) ?_
  refine Go_ls2 (ls' := [(0, gR 0), (1, gI _), (2, gI _), (3, gI _)]) rfl ?_
  have hv12 := hC.2.2.1
  have hn10 := hC.2.2.2.2
  refine Go_aload_n 0 rfl rfl dX8_way_0 ?_
  refine Go_getR (c' := 1) faX8_14 sh_0 (pt_0_0 (M := M) hC.1) dX8_way_1 ?_
  refine Go_iload_n 1 rfl rfl dX8_way_4 ?_
  refine Go_i2l dX8_way_5 ?_
  refine Go_callVI (q := vwCl[6]) (fX6_hasVillage hC _) cwX8_97 imX6_hasVillage rfl rfl ⟨Nat.le_of_ble_eq_true rfl, Nat.le_of_ble_eq_true rfl⟩ sh_1 rfl (Nat.le_of_ble_eq_true rfl) sh_rf dX8_way_6 ?_
  refine Go_if_eq dX8_way_9 rfl (fun h9 => ?_) (fun h9 => ?_)
  · skip
    replace h9 := bI_0.mp h9
    refine Go_iconst (by unfold in32; omega) dX8_way_28 ?_
    exact Go_ret rfl dX8_way_29
  · skip
    replace h9 := bI_n.mp h9
    refine Go_aload_n 0 rfl rfl dX8_way_12 ?_
    refine Go_getR (c' := 1) faX8_14 sh_0 (pt_0_0 (M := M) hC.1) dX8_way_13 ?_
    refine Go_iload_n 2 rfl rfl dX8_way_16 ?_
    refine Go_i2l dX8_way_17 ?_
    refine Go_callVI (q := vwCl[6]) (fX6_hasVillage hC _) cwX8_97 imX6_hasVillage rfl rfl ⟨Nat.le_of_ble_eq_true rfl, Nat.le_of_ble_eq_true rfl⟩ sh_1 rfl (Nat.le_of_ble_eq_true rfl) sh_rf dX8_way_18 ?_
    refine Go_if_eq dX8_way_21 rfl (fun h21 => ?_) (fun h21 => ?_)
    · skip
      replace h21 := bI_0.mp h21
      refine Go_iconst (by unfold in32; omega) dX8_way_28 ?_
      exact Go_ret rfl dX8_way_29
    · skip
      replace h21 := bI_n.mp h21
      refine Go_iload_n 3 rfl rfl dX8_way_24 ?_
      refine Go_if_ge dX8_way_25 rfl (fun h25 => ?_) (fun h25 => ?_)
      · skip
        exact absurd ⟨h9, h21, h25⟩ h
      · skip
        refine Go_iconst (by unfold in32; omega) dX8_way_28 ?_
        exact Go_ret rfl dX8_way_29
set_option maxHeartbeats 4000000 in
set_option maxRecDepth 100000 in
theorem pX8_way {D : va_G} {ca : Nat → ClassId} {M : gMem} {nv np : Nat} (hC : CS M nv np) (a b i : Nat) (ha : a < nv) (hb : b < nv) : Fn D ca mX8_way [gR 0, gI (a : Int), gI (b : Int), gI (i : Int)] SH M [gI (if M 89 (a * 12 + b) = 1000000 then -4 else vaF (M 3) (M 89) nv b (min i 12) a)] SH (M) := by
  refine Fn_of okX8_way (Nat.le_of_ble_eq_true rfl) (Or.inr (Or.inl ⟨_, rfl, rfl⟩)) (Nat.le_refl _) (Nat.le_refl _) ?_
  refine Go_ls2 (ls' := [(0, gR 0), (1, gI _), (2, gI _), (3, gI _)]) rfl ?_
  have hv12 := hC.2.2.1
  have hn10 := hC.2.2.2.2
  refine Go_aload_n 0 rfl rfl dX8_way_0 ?_
  refine Go_getR (c' := 1) faX8_14 sh_0 (pt_0_0 (M := M) hC.1) dX8_way_1 ?_
  refine Go_iload_n 1 rfl rfl dX8_way_4 ?_
  refine Go_i2l dX8_way_5 ?_
  refine Go_callVI (q := vwCl[6]) (fX6_hasVillage hC _) cwX8_97 imX6_hasVillage rfl rfl ⟨Nat.le_of_ble_eq_true rfl, Nat.le_of_ble_eq_true rfl⟩ sh_1 rfl (Nat.le_of_ble_eq_true rfl) sh_rf dX8_way_6 ?_
  refine Go_if_eq dX8_way_9 rfl (fun h9 => ?_) (fun h9 => ?_)
  · skip
    replace h9 := bI_0.mp h9
    exfalso; omega
  · skip
    replace h9 := bI_n.mp h9
    refine Go_aload_n 0 rfl rfl dX8_way_12 ?_
    refine Go_getR (c' := 1) faX8_14 sh_0 (pt_0_0 (M := M) hC.1) dX8_way_13 ?_
    refine Go_iload_n 2 rfl rfl dX8_way_16 ?_
    refine Go_i2l dX8_way_17 ?_
    refine Go_callVI (q := vwCl[6]) (fX6_hasVillage hC _) cwX8_97 imX6_hasVillage rfl rfl ⟨Nat.le_of_ble_eq_true rfl, Nat.le_of_ble_eq_true rfl⟩ sh_1 rfl (Nat.le_of_ble_eq_true rfl) sh_rf dX8_way_18 ?_
    refine Go_if_eq dX8_way_21 rfl (fun h21 => ?_) (fun h21 => ?_)
    · skip
      replace h21 := bI_0.mp h21
      exfalso; omega
    · skip
      replace h21 := bI_n.mp h21
      refine Go_iload_n 3 rfl rfl dX8_way_24 ?_
      refine Go_if_ge dX8_way_25 rfl (fun h25 => ?_) (fun h25 => ?_)
      · skip
        refine Go_aload_n 0 rfl rfl dX8_way_30 ?_
        refine Go_getR (c' := 88) faX8_34 sh_0 (pt_0_3 (M := M) hC.1) dX8_way_31 ?_
        refine Go_iload_n 1 rfl rfl dX8_way_34 ?_
        refine Go_iload_n 2 rfl rfl dX8_way_35 ?_
        refine Go_callVI (q := vwCl[7]) (fX7_between hC.1 a b (by omega) (by omega) (v := M 89 (a * 12 + b)) rfl) cwX8_172 imX7_between rfl rfl ⟨Nat.le_of_ble_eq_true rfl, Nat.le_of_ble_eq_true rfl⟩ sh_88 rfl (Nat.le_of_ble_eq_true rfl) sh_rf dX8_way_36 ?_
        refine Go_ldc kcX8_175 (by unfold in32; omega) dX8_way_39 ?_
        refine Go_icmp_ne dX8_way_41 rfl (fun h41 => ?_) (fun h41 => ?_)
        · skip
          refine Go_aload_n 0 rfl rfl dX8_way_49 ?_
          refine Go_getR (c' := 88) faX8_34 sh_0 (pt_0_3 (M := M) hC.1) dX8_way_50 ?_
          refine Go_aload_n 0 rfl rfl dX8_way_53 ?_
          refine Go_getR (c' := 1) faX8_14 sh_0 (pt_0_0 (M := M) hC.1) dX8_way_54 ?_
          refine Go_iload_n 1 rfl rfl dX8_way_57 ?_
          refine Go_iload_n 2 rfl rfl dX8_way_58 ?_
          refine Go_iload_n 3 rfl rfl dX8_way_59 ?_
          refine Go_callVI (q := vwCl[7]) (fX7_villageAt hC a b i (by omega) (by omega)) cwX8_176 imX7_villageAt rfl rfl ⟨Nat.le_of_ble_eq_true rfl, Nat.le_of_ble_eq_true rfl⟩ sh_88 rfl (Nat.le_of_ble_eq_true rfl) sh_rf dX8_way_60 ?_
          exact Go_ret (by first | rw [if_pos (by exact h41)] | rw [if_neg (by exact h41)]) dX8_way_63
        · skip
          refine Go_bipush ⟨by decide, by unfold in32; omega⟩ dX8_way_44 ?_
          refine Go_goto dX8_way_46 rfl ?_
          exact Go_ret (by first | rw [if_pos (by exact h41)] | rw [if_neg (by exact h41)]) dX8_way_63
      · skip
        exfalso; omega
set_option maxHeartbeats 4000000 in
set_option maxRecDepth 100000 in
theorem pX8_allowed_bad {D : va_G} {ca : Nat → ClassId} {M : gMem} {nv np : Nat} (hC : CS M nv np) (x : Int) (hx : in32 x) (h : ¬ (0 ≤ x ∧ x < ((2 ^ np : Nat) : Int))) : Fn D ca mX8_allowed [gR 0, gI x] SH M [gI (-1)] SH (M) := by
  refine Fn_of okX8_allowed (Nat.le_of_ble_eq_true rfl) (Or.inr (Or.inl ⟨_, rfl, rfl⟩)) (Nat.le_refl _) (Nat.le_refl _) ?_
  refine Go_ls2 (ls' := [(0, gR 0), (1, gI _)]) rfl ?_
  have hv12 := hC.2.2.1
  have hn10 := hC.2.2.2.2
  have hu : ¬ u32 x (np : Int) = 0 := fun q => h ((u32z hx (by omega)).mp q)
  refine Go_aload_n 0 rfl rfl dX8_allowed_0 ?_
  refine Go_getR (c' := 90) faX8_43 sh_0 (pt_0_4 (M := M) hC.1) dX8_allowed_1 ?_
  refine Go_iload_n 1 rfl rfl dX8_allowed_4 ?_
  refine Go_callVI (q := vwCl[3]) (fX3_isChoice hC _) cwX8_180 imX3_isChoice rfl rfl ⟨Nat.le_of_ble_eq_true rfl, Nat.le_of_ble_eq_true rfl⟩ sh_90 rfl (Nat.le_of_ble_eq_true rfl) sh_rf dX8_allowed_5 ?_
  refine Go_if_ne dX8_allowed_8 rfl (fun h8 => ?_) (fun h8 => ?_)
  · skip
    replace h8 := bI_n.mp h8
    exact absurd h8 hu
  · skip
    replace h8 := bI_0.mp h8
    refine Go_iconst (by unfold in32; omega) dX8_allowed_11 ?_
    exact Go_ret rfl dX8_allowed_12
set_option maxHeartbeats 4000000 in
set_option maxRecDepth 100000 in
theorem pX8_allowed {D : va_G} {ca : Nat → ClassId} {M : gMem} {nv np : Nat} (hC : CS M nv np) (c : Nat) (hc : c < 2 ^ np) : Fn D ca mX8_allowed [gR 0, gI (c : Int)] SH M [gI (bI (msB (M 90 2) (M 90 3) (M 1 2) (c : Int) = true))] SH (M) := by
  refine Fn_of okX8_allowed (Nat.le_of_ble_eq_true rfl) (Or.inr (Or.inl ⟨_, rfl, rfl⟩)) (Nat.le_refl _) (Nat.le_refl _) ?_
  refine Go_ls2 (ls' := [(0, gR 0), (1, gI _)]) rfl ?_
  have hv12 := hC.2.2.1
  have hn10 := hC.2.2.2.2
  have hpw := p10 hn10
  have hu : u32 (c : Int) (np : Int) = 0 := (u32z (by unfold in32; omega) (by omega)).mpr ⟨by omega, by omega⟩
  refine Go_aload_n 0 rfl rfl dX8_allowed_0 ?_
  refine Go_getR (c' := 90) faX8_43 sh_0 (pt_0_4 (M := M) hC.1) dX8_allowed_1 ?_
  refine Go_iload_n 1 rfl rfl dX8_allowed_4 ?_
  refine Go_callVI (q := vwCl[3]) (fX3_isChoice hC _) cwX8_180 imX3_isChoice rfl rfl ⟨Nat.le_of_ble_eq_true rfl, Nat.le_of_ble_eq_true rfl⟩ sh_90 rfl (Nat.le_of_ble_eq_true rfl) sh_rf dX8_allowed_5 ?_
  refine Go_if_ne dX8_allowed_8 rfl (fun h8 => ?_) (fun h8 => ?_)
  · skip
    replace h8 := bI_n.mp h8
    refine Go_aload_n 0 rfl rfl dX8_allowed_13 ?_
    refine Go_getR (c' := 90) faX8_43 sh_0 (pt_0_4 (M := M) hC.1) dX8_allowed_14 ?_
    refine Go_iload_n 1 rfl rfl dX8_allowed_17 ?_
    refine Go_callVI (q := vwCl[3]) (fX3_mayStand hC (s := M 90 2) rfl (b := M 90 3) rfl (n := M 1 2) rfl _) cwX8_183 imX3_mayStand rfl rfl ⟨Nat.le_of_ble_eq_true rfl, Nat.le_of_ble_eq_true rfl⟩ sh_90 rfl (Nat.le_of_ble_eq_true rfl) sh_rf dX8_allowed_18 ?_
    refine Go_if_eq dX8_allowed_21 rfl (fun h21 => ?_) (fun h21 => ?_)
    · skip
      replace h21 := bI_0.mp h21
      refine Go_iconst (by unfold in32; omega) dX8_allowed_28 ?_
      exact Go_ret (by rw [bI_f (by exact h21)]) dX8_allowed_29
    · skip
      replace h21 := bI_n.mp h21
      refine Go_iconst (by unfold in32; omega) dX8_allowed_24 ?_
      refine Go_goto dX8_allowed_25 rfl ?_
      exact Go_ret (by rw [bI_t (by exact h21)]) dX8_allowed_29
  · skip
    replace h8 := bI_0.mp h8
    exact absurd hu h8
set_option maxHeartbeats 4000000 in
set_option maxRecDepth 100000 in
theorem pX8_cost_bad {D : va_G} {ca : Nat → ClassId} {M : gMem} {nv np : Nat} (hC : CS M nv np) (x : Int) (hx : in32 x) (h : ¬ (0 ≤ x ∧ x < ((2 ^ np : Nat) : Int))) : Fn D ca mX8_cost [gR 0, gI x] SH M [gJ (-1)] SH (M) := by
  refine Fn_of okX8_cost (Nat.le_of_ble_eq_true rfl) (Or.inr (Or.inr (Or.inr ⟨_, rfl, rfl⟩))) (Nat.le_refl _) (Nat.le_refl _) ?_
  refine Go_ls2 (ls' := [(0, gR 0), (1, gI _)]) rfl ?_
  have hv12 := hC.2.2.1
  have hn10 := hC.2.2.2.2
  have hu : ¬ u32 x (np : Int) = 0 := fun q => h ((u32z hx (by omega)).mp q)
  refine Go_aload_n 0 rfl rfl dX8_cost_0 ?_
  refine Go_getR (c' := 90) faX8_43 sh_0 (pt_0_4 (M := M) hC.1) dX8_cost_1 ?_
  refine Go_iload_n 1 rfl rfl dX8_cost_4 ?_
  refine Go_callVI (q := vwCl[3]) (fX3_isChoice hC _) cwX8_180 imX3_isChoice rfl rfl ⟨Nat.le_of_ble_eq_true rfl, Nat.le_of_ble_eq_true rfl⟩ sh_90 rfl (Nat.le_of_ble_eq_true rfl) sh_rf dX8_cost_5 ?_
  refine Go_if_ne dX8_cost_8 rfl (fun h8 => ?_) (fun h8 => ?_)
  · skip
    replace h8 := bI_n.mp h8
    exact absurd h8 hu
  · skip
    replace h8 := bI_0.mp h8
    refine Go_ldc2 klX8_186 (by unfold in64; omega) dX8_cost_11 ?_
    exact Go_ret rfl dX8_cost_14
set_option maxHeartbeats 4000000 in
set_option maxRecDepth 100000 in
theorem pX8_cost {D : va_G} {ca : Nat → ClassId} {M : gMem} {nv np : Nat} (hC : CS M nv np) (c : Nat) (hc : c < 2 ^ np) : Fn D ca mX8_cost [gR 0, gI (c : Int)] SH M [gJ (if meS (M 2) (M 5) (M 6) (M 91) nv np c < 1099511627776 then meS (M 2) (M 5) (M 6) (M 91) nv np c else -4)] SH (M) := by
  refine Fn_of okX8_cost (Nat.le_of_ble_eq_true rfl) (Or.inr (Or.inr (Or.inr ⟨_, rfl, rfl⟩))) (Nat.le_refl _) (Nat.le_refl _) ?_
  refine Go_ls2 (ls' := [(0, gR 0), (1, gI _)]) rfl ?_
  have hv12 := hC.2.2.1
  have hn10 := hC.2.2.2.2
  have hpw := p10 hn10
  have hu : u32 (c : Int) (np : Int) = 0 := (u32z (by unfold in32; omega) (by omega)).mpr ⟨by omega, by omega⟩
  refine Go_aload_n 0 rfl rfl dX8_cost_0 ?_
  refine Go_getR (c' := 90) faX8_43 sh_0 (pt_0_4 (M := M) hC.1) dX8_cost_1 ?_
  refine Go_iload_n 1 rfl rfl dX8_cost_4 ?_
  refine Go_callVI (q := vwCl[3]) (fX3_isChoice hC _) cwX8_180 imX3_isChoice rfl rfl ⟨Nat.le_of_ble_eq_true rfl, Nat.le_of_ble_eq_true rfl⟩ sh_90 rfl (Nat.le_of_ble_eq_true rfl) sh_rf dX8_cost_5 ?_
  refine Go_if_ne dX8_cost_8 rfl (fun h8 => ?_) (fun h8 => ?_)
  · skip
    replace h8 := bI_n.mp h8
    refine Go_aload_n 0 rfl rfl dX8_cost_15 ?_
    refine Go_getR (c' := 90) faX8_43 sh_0 (pt_0_4 (M := M) hC.1) dX8_cost_16 ?_
    refine Go_iload_n 1 rfl rfl dX8_cost_19 ?_
    refine Go_callVJ (q := vwCl[3]) (fX3_measureOf hC c (by omega)) cwX8_188 imX3_measureOf rfl rfl ⟨Nat.le_of_ble_eq_true rfl, Nat.le_of_ble_eq_true rfl⟩ sh_90 rfl (Nat.le_of_ble_eq_true rfl) sh_rf dX8_cost_20 ?_
    refine Go_lstore_n (ls' := [(2, gJ _), (0, gR 0), (1, gI _)]) rfl dX8_cost_23 (by decide) rfl ?_
    refine Go_lload_n 0 rfl rfl dX8_cost_24 ?_
    refine Go_ldc2 klX8_192 (by unfold in64; omega) dX8_cost_25 ?_
    refine Go_lcmp dX8_cost_28 ?_
    refine Go_if_ge dX8_cost_29 rfl (fun h29 => ?_) (fun h29 => ?_)
    · skip
      replace h29 := cmp_ge.mp h29
      refine Go_ldc2 klX8_194 (by unfold in64; omega) dX8_cost_36 ?_
      exact Go_ret (by first | rw [if_pos (by exact h29)] | rw [if_neg (by exact Int.not_lt.mpr h29)]) dX8_cost_39
    · skip
      replace h29 := cmp_lt.mp h29
      refine Go_lload_n 0 rfl rfl dX8_cost_32 ?_
      refine Go_goto dX8_cost_33 rfl ?_
      exact Go_ret (by first | rw [if_pos (by exact h29)] | rw [if_neg (by exact Int.not_lt.mpr h29)]) dX8_cost_39
  · skip
    replace h8 := bI_0.mp h8
    exact absurd hu h8
set_option maxHeartbeats 4000000 in
set_option maxRecDepth 100000 in
theorem pX8_served_bad1 {D : va_G} {ca : Nat → ClassId} {M : gMem} {nv np : Nat} (hC : CS M nv np) (x : Int) (hx : in32 x) (h : ¬ (0 ≤ x ∧ x < ((2 ^ np : Nat) : Int))) (v : Int) : Fn D ca mX8_served [gR 0, gI x, gI v] SH M [gI (-1)] SH (M) := by
  refine Fn_of okX8_served (Nat.le_of_ble_eq_true rfl) (Or.inr (Or.inl ⟨_, rfl, rfl⟩)) (Nat.le_refl _) (Nat.le_refl _) ?_
  refine Go_ls2 (ls' := [(0, gR 0), (1, gI _), (2, gI _)]) rfl ?_
  have hv12 := hC.2.2.1
  have hn10 := hC.2.2.2.2
  have hu : ¬ u32 x (np : Int) = 0 := fun q => h ((u32z hx (by omega)).mp q)
  refine Go_aload_n 0 rfl rfl dX8_served_0 ?_
  refine Go_getR (c' := 90) faX8_43 sh_0 (pt_0_4 (M := M) hC.1) dX8_served_1 ?_
  refine Go_iload_n 1 rfl rfl dX8_served_4 ?_
  refine Go_callVI (q := vwCl[3]) (fX3_isChoice hC _) cwX8_180 imX3_isChoice rfl rfl ⟨Nat.le_of_ble_eq_true rfl, Nat.le_of_ble_eq_true rfl⟩ sh_90 rfl (Nat.le_of_ble_eq_true rfl) sh_rf dX8_served_5 ?_
  refine Go_if_eq dX8_served_8 rfl (fun h8 => ?_) (fun h8 => ?_)
  · skip
    replace h8 := bI_0.mp h8
    refine Go_iconst (by unfold in32; omega) dX8_served_23 ?_
    exact Go_ret rfl dX8_served_24
  · skip
    replace h8 := bI_n.mp h8
    exact absurd h8 hu
set_option maxHeartbeats 4000000 in
set_option maxRecDepth 100000 in
theorem pX8_served_bad2 {D : va_G} {ca : Nat → ClassId} {M : gMem} {nv np : Nat} (hC : CS M nv np) (x v : Int) (h : ¬ (0 ≤ v ∧ v ≤ (nv : Int) - 1)) : Fn D ca mX8_served [gR 0, gI x, gI v] SH M [gI (-1)] SH (M) := by
  refine Fn_of okX8_served (Nat.le_of_ble_eq_true rfl) (Or.inr (Or.inl ⟨_, rfl, rfl⟩)) (Nat.le_refl _) (Nat.le_refl _) ?_
  refine Go_ls2 (ls' := [(0, gR 0), (1, gI _), (2, gI _)]) rfl ?_
  have hv12 := hC.2.2.1
  have hn10 := hC.2.2.2.2
  refine Go_aload_n 0 rfl rfl dX8_served_0 ?_
  refine Go_getR (c' := 90) faX8_43 sh_0 (pt_0_4 (M := M) hC.1) dX8_served_1 ?_
  refine Go_iload_n 1 rfl rfl dX8_served_4 ?_
  refine Go_callVI (q := vwCl[3]) (fX3_isChoice hC _) cwX8_180 imX3_isChoice rfl rfl ⟨Nat.le_of_ble_eq_true rfl, Nat.le_of_ble_eq_true rfl⟩ sh_90 rfl (Nat.le_of_ble_eq_true rfl) sh_rf dX8_served_5 ?_
  refine Go_if_eq dX8_served_8 rfl (fun h8 => ?_) (fun h8 => ?_)
  · skip
    replace h8 := bI_0.mp h8
    refine Go_iconst (by unfold in32; omega) dX8_served_23 ?_
    exact Go_ret rfl dX8_served_24
  · skip
    replace h8 := bI_n.mp h8
    refine Go_aload_n 0 rfl rfl dX8_served_11 ?_
    refine Go_getR (c' := 1) faX8_14 sh_0 (pt_0_0 (M := M) hC.1) dX8_served_12 ?_
    refine Go_iload_n 2 rfl rfl dX8_served_15 ?_
    refine Go_i2l dX8_served_16 ?_
    refine Go_callVI (q := vwCl[6]) (fX6_hasVillage hC _) cwX8_97 imX6_hasVillage rfl rfl ⟨Nat.le_of_ble_eq_true rfl, Nat.le_of_ble_eq_true rfl⟩ sh_1 rfl (Nat.le_of_ble_eq_true rfl) sh_rf dX8_served_17 ?_
    refine Go_if_ne dX8_served_20 rfl (fun h20 => ?_) (fun h20 => ?_)
    · skip
      replace h20 := bI_n.mp h20
      exact absurd h20 h
    · skip
      replace h20 := bI_0.mp h20
      refine Go_iconst (by unfold in32; omega) dX8_served_23 ?_
      exact Go_ret rfl dX8_served_24
set_option maxHeartbeats 4000000 in
set_option maxRecDepth 100000 in
theorem pX8_served {D : va_G} {ca : Nat → ClassId} {M : gMem} {nv np : Nat} (hC : CS M nv np) (c : Nat) (hc : c < 2 ^ np) (v : Nat) (hv : v < nv) : Fn D ca mX8_served [gR 0, gI (c : Int), gI (v : Int)] SH M [gI (ofS (M 91) c v np).1] SH (M) := by
  refine Fn_of okX8_served (Nat.le_of_ble_eq_true rfl) (Or.inr (Or.inl ⟨_, rfl, rfl⟩)) (Nat.le_refl _) (Nat.le_refl _) ?_
  refine Go_ls2 (ls' := [(0, gR 0), (1, gI _), (2, gI _)]) rfl ?_
  have hv12 := hC.2.2.1
  have hn10 := hC.2.2.2.2
  have hpw := p10 hn10
  have hu : u32 (c : Int) (np : Int) = 0 := (u32z (by unfold in32; omega) (by omega)).mpr ⟨by omega, by omega⟩
  refine Go_aload_n 0 rfl rfl dX8_served_0 ?_
  refine Go_getR (c' := 90) faX8_43 sh_0 (pt_0_4 (M := M) hC.1) dX8_served_1 ?_
  refine Go_iload_n 1 rfl rfl dX8_served_4 ?_
  refine Go_callVI (q := vwCl[3]) (fX3_isChoice hC _) cwX8_180 imX3_isChoice rfl rfl ⟨Nat.le_of_ble_eq_true rfl, Nat.le_of_ble_eq_true rfl⟩ sh_90 rfl (Nat.le_of_ble_eq_true rfl) sh_rf dX8_served_5 ?_
  refine Go_if_eq dX8_served_8 rfl (fun h8 => ?_) (fun h8 => ?_)
  · skip
    replace h8 := bI_0.mp h8
    exact absurd hu h8
  · skip
    replace h8 := bI_n.mp h8
    refine Go_aload_n 0 rfl rfl dX8_served_11 ?_
    refine Go_getR (c' := 1) faX8_14 sh_0 (pt_0_0 (M := M) hC.1) dX8_served_12 ?_
    refine Go_iload_n 2 rfl rfl dX8_served_15 ?_
    refine Go_i2l dX8_served_16 ?_
    refine Go_callVI (q := vwCl[6]) (fX6_hasVillage hC _) cwX8_97 imX6_hasVillage rfl rfl ⟨Nat.le_of_ble_eq_true rfl, Nat.le_of_ble_eq_true rfl⟩ sh_1 rfl (Nat.le_of_ble_eq_true rfl) sh_rf dX8_served_17 ?_
    refine Go_if_ne dX8_served_20 rfl (fun h20 => ?_) (fun h20 => ?_)
    · skip
      replace h20 := bI_n.mp h20
      refine Go_aload_n 0 rfl rfl dX8_served_25 ?_
      refine Go_getR (c' := 90) faX8_43 sh_0 (pt_0_4 (M := M) hC.1) dX8_served_26 ?_
      refine Go_iload_n 1 rfl rfl dX8_served_29 ?_
      refine Go_iload_n 2 rfl rfl dX8_served_30 ?_
      refine Go_callVI (q := vwCl[3]) (fX3_ovenFor hC c v (by omega) (by omega)) cwX8_196 imX3_ovenFor rfl rfl ⟨Nat.le_of_ble_eq_true rfl, Nat.le_of_ble_eq_true rfl⟩ sh_90 rfl (Nat.le_of_ble_eq_true rfl) sh_rf dX8_served_31 ?_
      exact Go_ret rfl dX8_served_34
    · skip
      replace h20 := bI_0.mp h20
      exfalso; omega
set_option maxHeartbeats 4000000 in
set_option maxRecDepth 100000 in
theorem pX8_share_bad1 {D : va_G} {ca : Nat → ClassId} {M : gMem} {nv np : Nat} (hC : CS M nv np) (x : Int) (hx : in32 x) (h : ¬ (0 ≤ x ∧ x < ((2 ^ np : Nat) : Int))) (p w : Int) : Fn D ca mX8_share [gR 0, gI x, gI p, gI w] SH M [gI (-1)] SH (M) := by
  refine Fn_of okX8_share (Nat.le_of_ble_eq_true rfl) (Or.inr (Or.inl ⟨_, rfl, rfl⟩)) (Nat.le_refl _) (Nat.le_refl _) ?_
  refine Go_ls2 (ls' := [(0, gR 0), (1, gI _), (2, gI _), (3, gI _)]) rfl ?_
  have hv12 := hC.2.2.1
  have hn10 := hC.2.2.2.2
  have hu : ¬ u32 x (np : Int) = 0 := fun q => h ((u32z hx (by omega)).mp q)
  refine Go_aload_n 0 rfl rfl dX8_share_0 ?_
  refine Go_getR (c' := 90) faX8_43 sh_0 (pt_0_4 (M := M) hC.1) dX8_share_1 ?_
  refine Go_iload_n 1 rfl rfl dX8_share_4 ?_
  refine Go_callVI (q := vwCl[3]) (fX3_isChoice hC _) cwX8_180 imX3_isChoice rfl rfl ⟨Nat.le_of_ble_eq_true rfl, Nat.le_of_ble_eq_true rfl⟩ sh_90 rfl (Nat.le_of_ble_eq_true rfl) sh_rf dX8_share_5 ?_
  refine Go_if_eq dX8_share_8 rfl (fun h8 => ?_) (fun h8 => ?_)
  · skip
    replace h8 := bI_0.mp h8
    refine Go_iconst (by unfold in32; omega) dX8_share_34 ?_
    exact Go_ret rfl dX8_share_35
  · skip
    replace h8 := bI_n.mp h8
    exact absurd h8 hu
set_option maxHeartbeats 4000000 in
set_option maxRecDepth 100000 in
theorem pX8_share_bad2 {D : va_G} {ca : Nat → ClassId} {M : gMem} {nv np : Nat} (hC : CS M nv np) (x p w : Int) (h : ¬ ((0 ≤ p ∧ p ≤ (np : Int) - 1) ∧ 0 ≤ w ∧ w ≤ 2)) : Fn D ca mX8_share [gR 0, gI x, gI p, gI w] SH M [gI (-1)] SH (M) := by
  refine Fn_of okX8_share (Nat.le_of_ble_eq_true rfl) (Or.inr (Or.inl ⟨_, rfl, rfl⟩)) (Nat.le_refl _) (Nat.le_refl _) ?_
  refine Go_ls2 (ls' := [(0, gR 0), (1, gI _), (2, gI _), (3, gI _)]) rfl ?_
  have hv12 := hC.2.2.1
  have hn10 := hC.2.2.2.2
  refine Go_aload_n 0 rfl rfl dX8_share_0 ?_
  refine Go_getR (c' := 90) faX8_43 sh_0 (pt_0_4 (M := M) hC.1) dX8_share_1 ?_
  refine Go_iload_n 1 rfl rfl dX8_share_4 ?_
  refine Go_callVI (q := vwCl[3]) (fX3_isChoice hC _) cwX8_180 imX3_isChoice rfl rfl ⟨Nat.le_of_ble_eq_true rfl, Nat.le_of_ble_eq_true rfl⟩ sh_90 rfl (Nat.le_of_ble_eq_true rfl) sh_rf dX8_share_5 ?_
  refine Go_if_eq dX8_share_8 rfl (fun h8 => ?_) (fun h8 => ?_)
  · skip
    replace h8 := bI_0.mp h8
    refine Go_iconst (by unfold in32; omega) dX8_share_34 ?_
    exact Go_ret rfl dX8_share_35
  · skip
    replace h8 := bI_n.mp h8
    refine Go_aload_n 0 rfl rfl dX8_share_11 ?_
    refine Go_getR (c' := 1) faX8_14 sh_0 (pt_0_0 (M := M) hC.1) dX8_share_12 ?_
    refine Go_iload_n 2 rfl rfl dX8_share_15 ?_
    refine Go_callVI (q := vwCl[6]) (fX6_hasPlace hC _) cwX8_127 imX6_hasPlace rfl rfl ⟨Nat.le_of_ble_eq_true rfl, Nat.le_of_ble_eq_true rfl⟩ sh_1 rfl (Nat.le_of_ble_eq_true rfl) sh_rf dX8_share_16 ?_
    refine Go_if_eq dX8_share_19 rfl (fun h19 => ?_) (fun h19 => ?_)
    · skip
      replace h19 := bI_0.mp h19
      refine Go_iconst (by unfold in32; omega) dX8_share_34 ?_
      exact Go_ret rfl dX8_share_35
    · skip
      replace h19 := bI_n.mp h19
      refine Go_iload_n 3 rfl rfl dX8_share_22 ?_
      refine Go_i2l dX8_share_23 ?_
      refine Go_lconst (v := 0) ⟨rfl, by unfold in64; omega⟩ dX8_share_24 ?_
      refine Go_ldc2 klX8_199 (by unfold in64; omega) dX8_share_25 ?_
      refine Go_callSI (fX8_isWithin _ _ _) cwX8_79 smX8_isWithin ⟨Nat.le_of_ble_eq_true rfl, Nat.le_of_ble_eq_true rfl⟩ rfl (Nat.le_of_ble_eq_true rfl) sh_rf dX8_share_28 ?_
      refine Go_if_ne dX8_share_31 rfl (fun h31 => ?_) (fun h31 => ?_)
      · skip
        replace h31 := bI_n.mp h31
        exact absurd ⟨h19, h31⟩ h
      · skip
        replace h31 := bI_0.mp h31
        refine Go_iconst (by unfold in32; omega) dX8_share_34 ?_
        exact Go_ret rfl dX8_share_35
set_option maxHeartbeats 4000000 in
set_option maxRecDepth 100000 in
theorem pX8_share_st {D : va_G} {ca : Nat → ClassId} {M : gMem} {nv np : Nat} (hC : CS M nv np) (c : Nat) (hc : c < 2 ^ np) (p : Nat) (hp : p < np) (w : Int) (hw : 0 ≤ w ∧ w ≤ 2) (h : ¬ c.testBit p = true) : Fn D ca mX8_share [gR 0, gI (c : Int), gI (p : Int), gI w] SH M [gI (-2)] SH (M) := by
  refine Fn_of okX8_share (Nat.le_of_ble_eq_true rfl) (Or.inr (Or.inl ⟨_, rfl, rfl⟩)) (Nat.le_refl _) (Nat.le_refl _) ?_
  refine Go_ls2 (ls' := [(0, gR 0), (1, gI _), (2, gI _), (3, gI _)]) rfl ?_
  have hv12 := hC.2.2.1
  have hn10 := hC.2.2.2.2
  have hpw := p10 hn10
  have hu : u32 (c : Int) (np : Int) = 0 := (u32z (by unfold in32; omega) (by omega)).mpr ⟨by omega, by omega⟩
  refine Go_aload_n 0 rfl rfl dX8_share_0 ?_
  refine Go_getR (c' := 90) faX8_43 sh_0 (pt_0_4 (M := M) hC.1) dX8_share_1 ?_
  refine Go_iload_n 1 rfl rfl dX8_share_4 ?_
  refine Go_callVI (q := vwCl[3]) (fX3_isChoice hC _) cwX8_180 imX3_isChoice rfl rfl ⟨Nat.le_of_ble_eq_true rfl, Nat.le_of_ble_eq_true rfl⟩ sh_90 rfl (Nat.le_of_ble_eq_true rfl) sh_rf dX8_share_5 ?_
  refine Go_if_eq dX8_share_8 rfl (fun h8 => ?_) (fun h8 => ?_)
  · skip
    replace h8 := bI_0.mp h8
    exact absurd hu h8
  · skip
    replace h8 := bI_n.mp h8
    refine Go_aload_n 0 rfl rfl dX8_share_11 ?_
    refine Go_getR (c' := 1) faX8_14 sh_0 (pt_0_0 (M := M) hC.1) dX8_share_12 ?_
    refine Go_iload_n 2 rfl rfl dX8_share_15 ?_
    refine Go_callVI (q := vwCl[6]) (fX6_hasPlace hC _) cwX8_127 imX6_hasPlace rfl rfl ⟨Nat.le_of_ble_eq_true rfl, Nat.le_of_ble_eq_true rfl⟩ sh_1 rfl (Nat.le_of_ble_eq_true rfl) sh_rf dX8_share_16 ?_
    refine Go_if_eq dX8_share_19 rfl (fun h19 => ?_) (fun h19 => ?_)
    · skip
      replace h19 := bI_0.mp h19
      exfalso; omega
    · skip
      replace h19 := bI_n.mp h19
      refine Go_iload_n 3 rfl rfl dX8_share_22 ?_
      refine Go_i2l dX8_share_23 ?_
      refine Go_lconst (v := 0) ⟨rfl, by unfold in64; omega⟩ dX8_share_24 ?_
      refine Go_ldc2 klX8_199 (by unfold in64; omega) dX8_share_25 ?_
      refine Go_callSI (fX8_isWithin _ _ _) cwX8_79 smX8_isWithin ⟨Nat.le_of_ble_eq_true rfl, Nat.le_of_ble_eq_true rfl⟩ rfl (Nat.le_of_ble_eq_true rfl) sh_rf dX8_share_28 ?_
      refine Go_if_ne dX8_share_31 rfl (fun h31 => ?_) (fun h31 => ?_)
      · skip
        replace h31 := bI_n.mp h31
        refine Go_iload_n 1 rfl rfl dX8_share_36 ?_
        refine Go_iload_n 2 rfl rfl dX8_share_37 ?_
        refine Go_callSI (fX8_isIn c p (by omega) (by omega)) cwX8_201 smX8_isIn ⟨Nat.le_of_ble_eq_true rfl, Nat.le_of_ble_eq_true rfl⟩ rfl (Nat.le_of_ble_eq_true rfl) sh_rf dX8_share_38 ?_
        refine Go_if_ne dX8_share_41 rfl (fun h41 => ?_) (fun h41 => ?_)
        · skip
          replace h41 := bI_n.mp h41
          exact absurd h41 h
        · skip
          replace h41 := bI_0.mp h41
          refine Go_bipush ⟨by decide, by unfold in32; omega⟩ dX8_share_44 ?_
          exact Go_ret rfl dX8_share_46
      · skip
        replace h31 := bI_0.mp h31
        exfalso; omega
set_option maxHeartbeats 4000000 in
set_option maxRecDepth 100000 in
theorem pX8_share_0 {D : va_G} {ca : Nat → ClassId} {M : gMem} {nv np : Nat} (hC : CS M nv np) (c : Nat) (hc : c < 2 ^ np) (p : Nat) (hp : p < np) (h : c.testBit p = true) : Fn D ca mX8_share [gR 0, gI (c : Int), gI (p : Int), gI 0] SH M [gI (shS (M 2) (M 91) (fun _ => 1) np c p nv)] SH (M) := by
  refine Fn_of okX8_share (Nat.le_of_ble_eq_true rfl) (Or.inr (Or.inl ⟨_, rfl, rfl⟩)) (Nat.le_refl _) (Nat.le_refl _) ?_
  refine Go_ls2 (ls' := [(0, gR 0), (1, gI _), (2, gI _), (3, gI _)]) rfl ?_
  have hv12 := hC.2.2.1
  have hn10 := hC.2.2.2.2
  have hpw := p10 hn10
  have hu : u32 (c : Int) (np : Int) = 0 := (u32z (by unfold in32; omega) (by omega)).mpr ⟨by omega, by omega⟩
  refine Go_aload_n 0 rfl rfl dX8_share_0 ?_
  refine Go_getR (c' := 90) faX8_43 sh_0 (pt_0_4 (M := M) hC.1) dX8_share_1 ?_
  refine Go_iload_n 1 rfl rfl dX8_share_4 ?_
  refine Go_callVI (q := vwCl[3]) (fX3_isChoice hC _) cwX8_180 imX3_isChoice rfl rfl ⟨Nat.le_of_ble_eq_true rfl, Nat.le_of_ble_eq_true rfl⟩ sh_90 rfl (Nat.le_of_ble_eq_true rfl) sh_rf dX8_share_5 ?_
  refine Go_if_eq dX8_share_8 rfl (fun h8 => ?_) (fun h8 => ?_)
  · skip
    replace h8 := bI_0.mp h8
    exact absurd hu h8
  · skip
    replace h8 := bI_n.mp h8
    refine Go_aload_n 0 rfl rfl dX8_share_11 ?_
    refine Go_getR (c' := 1) faX8_14 sh_0 (pt_0_0 (M := M) hC.1) dX8_share_12 ?_
    refine Go_iload_n 2 rfl rfl dX8_share_15 ?_
    refine Go_callVI (q := vwCl[6]) (fX6_hasPlace hC _) cwX8_127 imX6_hasPlace rfl rfl ⟨Nat.le_of_ble_eq_true rfl, Nat.le_of_ble_eq_true rfl⟩ sh_1 rfl (Nat.le_of_ble_eq_true rfl) sh_rf dX8_share_16 ?_
    refine Go_if_eq dX8_share_19 rfl (fun h19 => ?_) (fun h19 => ?_)
    · skip
      replace h19 := bI_0.mp h19
      exfalso; omega
    · skip
      replace h19 := bI_n.mp h19
      refine Go_iload_n 3 rfl rfl dX8_share_22 ?_
      refine Go_i2l dX8_share_23 ?_
      refine Go_lconst (v := 0) ⟨rfl, by unfold in64; omega⟩ dX8_share_24 ?_
      refine Go_ldc2 klX8_199 (by unfold in64; omega) dX8_share_25 ?_
      refine Go_callSI (fX8_isWithin _ _ _) cwX8_79 smX8_isWithin ⟨Nat.le_of_ble_eq_true rfl, Nat.le_of_ble_eq_true rfl⟩ rfl (Nat.le_of_ble_eq_true rfl) sh_rf dX8_share_28 ?_
      refine Go_if_ne dX8_share_31 rfl (fun h31 => ?_) (fun h31 => ?_)
      · skip
        replace h31 := bI_n.mp h31
        refine Go_iload_n 1 rfl rfl dX8_share_36 ?_
        refine Go_iload_n 2 rfl rfl dX8_share_37 ?_
        refine Go_callSI (fX8_isIn c p (by omega) (by omega)) cwX8_201 smX8_isIn ⟨Nat.le_of_ble_eq_true rfl, Nat.le_of_ble_eq_true rfl⟩ rfl (Nat.le_of_ble_eq_true rfl) sh_rf dX8_share_38 ?_
        refine Go_if_ne dX8_share_41 rfl (fun h41 => ?_) (fun h41 => ?_)
        · skip
          replace h41 := bI_n.mp h41
          refine Go_iload_n 3 rfl rfl dX8_share_47 ?_
          · refine Go_lookup (off := 28) (tgt := 76) dX8_share_48 (by decide) (by rfl) rfl ?_
            refine Go_aload_n 0 rfl rfl dX8_share_76 ?_
            refine Go_getR (c' := 90) faX8_43 sh_0 (pt_0_4 (M := M) hC.1) dX8_share_77 ?_
            refine Go_iload_n 1 rfl rfl dX8_share_80 ?_
            refine Go_iload_n 2 rfl rfl dX8_share_81 ?_
            refine Go_callVI (q := vwCl[3]) (fX3_villagesOf hC c p (by omega)) cwX8_205 imX3_villagesOf rfl rfl ⟨Nat.le_of_ble_eq_true rfl, Nat.le_of_ble_eq_true rfl⟩ sh_90 rfl (Nat.le_of_ble_eq_true rfl) sh_rf dX8_share_82 ?_
            exact Go_ret rfl dX8_share_85
        · skip
          replace h41 := bI_0.mp h41
          exact absurd h h41
      · skip
        replace h31 := bI_0.mp h31
        exfalso; omega
set_option maxHeartbeats 4000000 in
set_option maxRecDepth 100000 in
theorem pX8_share_1 {D : va_G} {ca : Nat → ClassId} {M : gMem} {nv np : Nat} (hC : CS M nv np) (c : Nat) (hc : c < 2 ^ np) (p : Nat) (hp : p < np) (h : c.testBit p = true) : Fn D ca mX8_share [gR 0, gI (c : Int), gI (p : Int), gI 1] SH M [gI (shS (M 2) (M 91) (M 2) np c p nv)] SH (M) := by
  refine Fn_of okX8_share (Nat.le_of_ble_eq_true rfl) (Or.inr (Or.inl ⟨_, rfl, rfl⟩)) (Nat.le_refl _) (Nat.le_refl _) ?_
  refine Go_ls2 (ls' := [(0, gR 0), (1, gI _), (2, gI _), (3, gI _)]) rfl ?_
  have hv12 := hC.2.2.1
  have hn10 := hC.2.2.2.2
  have hpw := p10 hn10
  have hu : u32 (c : Int) (np : Int) = 0 := (u32z (by unfold in32; omega) (by omega)).mpr ⟨by omega, by omega⟩
  refine Go_aload_n 0 rfl rfl dX8_share_0 ?_
  refine Go_getR (c' := 90) faX8_43 sh_0 (pt_0_4 (M := M) hC.1) dX8_share_1 ?_
  refine Go_iload_n 1 rfl rfl dX8_share_4 ?_
  refine Go_callVI (q := vwCl[3]) (fX3_isChoice hC _) cwX8_180 imX3_isChoice rfl rfl ⟨Nat.le_of_ble_eq_true rfl, Nat.le_of_ble_eq_true rfl⟩ sh_90 rfl (Nat.le_of_ble_eq_true rfl) sh_rf dX8_share_5 ?_
  refine Go_if_eq dX8_share_8 rfl (fun h8 => ?_) (fun h8 => ?_)
  · skip
    replace h8 := bI_0.mp h8
    exact absurd hu h8
  · skip
    replace h8 := bI_n.mp h8
    refine Go_aload_n 0 rfl rfl dX8_share_11 ?_
    refine Go_getR (c' := 1) faX8_14 sh_0 (pt_0_0 (M := M) hC.1) dX8_share_12 ?_
    refine Go_iload_n 2 rfl rfl dX8_share_15 ?_
    refine Go_callVI (q := vwCl[6]) (fX6_hasPlace hC _) cwX8_127 imX6_hasPlace rfl rfl ⟨Nat.le_of_ble_eq_true rfl, Nat.le_of_ble_eq_true rfl⟩ sh_1 rfl (Nat.le_of_ble_eq_true rfl) sh_rf dX8_share_16 ?_
    refine Go_if_eq dX8_share_19 rfl (fun h19 => ?_) (fun h19 => ?_)
    · skip
      replace h19 := bI_0.mp h19
      exfalso; omega
    · skip
      replace h19 := bI_n.mp h19
      refine Go_iload_n 3 rfl rfl dX8_share_22 ?_
      refine Go_i2l dX8_share_23 ?_
      refine Go_lconst (v := 0) ⟨rfl, by unfold in64; omega⟩ dX8_share_24 ?_
      refine Go_ldc2 klX8_199 (by unfold in64; omega) dX8_share_25 ?_
      refine Go_callSI (fX8_isWithin _ _ _) cwX8_79 smX8_isWithin ⟨Nat.le_of_ble_eq_true rfl, Nat.le_of_ble_eq_true rfl⟩ rfl (Nat.le_of_ble_eq_true rfl) sh_rf dX8_share_28 ?_
      refine Go_if_ne dX8_share_31 rfl (fun h31 => ?_) (fun h31 => ?_)
      · skip
        replace h31 := bI_n.mp h31
        refine Go_iload_n 1 rfl rfl dX8_share_36 ?_
        refine Go_iload_n 2 rfl rfl dX8_share_37 ?_
        refine Go_callSI (fX8_isIn c p (by omega) (by omega)) cwX8_201 smX8_isIn ⟨Nat.le_of_ble_eq_true rfl, Nat.le_of_ble_eq_true rfl⟩ rfl (Nat.le_of_ble_eq_true rfl) sh_rf dX8_share_38 ?_
        refine Go_if_ne dX8_share_41 rfl (fun h41 => ?_) (fun h41 => ?_)
        · skip
          replace h41 := bI_n.mp h41
          refine Go_iload_n 3 rfl rfl dX8_share_47 ?_
          · refine Go_lookup (off := 38) (tgt := 86) dX8_share_48 (by decide) (by rfl) rfl ?_
            refine Go_aload_n 0 rfl rfl dX8_share_86 ?_
            refine Go_getR (c' := 90) faX8_43 sh_0 (pt_0_4 (M := M) hC.1) dX8_share_87 ?_
            refine Go_iload_n 1 rfl rfl dX8_share_90 ?_
            refine Go_iload_n 2 rfl rfl dX8_share_91 ?_
            refine Go_callVI (q := vwCl[3]) (fX3_loavesOf hC c p (by omega)) cwX8_208 imX3_loavesOf rfl rfl ⟨Nat.le_of_ble_eq_true rfl, Nat.le_of_ble_eq_true rfl⟩ sh_90 rfl (Nat.le_of_ble_eq_true rfl) sh_rf dX8_share_92 ?_
            exact Go_ret rfl dX8_share_95
        · skip
          replace h41 := bI_0.mp h41
          exact absurd h h41
      · skip
        replace h31 := bI_0.mp h31
        exfalso; omega
set_option maxHeartbeats 4000000 in
set_option maxRecDepth 100000 in
theorem pX8_share_2 {D : va_G} {ca : Nat → ClassId} {M : gMem} {nv np : Nat} (hC : CS M nv np) (c : Nat) (hc : c < 2 ^ np) (p : Nat) (hp : p < np) (h : c.testBit p = true) : Fn D ca mX8_share [gR 0, gI (c : Int), gI (p : Int), gI 2] SH M [gI (faS (M 2) (M 91) np c p nv)] SH (M) := by
  refine Fn_of okX8_share (Nat.le_of_ble_eq_true rfl) (Or.inr (Or.inl ⟨_, rfl, rfl⟩)) (Nat.le_refl _) (Nat.le_refl _) ?_
  refine Go_ls2 (ls' := [(0, gR 0), (1, gI _), (2, gI _), (3, gI _)]) rfl ?_
  have hv12 := hC.2.2.1
  have hn10 := hC.2.2.2.2
  have hpw := p10 hn10
  have hu : u32 (c : Int) (np : Int) = 0 := (u32z (by unfold in32; omega) (by omega)).mpr ⟨by omega, by omega⟩
  refine Go_aload_n 0 rfl rfl dX8_share_0 ?_
  refine Go_getR (c' := 90) faX8_43 sh_0 (pt_0_4 (M := M) hC.1) dX8_share_1 ?_
  refine Go_iload_n 1 rfl rfl dX8_share_4 ?_
  refine Go_callVI (q := vwCl[3]) (fX3_isChoice hC _) cwX8_180 imX3_isChoice rfl rfl ⟨Nat.le_of_ble_eq_true rfl, Nat.le_of_ble_eq_true rfl⟩ sh_90 rfl (Nat.le_of_ble_eq_true rfl) sh_rf dX8_share_5 ?_
  refine Go_if_eq dX8_share_8 rfl (fun h8 => ?_) (fun h8 => ?_)
  · skip
    replace h8 := bI_0.mp h8
    exact absurd hu h8
  · skip
    replace h8 := bI_n.mp h8
    refine Go_aload_n 0 rfl rfl dX8_share_11 ?_
    refine Go_getR (c' := 1) faX8_14 sh_0 (pt_0_0 (M := M) hC.1) dX8_share_12 ?_
    refine Go_iload_n 2 rfl rfl dX8_share_15 ?_
    refine Go_callVI (q := vwCl[6]) (fX6_hasPlace hC _) cwX8_127 imX6_hasPlace rfl rfl ⟨Nat.le_of_ble_eq_true rfl, Nat.le_of_ble_eq_true rfl⟩ sh_1 rfl (Nat.le_of_ble_eq_true rfl) sh_rf dX8_share_16 ?_
    refine Go_if_eq dX8_share_19 rfl (fun h19 => ?_) (fun h19 => ?_)
    · skip
      replace h19 := bI_0.mp h19
      exfalso; omega
    · skip
      replace h19 := bI_n.mp h19
      refine Go_iload_n 3 rfl rfl dX8_share_22 ?_
      refine Go_i2l dX8_share_23 ?_
      refine Go_lconst (v := 0) ⟨rfl, by unfold in64; omega⟩ dX8_share_24 ?_
      refine Go_ldc2 klX8_199 (by unfold in64; omega) dX8_share_25 ?_
      refine Go_callSI (fX8_isWithin _ _ _) cwX8_79 smX8_isWithin ⟨Nat.le_of_ble_eq_true rfl, Nat.le_of_ble_eq_true rfl⟩ rfl (Nat.le_of_ble_eq_true rfl) sh_rf dX8_share_28 ?_
      refine Go_if_ne dX8_share_31 rfl (fun h31 => ?_) (fun h31 => ?_)
      · skip
        replace h31 := bI_n.mp h31
        refine Go_iload_n 1 rfl rfl dX8_share_36 ?_
        refine Go_iload_n 2 rfl rfl dX8_share_37 ?_
        refine Go_callSI (fX8_isIn c p (by omega) (by omega)) cwX8_201 smX8_isIn ⟨Nat.le_of_ble_eq_true rfl, Nat.le_of_ble_eq_true rfl⟩ rfl (Nat.le_of_ble_eq_true rfl) sh_rf dX8_share_38 ?_
        refine Go_if_ne dX8_share_41 rfl (fun h41 => ?_) (fun h41 => ?_)
        · skip
          replace h41 := bI_n.mp h41
          refine Go_iload_n 3 rfl rfl dX8_share_47 ?_
          · refine Go_lookup (off := 48) (tgt := 96) dX8_share_48 (by decide) (by rfl) rfl ?_
            refine Go_aload_n 0 rfl rfl dX8_share_96 ?_
            refine Go_getR (c' := 90) faX8_43 sh_0 (pt_0_4 (M := M) hC.1) dX8_share_97 ?_
            refine Go_iload_n 1 rfl rfl dX8_share_100 ?_
            refine Go_iload_n 2 rfl rfl dX8_share_101 ?_
            refine Go_callVI (q := vwCl[3]) (fX3_farthestOf hC c p (by omega) (by omega)) cwX8_211 imX3_farthestOf rfl rfl ⟨Nat.le_of_ble_eq_true rfl, Nat.le_of_ble_eq_true rfl⟩ sh_90 rfl (Nat.le_of_ble_eq_true rfl) sh_rf dX8_share_102 ?_
            exact Go_ret rfl dX8_share_105
        · skip
          replace h41 := bI_0.mp h41
          exact absurd h h41
      · skip
        replace h31 := bI_0.mp h31
        exfalso; omega
theorem CS_svM {M : gMem} {nv np : Nat} (hC : CS M nv np) : CS (svM M nv np) nv np := by
  unfold svM
  split
  · have h9 : (svT M nv np).1 9 = M 92 9 := by
      unfold svT
      generalize 2 ^ np = N
      induction N with
      | zero => rfl
      | succ c ih =>
        simp only [tkS]
        split
        · show nfF _ _ _ 9 = _
          rw [nfF_9, ncF_9]
          exact ih
        · exact ih
    have h1 := CS_up (i := 0) (j := 8) (x := 1) (CS_row (i := 93) (r := (svT M nv np).2) (CS_sv hC h9) rfl) rfl
    exact h1
  · exact hC
theorem svM_out {M : gMem} {nv np i : Nat} (h : i ≠ 0 ∧ i ≠ 92 ∧ i ≠ 93) : svM M nv np i = M i := by
  unfold svM
  split
  · rw [gSet_n h.1, gSet_n h.2.2, gSet_n h.2.1]
  · rfl
set_option maxHeartbeats 4000000 in
set_option maxRecDepth 100000 in
theorem pX8_least {D : va_G} {ca : Nat → ClassId} {M : gMem} {nv np : Nat} (hC : CS M nv np) : Fn D ca mX8_least [gR 0] SH M [gJ (if (svM M nv np) 92 2 = 0 then -4 else (svM M nv np) 92 0)] SH (svM M nv np) := by
  refine Fn_of okX8_least (Nat.le_of_ble_eq_true rfl) (Or.inr (Or.inr (Or.inr ⟨_, rfl, rfl⟩))) (Nat.le_refl _) (Nat.le_refl _) ?_
  refine Go_ls2 (ls' := [(0, gR 0)]) rfl ?_
  have hv12 := hC.2.2.1
  have hn10 := hC.2.2.2.2
  have hN := CS_svM hC
  refine Go_aload_n 0 rfl rfl dX8_least_0 ?_
  refine Go_callV0 (q := vwCl[8]) (fX8_surveyChoices hC) cwX8_214 imX8_surveyChoices rfl rfl ⟨Nat.le_of_ble_eq_true rfl, Nat.le_of_ble_eq_true rfl⟩ sh_0 rfl (Nat.le_of_ble_eq_true rfl) sh_rf dX8_least_1 ?_
  generalize hNe : svM M nv np = N at hN ⊢
  refine Go_aload_n 0 rfl rfl dX8_least_4 ?_
  refine Go_getR (c' := 92) faX8_50 sh_0 (pt_0_5 (M := N) hN.1) dX8_least_5 ?_
  refine Go_getI faX8_217 sh_92 dX8_least_8 ?_
  refine Go_if_ne dX8_least_11 rfl (fun h11 => ?_) (fun h11 => ?_)
  · skip
    refine Go_aload_n 0 rfl rfl dX8_least_20 ?_
    refine Go_getR (c' := 92) faX8_50 sh_0 (pt_0_5 (M := N) hN.1) dX8_least_21 ?_
    refine Go_getJ faX8_220 sh_92 dX8_least_24 ?_
    exact Go_ret (by first | rw [if_neg (by exact h11)] | rw [if_pos (by exact h11)]) dX8_least_27
  · skip
    refine Go_ldc2 klX8_194 (by unfold in64; omega) dX8_least_14 ?_
    refine Go_goto dX8_least_17 rfl ?_
    exact Go_ret (by first | rw [if_neg (by exact h11)] | rw [if_pos (by exact h11)]) dX8_least_27
set_option maxHeartbeats 4000000 in
set_option maxRecDepth 100000 in
theorem pX8_best {D : va_G} {ca : Nat → ClassId} {M : gMem} {nv np : Nat} (hC : CS M nv np) : Fn D ca mX8_best [gR 0] SH M [gI ((svM M nv np) 92 1)] SH (svM M nv np) := by
  refine Fn_of okX8_best (Nat.le_of_ble_eq_true rfl) (Or.inr (Or.inl ⟨_, rfl, rfl⟩)) (Nat.le_refl _) (Nat.le_refl _) ?_
  refine Go_ls2 (ls' := [(0, gR 0)]) rfl ?_
  have hv12 := hC.2.2.1
  have hn10 := hC.2.2.2.2
  have hN := CS_svM hC
  refine Go_aload_n 0 rfl rfl dX8_best_0 ?_
  refine Go_callV0 (q := vwCl[8]) (fX8_surveyChoices hC) cwX8_214 imX8_surveyChoices rfl rfl ⟨Nat.le_of_ble_eq_true rfl, Nat.le_of_ble_eq_true rfl⟩ sh_0 rfl (Nat.le_of_ble_eq_true rfl) sh_rf dX8_best_1 ?_
  generalize hNe : svM M nv np = N at hN ⊢
  refine Go_aload_n 0 rfl rfl dX8_best_4 ?_
  refine Go_getR (c' := 92) faX8_50 sh_0 (pt_0_5 (M := N) hN.1) dX8_best_5 ?_
  refine Go_getI faX8_224 sh_92 dX8_best_8 ?_
  exact Go_ret rfl dX8_best_11
set_option maxHeartbeats 4000000 in
set_option maxRecDepth 100000 in
theorem pX8_many {D : va_G} {ca : Nat → ClassId} {M : gMem} {nv np : Nat} (hC : CS M nv np) : Fn D ca mX8_many [gR 0] SH M [gI ((svM M nv np) 92 2)] SH (svM M nv np) := by
  refine Fn_of okX8_many (Nat.le_of_ble_eq_true rfl) (Or.inr (Or.inl ⟨_, rfl, rfl⟩)) (Nat.le_refl _) (Nat.le_refl _) ?_
  refine Go_ls2 (ls' := [(0, gR 0)]) rfl ?_
  have hv12 := hC.2.2.1
  have hn10 := hC.2.2.2.2
  have hN := CS_svM hC
  refine Go_aload_n 0 rfl rfl dX8_many_0 ?_
  refine Go_callV0 (q := vwCl[8]) (fX8_surveyChoices hC) cwX8_214 imX8_surveyChoices rfl rfl ⟨Nat.le_of_ble_eq_true rfl, Nat.le_of_ble_eq_true rfl⟩ sh_0 rfl (Nat.le_of_ble_eq_true rfl) sh_rf dX8_many_1 ?_
  generalize hNe : svM M nv np = N at hN ⊢
  refine Go_aload_n 0 rfl rfl dX8_many_4 ?_
  refine Go_getR (c' := 92) faX8_50 sh_0 (pt_0_5 (M := N) hN.1) dX8_many_5 ?_
  refine Go_getI faX8_217 sh_92 dX8_many_8 ?_
  exact Go_ret rfl dX8_many_11
set_option maxHeartbeats 4000000 in
set_option maxRecDepth 100000 in
theorem pX8_every_bad {D : va_G} {ca : Nat → ClassId} {M : gMem} {nv np : Nat} (hC : CS M nv np) (p : Int) (h : ¬ (0 ≤ p ∧ p ≤ (np : Int) - 1)) : Fn D ca mX8_every [gR 0, gI p] SH M [gI (-1)] SH (M) := by
  refine Fn_of okX8_every (Nat.le_of_ble_eq_true rfl) (Or.inr (Or.inl ⟨_, rfl, rfl⟩)) (Nat.le_refl _) (Nat.le_refl _) ?_
  refine Go_ls2 (ls' := [(0, gR 0), (1, gI _)]) rfl ?_
  have hv12 := hC.2.2.1
  have hn10 := hC.2.2.2.2
  refine Go_aload_n 0 rfl rfl dX8_every_0 ?_
  refine Go_getR (c' := 1) faX8_14 sh_0 (pt_0_0 (M := M) hC.1) dX8_every_1 ?_
  refine Go_iload_n 1 rfl rfl dX8_every_4 ?_
  refine Go_callVI (q := vwCl[6]) (fX6_hasPlace hC _) cwX8_127 imX6_hasPlace rfl rfl ⟨Nat.le_of_ble_eq_true rfl, Nat.le_of_ble_eq_true rfl⟩ sh_1 rfl (Nat.le_of_ble_eq_true rfl) sh_rf dX8_every_5 ?_
  refine Go_if_ne dX8_every_8 rfl (fun h8 => ?_) (fun h8 => ?_)
  · skip
    replace h8 := bI_n.mp h8
    exact absurd h8 h
  · skip
    replace h8 := bI_0.mp h8
    refine Go_iconst (by unfold in32; omega) dX8_every_11 ?_
    exact Go_ret rfl dX8_every_12
set_option maxHeartbeats 4000000 in
set_option maxRecDepth 100000 in
theorem pX8_every {D : va_G} {ca : Nat → ClassId} {M : gMem} {nv np : Nat} (hC : CS M nv np) (p : Nat) (hp : p < np) (x y : Nat) (hx : x < 1024) (hy : y < 1024) (ex : (svM M nv np) 92 3 = (x : Int)) (ey : (svM M nv np) 92 4 = (y : Int)) : Fn D ca mX8_every [gR 0, gI (p : Int)] SH M [gI (if (svM M nv np) 92 2 = 0 then -4 else if x.testBit p = true then 1 else if y.testBit p = true then 0 else -5)] SH (svM M nv np) := by
  refine Fn_of okX8_every (Nat.le_of_ble_eq_true rfl) (Or.inr (Or.inl ⟨_, rfl, rfl⟩)) (Nat.le_refl _) (Nat.le_refl _) ?_
  refine Go_ls2 (ls' := [(0, gR 0), (1, gI _)]) rfl ?_
  have hv12 := hC.2.2.1
  have hn10 := hC.2.2.2.2
  have hN := CS_svM hC
  refine Go_aload_n 0 rfl rfl dX8_every_0 ?_
  refine Go_getR (c' := 1) faX8_14 sh_0 (pt_0_0 (M := M) hC.1) dX8_every_1 ?_
  refine Go_iload_n 1 rfl rfl dX8_every_4 ?_
  refine Go_callVI (q := vwCl[6]) (fX6_hasPlace hC _) cwX8_127 imX6_hasPlace rfl rfl ⟨Nat.le_of_ble_eq_true rfl, Nat.le_of_ble_eq_true rfl⟩ sh_1 rfl (Nat.le_of_ble_eq_true rfl) sh_rf dX8_every_5 ?_
  refine Go_if_ne dX8_every_8 rfl (fun h8 => ?_) (fun h8 => ?_)
  · skip
    replace h8 := bI_n.mp h8
    refine Go_aload_n 0 rfl rfl dX8_every_13 ?_
    refine Go_callV0 (q := vwCl[8]) (fX8_surveyChoices hC) cwX8_214 imX8_surveyChoices rfl rfl ⟨Nat.le_of_ble_eq_true rfl, Nat.le_of_ble_eq_true rfl⟩ sh_0 rfl (Nat.le_of_ble_eq_true rfl) sh_rf dX8_every_14 ?_
    generalize hNe : svM M nv np = N at hN ex ey ⊢
    refine Go_aload_n 0 rfl rfl dX8_every_17 ?_
    refine Go_getR (c' := 92) faX8_50 sh_0 (pt_0_5 (M := N) hN.1) dX8_every_18 ?_
    refine Go_getI faX8_217 sh_92 dX8_every_21 ?_
    refine Go_if_ne dX8_every_24 rfl (fun h24 => ?_) (fun h24 => ?_)
    · skip
      refine Go_aload_n 0 rfl rfl dX8_every_30 ?_
      refine Go_getR (c' := 92) faX8_50 sh_0 (pt_0_5 (M := N) hN.1) dX8_every_31 ?_
      refine Go_getIv (v := ((x : Nat) : Int)) ex faX8_227 sh_92 dX8_every_34 ?_
      refine Go_iload_n 1 rfl rfl dX8_every_37 ?_
      refine Go_callSI (fX8_isIn x p (by omega) (by omega)) cwX8_201 smX8_isIn ⟨Nat.le_of_ble_eq_true rfl, Nat.le_of_ble_eq_true rfl⟩ rfl (Nat.le_of_ble_eq_true rfl) sh_rf dX8_every_38 ?_
      refine Go_if_eq dX8_every_41 rfl (fun h41 => ?_) (fun h41 => ?_)
      · skip
        replace h41 := bI_0.mp h41
        refine Go_aload_n 0 rfl rfl dX8_every_46 ?_
        refine Go_getR (c' := 92) faX8_50 sh_0 (pt_0_5 (M := N) hN.1) dX8_every_47 ?_
        refine Go_getIv (v := ((y : Nat) : Int)) ey faX8_230 sh_92 dX8_every_50 ?_
        refine Go_iload_n 1 rfl rfl dX8_every_53 ?_
        refine Go_callSI (fX8_isIn y p (by omega) (by omega)) cwX8_201 smX8_isIn ⟨Nat.le_of_ble_eq_true rfl, Nat.le_of_ble_eq_true rfl⟩ rfl (Nat.le_of_ble_eq_true rfl) sh_rf dX8_every_54 ?_
        refine Go_if_eq dX8_every_57 rfl (fun h57 => ?_) (fun h57 => ?_)
        · skip
          replace h57 := bI_0.mp h57
          refine Go_bipush ⟨by decide, by unfold in32; omega⟩ dX8_every_64 ?_
          exact Go_ret (by first | rw [if_pos (by exact h24)] | rw [if_neg (by exact h24), if_pos (by exact h41)] | rw [if_neg (by exact h24), if_neg (by exact h41), if_pos (by exact h57)] | rw [if_neg (by exact h24), if_neg (by exact h41), if_neg (by exact h57)]) dX8_every_66
        · skip
          replace h57 := bI_n.mp h57
          refine Go_iconst (by unfold in32; omega) dX8_every_60 ?_
          refine Go_goto dX8_every_61 rfl ?_
          exact Go_ret (by first | rw [if_pos (by exact h24)] | rw [if_neg (by exact h24), if_pos (by exact h41)] | rw [if_neg (by exact h24), if_neg (by exact h41), if_pos (by exact h57)] | rw [if_neg (by exact h24), if_neg (by exact h41), if_neg (by exact h57)]) dX8_every_66
      · skip
        replace h41 := bI_n.mp h41
        refine Go_iconst (by unfold in32; omega) dX8_every_44 ?_
        exact Go_ret (by first | rw [if_pos (by exact h24)] | rw [if_neg (by exact h24), if_pos (by exact h41)] | rw [if_neg (by exact h24), if_neg (by exact h41), if_pos (by exact h57)] | rw [if_neg (by exact h24), if_neg (by exact h41), if_neg (by exact h57)]) dX8_every_45
    · skip
      refine Go_bipush ⟨by decide, by unfold in32; omega⟩ dX8_every_27 ?_
      exact Go_ret (by first | rw [if_pos (by exact h24)] | rw [if_neg (by exact h24), if_pos (by exact h41)] | rw [if_neg (by exact h24), if_neg (by exact h41), if_pos (by exact h57)] | rw [if_neg (by exact h24), if_neg (by exact h41), if_neg (by exact h57)]) dX8_every_29
  · skip
    replace h8 := bI_0.mp h8
    exfalso; omega
set_option maxHeartbeats 4000000 in
set_option maxRecDepth 100000 in
theorem pX8_second_bad {D : va_G} {ca : Nat → ClassId} {M : gMem} {nv np : Nat} (hC : CS M nv np) (x : Int) (hx : in32 x) (h : ¬ (0 ≤ x ∧ x < ((2 ^ np : Nat) : Int))) : Fn D ca mX8_second [gR 0, gI x] SH M [gI (-1)] SH (M) := by
  refine Fn_of okX8_second (Nat.le_of_ble_eq_true rfl) (Or.inr (Or.inl ⟨_, rfl, rfl⟩)) (Nat.le_refl _) (Nat.le_refl _) ?_
  refine Go_ls2 (ls' := [(0, gR 0), (1, gI _)]) rfl ?_
  have hv12 := hC.2.2.1
  have hn10 := hC.2.2.2.2
  have hu : ¬ u32 x (np : Int) = 0 := fun q => h ((u32z hx (by omega)).mp q)
  refine Go_aload_n 0 rfl rfl dX8_second_0 ?_
  refine Go_getR (c' := 90) faX8_43 sh_0 (pt_0_4 (M := M) hC.1) dX8_second_1 ?_
  refine Go_iload_n 1 rfl rfl dX8_second_4 ?_
  refine Go_callVI (q := vwCl[3]) (fX3_isChoice hC _) cwX8_180 imX3_isChoice rfl rfl ⟨Nat.le_of_ble_eq_true rfl, Nat.le_of_ble_eq_true rfl⟩ sh_90 rfl (Nat.le_of_ble_eq_true rfl) sh_rf dX8_second_5 ?_
  refine Go_if_ne dX8_second_8 rfl (fun h8 => ?_) (fun h8 => ?_)
  · skip
    replace h8 := bI_n.mp h8
    exact absurd h8 hu
  · skip
    replace h8 := bI_0.mp h8
    refine Go_iconst (by unfold in32; omega) dX8_second_11 ?_
    exact Go_ret rfl dX8_second_12
set_option maxHeartbeats 4000000 in
set_option maxRecDepth 100000 in
theorem pX8_second {D : va_G} {ca : Nat → ClassId} {M : gMem} {nv np : Nat} (hC : CS M nv np) (c : Nat) (hc : c < 2 ^ np) : Fn D ca mX8_second [gR 0, gI (c : Int)] SH M [gI (if (svM M nv np) 92 1 = (c : Int) then (svM M nv np) 92 6 else (svM M nv np) 92 1)] SH (svM M nv np) := by
  refine Fn_of okX8_second (Nat.le_of_ble_eq_true rfl) (Or.inr (Or.inl ⟨_, rfl, rfl⟩)) (Nat.le_refl _) (Nat.le_refl _) ?_
  refine Go_ls2 (ls' := [(0, gR 0), (1, gI _)]) rfl ?_
  have hv12 := hC.2.2.1
  have hn10 := hC.2.2.2.2
  have hN := CS_svM hC
  have hpw := p10 hn10
  have hu : u32 (c : Int) (np : Int) = 0 := (u32z (by unfold in32; omega) (by omega)).mpr ⟨by omega, by omega⟩
  refine Go_aload_n 0 rfl rfl dX8_second_0 ?_
  refine Go_getR (c' := 90) faX8_43 sh_0 (pt_0_4 (M := M) hC.1) dX8_second_1 ?_
  refine Go_iload_n 1 rfl rfl dX8_second_4 ?_
  refine Go_callVI (q := vwCl[3]) (fX3_isChoice hC _) cwX8_180 imX3_isChoice rfl rfl ⟨Nat.le_of_ble_eq_true rfl, Nat.le_of_ble_eq_true rfl⟩ sh_90 rfl (Nat.le_of_ble_eq_true rfl) sh_rf dX8_second_5 ?_
  refine Go_if_ne dX8_second_8 rfl (fun h8 => ?_) (fun h8 => ?_)
  · skip
    replace h8 := bI_n.mp h8
    refine Go_aload_n 0 rfl rfl dX8_second_13 ?_
    refine Go_callV0 (q := vwCl[8]) (fX8_surveyChoices hC) cwX8_214 imX8_surveyChoices rfl rfl ⟨Nat.le_of_ble_eq_true rfl, Nat.le_of_ble_eq_true rfl⟩ sh_0 rfl (Nat.le_of_ble_eq_true rfl) sh_rf dX8_second_14 ?_
    generalize hNe : svM M nv np = N at hN ⊢
    refine Go_aload_n 0 rfl rfl dX8_second_17 ?_
    refine Go_getR (c' := 92) faX8_50 sh_0 (pt_0_5 (M := N) hN.1) dX8_second_18 ?_
    refine Go_getI faX8_224 sh_92 dX8_second_21 ?_
    refine Go_iload_n 1 rfl rfl dX8_second_24 ?_
    refine Go_icmp_ne dX8_second_25 rfl (fun h25 => ?_) (fun h25 => ?_)
    · skip
      refine Go_aload_n 0 rfl rfl dX8_second_38 ?_
      refine Go_getR (c' := 92) faX8_50 sh_0 (pt_0_5 (M := N) hN.1) dX8_second_39 ?_
      refine Go_getI faX8_224 sh_92 dX8_second_42 ?_
      exact Go_ret (by first | rw [if_pos (by exact h25)] | rw [if_neg (by exact h25)]) dX8_second_45
    · skip
      refine Go_aload_n 0 rfl rfl dX8_second_28 ?_
      refine Go_getR (c' := 92) faX8_50 sh_0 (pt_0_5 (M := N) hN.1) dX8_second_29 ?_
      refine Go_getI faX8_233 sh_92 dX8_second_32 ?_
      refine Go_goto dX8_second_35 rfl ?_
      exact Go_ret (by first | rw [if_pos (by exact h25)] | rw [if_neg (by exact h25)]) dX8_second_45
  · skip
    replace h8 := bI_0.mp h8
    exact absurd hu h8
set_option maxHeartbeats 4000000 in
set_option maxRecDepth 100000 in
theorem pX8_lose_bad {D : va_G} {ca : Nat → ClassId} {M : gMem} {nv np : Nat} (hC : CS M nv np) (p : Int) (h : ¬ (0 ≤ p ∧ p ≤ (np : Int) - 1)) : Fn D ca mX8_lose [gR 0, gI p] SH M [gJ (-1)] SH (M) := by
  refine Fn_of okX8_lose (Nat.le_of_ble_eq_true rfl) (Or.inr (Or.inr (Or.inr ⟨_, rfl, rfl⟩))) (Nat.le_refl _) (Nat.le_refl _) ?_
  refine Go_ls2 (ls' := [(0, gR 0), (1, gI _)]) rfl ?_
  have hv12 := hC.2.2.1
  have hn10 := hC.2.2.2.2
  refine Go_aload_n 0 rfl rfl dX8_lose_0 ?_
  refine Go_getR (c' := 1) faX8_14 sh_0 (pt_0_0 (M := M) hC.1) dX8_lose_1 ?_
  refine Go_iload_n 1 rfl rfl dX8_lose_4 ?_
  refine Go_callVI (q := vwCl[6]) (fX6_hasPlace hC _) cwX8_127 imX6_hasPlace rfl rfl ⟨Nat.le_of_ble_eq_true rfl, Nat.le_of_ble_eq_true rfl⟩ sh_1 rfl (Nat.le_of_ble_eq_true rfl) sh_rf dX8_lose_5 ?_
  refine Go_if_ne dX8_lose_8 rfl (fun h8 => ?_) (fun h8 => ?_)
  · skip
    replace h8 := bI_n.mp h8
    exact absurd h8 h
  · skip
    replace h8 := bI_0.mp h8
    refine Go_ldc2 klX8_186 (by unfold in64; omega) dX8_lose_11 ?_
    exact Go_ret rfl dX8_lose_14
set_option maxHeartbeats 4000000 in
set_option maxRecDepth 100000 in
theorem pX8_lose_st {D : va_G} {ca : Nat → ClassId} {M : gMem} {nv np : Nat} (hC : CS M nv np) (p : Nat) (hp : p < np) (h : M 5 p = 3) : Fn D ca mX8_lose [gR 0, gI (p : Int)] SH M [gJ (-2)] SH (M) := by
  refine Fn_of okX8_lose (Nat.le_of_ble_eq_true rfl) (Or.inr (Or.inr (Or.inr ⟨_, rfl, rfl⟩))) (Nat.le_refl _) (Nat.le_refl _) ?_
  refine Go_ls2 (ls' := [(0, gR 0), (1, gI _)]) rfl ?_
  have hv12 := hC.2.2.1
  have hn10 := hC.2.2.2.2
  refine Go_aload_n 0 rfl rfl dX8_lose_0 ?_
  refine Go_getR (c' := 1) faX8_14 sh_0 (pt_0_0 (M := M) hC.1) dX8_lose_1 ?_
  refine Go_iload_n 1 rfl rfl dX8_lose_4 ?_
  refine Go_callVI (q := vwCl[6]) (fX6_hasPlace hC _) cwX8_127 imX6_hasPlace rfl rfl ⟨Nat.le_of_ble_eq_true rfl, Nat.le_of_ble_eq_true rfl⟩ sh_1 rfl (Nat.le_of_ble_eq_true rfl) sh_rf dX8_lose_5 ?_
  refine Go_if_ne dX8_lose_8 rfl (fun h8 => ?_) (fun h8 => ?_)
  · skip
    replace h8 := bI_n.mp h8
    refine Go_aload_n 0 rfl rfl dX8_lose_15 ?_
    refine Go_getR (c' := 1) faX8_14 sh_0 (pt_0_0 (M := M) hC.1) dX8_lose_16 ?_
    refine Go_getR (c' := 5) faX8_133 sh_1 (pt_1_6 (M := M) hC.1) dX8_lose_19 ?_
    refine Go_iload_n 1 rfl rfl dX8_lose_22 ?_
    refine Go_ialoadv p (v := M 5 (p)) rfl sh_5 rfl (by omega) dX8_lose_23 ?_
    refine Go_iconst (by unfold in32; omega) dX8_lose_24 ?_
    refine Go_icmp_ne dX8_lose_25 rfl (fun h25 => ?_) (fun h25 => ?_)
    · skip
      exact absurd h h25
    · skip
      refine Go_ldc2 klX8_236 (by unfold in64; omega) dX8_lose_28 ?_
      exact Go_ret rfl dX8_lose_31
  · skip
    replace h8 := bI_0.mp h8
    exfalso; omega
set_option maxHeartbeats 4000000 in
set_option maxRecDepth 100000 in
theorem pX8_lose {D : va_G} {ca : Nat → ClassId} {M : gMem} {nv np : Nat} (hC : CS M nv np) (p : Nat) (hp : p < np) (h : M 5 p ≠ 3) : Fn D ca mX8_lose [gR 0, gI (p : Int)] SH M [gJ (if (svM M nv np) 93 p = 9223372036854775807 then -4 else (svM M nv np) 93 p)] SH (svM M nv np) := by
  refine Fn_of okX8_lose (Nat.le_of_ble_eq_true rfl) (Or.inr (Or.inr (Or.inr ⟨_, rfl, rfl⟩))) (Nat.le_refl _) (Nat.le_refl _) ?_
  refine Go_ls2 (ls' := [(0, gR 0), (1, gI _)]) rfl ?_
  have hv12 := hC.2.2.1
  have hn10 := hC.2.2.2.2
  have hN := CS_svM hC
  refine Go_aload_n 0 rfl rfl dX8_lose_0 ?_
  refine Go_getR (c' := 1) faX8_14 sh_0 (pt_0_0 (M := M) hC.1) dX8_lose_1 ?_
  refine Go_iload_n 1 rfl rfl dX8_lose_4 ?_
  refine Go_callVI (q := vwCl[6]) (fX6_hasPlace hC _) cwX8_127 imX6_hasPlace rfl rfl ⟨Nat.le_of_ble_eq_true rfl, Nat.le_of_ble_eq_true rfl⟩ sh_1 rfl (Nat.le_of_ble_eq_true rfl) sh_rf dX8_lose_5 ?_
  refine Go_if_ne dX8_lose_8 rfl (fun h8 => ?_) (fun h8 => ?_)
  · skip
    replace h8 := bI_n.mp h8
    refine Go_aload_n 0 rfl rfl dX8_lose_15 ?_
    refine Go_getR (c' := 1) faX8_14 sh_0 (pt_0_0 (M := M) hC.1) dX8_lose_16 ?_
    refine Go_getR (c' := 5) faX8_133 sh_1 (pt_1_6 (M := M) hC.1) dX8_lose_19 ?_
    refine Go_iload_n 1 rfl rfl dX8_lose_22 ?_
    refine Go_ialoadv p (v := M 5 (p)) rfl sh_5 rfl (by omega) dX8_lose_23 ?_
    refine Go_iconst (by unfold in32; omega) dX8_lose_24 ?_
    refine Go_icmp_ne dX8_lose_25 rfl (fun h25 => ?_) (fun h25 => ?_)
    · skip
      refine Go_aload_n 0 rfl rfl dX8_lose_32 ?_
      refine Go_callV0 (q := vwCl[8]) (fX8_surveyChoices hC) cwX8_214 imX8_surveyChoices rfl rfl ⟨Nat.le_of_ble_eq_true rfl, Nat.le_of_ble_eq_true rfl⟩ sh_0 rfl (Nat.le_of_ble_eq_true rfl) sh_rf dX8_lose_33 ?_
      generalize hNe : svM M nv np = N at hN ⊢
      refine Go_aload_n 0 rfl rfl dX8_lose_36 ?_
      refine Go_getR (c' := 92) faX8_50 sh_0 (pt_0_5 (M := N) hN.1) dX8_lose_37 ?_
      refine Go_getR (c' := 93) faX8_238 sh_92 (pt_92_9 (M := N) hN.1) dX8_lose_40 ?_
      refine Go_iload_n 1 rfl rfl dX8_lose_43 ?_
      refine Go_laload p sh_93 rfl (by omega) dX8_lose_44 ?_
      refine Go_lstore_n (ls' := [(2, gJ _), (0, gR 0), (1, gI _)]) rfl dX8_lose_45 (by decide) rfl ?_
      refine Go_lload_n 0 rfl rfl dX8_lose_46 ?_
      refine Go_ldc2 klX8_242 (by unfold in64; omega) dX8_lose_47 ?_
      refine Go_lcmp dX8_lose_50 ?_
      refine Go_if_ne dX8_lose_51 rfl (fun h51 => ?_) (fun h51 => ?_)
      · skip
        replace h51 := cmp_ne.mp h51
        refine Go_lload_n 0 rfl rfl dX8_lose_60 ?_
        exact Go_ret (by first | rw [if_pos (by exact h51)] | rw [if_neg (by exact h51)]) dX8_lose_61
      · skip
        replace h51 := cmp_eq.mp h51
        refine Go_ldc2 klX8_194 (by unfold in64; omega) dX8_lose_54 ?_
        refine Go_goto dX8_lose_57 rfl ?_
        exact Go_ret (by first | rw [if_pos (by exact h51)] | rw [if_neg (by exact h51)]) dX8_lose_61
    · skip
      exact absurd h25 h
  · skip
    replace h8 := bI_0.mp h8
    exfalso; omega
set_option maxHeartbeats 4000000 in
set_option maxRecDepth 100000 in
theorem pX8_worst {D : va_G} {ca : Nat → ClassId} {M : gMem} {nv np : Nat} (hC : CS M nv np) : Fn D ca mX8_worst [gR 0] SH M [gI (if (svM M nv np) 92 2 = 0 then -4 else (dlS ((svM M nv np) 5) ((svM M nv np) 93) np).1)] SH (svM M nv np) := by
  refine Fn_of okX8_worst (Nat.le_of_ble_eq_true rfl) (Or.inr (Or.inl ⟨_, rfl, rfl⟩)) (Nat.le_refl _) (Nat.le_refl _) ?_
  refine Go_ls2 (ls' := [(0, gR 0)]) rfl ?_
  have hv12 := hC.2.2.1
  have hn10 := hC.2.2.2.2
  have hN := CS_svM hC
  refine Go_aload_n 0 rfl rfl dX8_worst_0 ?_
  refine Go_callV0 (q := vwCl[8]) (fX8_surveyChoices hC) cwX8_214 imX8_surveyChoices rfl rfl ⟨Nat.le_of_ble_eq_true rfl, Nat.le_of_ble_eq_true rfl⟩ sh_0 rfl (Nat.le_of_ble_eq_true rfl) sh_rf dX8_worst_1 ?_
  generalize hNe : svM M nv np = N at hN ⊢
  refine Go_aload_n 0 rfl rfl dX8_worst_4 ?_
  refine Go_getR (c' := 92) faX8_50 sh_0 (pt_0_5 (M := N) hN.1) dX8_worst_5 ?_
  refine Go_getI faX8_217 sh_92 dX8_worst_8 ?_
  refine Go_if_ne dX8_worst_11 rfl (fun h11 => ?_) (fun h11 => ?_)
  · skip
    refine Go_aload_n 0 rfl rfl dX8_worst_19 ?_
    refine Go_getR (c' := 92) faX8_50 sh_0 (pt_0_5 (M := N) hN.1) dX8_worst_20 ?_
    refine Go_aload_n 0 rfl rfl dX8_worst_23 ?_
    refine Go_getR (c' := 1) faX8_14 sh_0 (pt_0_0 (M := N) hN.1) dX8_worst_24 ?_
    refine Go_callVI (q := vwCl[5]) (fX5_dearestLoss hN) cwX8_244 imX5_dearestLoss rfl rfl ⟨Nat.le_of_ble_eq_true rfl, Nat.le_of_ble_eq_true rfl⟩ sh_92 rfl (Nat.le_of_ble_eq_true rfl) sh_rf dX8_worst_27 ?_
    exact Go_ret (by first | rw [if_neg (by exact h11)] | rw [if_pos (by exact h11)]) dX8_worst_30
  · skip
    refine Go_bipush ⟨by decide, by unfold in32; omega⟩ dX8_worst_14 ?_
    refine Go_goto dX8_worst_16 rfl ?_
    exact Go_ret (by first | rw [if_neg (by exact h11)] | rw [if_pos (by exact h11)]) dX8_worst_30
set_option maxHeartbeats 4000000 in
set_option maxRecDepth 100000 in
theorem pX8_farthest {D : va_G} {ca : Nat → ClassId} {M : gMem} {nv np : Nat} (hC : CS M nv np) : Fn D ca mX8_farthest [gR 0] SH M [gI (if (svM M nv np) 92 8 = -4 then -4 else (svM M nv np) 92 7)] SH (svM M nv np) := by
  refine Fn_of okX8_farthest (Nat.le_of_ble_eq_true rfl) (Or.inr (Or.inl ⟨_, rfl, rfl⟩)) (Nat.le_refl _) (Nat.le_refl _) ?_
  refine Go_ls2 (ls' := [(0, gR 0)]) rfl ?_
  have hv12 := hC.2.2.1
  have hn10 := hC.2.2.2.2
  have hN := CS_svM hC
  refine Go_aload_n 0 rfl rfl dX8_farthest_0 ?_
  refine Go_callV0 (q := vwCl[8]) (fX8_surveyChoices hC) cwX8_214 imX8_surveyChoices rfl rfl ⟨Nat.le_of_ble_eq_true rfl, Nat.le_of_ble_eq_true rfl⟩ sh_0 rfl (Nat.le_of_ble_eq_true rfl) sh_rf dX8_farthest_1 ?_
  generalize hNe : svM M nv np = N at hN ⊢
  refine Go_aload_n 0 rfl rfl dX8_farthest_4 ?_
  refine Go_getR (c' := 92) faX8_50 sh_0 (pt_0_5 (M := N) hN.1) dX8_farthest_5 ?_
  refine Go_getI faX8_248 sh_92 dX8_farthest_8 ?_
  refine Go_bipush ⟨by decide, by unfold in32; omega⟩ dX8_farthest_11 ?_
  refine Go_icmp_ne dX8_farthest_13 rfl (fun h13 => ?_) (fun h13 => ?_)
  · skip
    refine Go_aload_n 0 rfl rfl dX8_farthest_21 ?_
    refine Go_getR (c' := 92) faX8_50 sh_0 (pt_0_5 (M := N) hN.1) dX8_farthest_22 ?_
    refine Go_getI faX8_251 sh_92 dX8_farthest_25 ?_
    exact Go_ret (by first | rw [if_neg (by exact h13)] | rw [if_pos (by exact h13)]) dX8_farthest_28
  · skip
    refine Go_bipush ⟨by decide, by unfold in32; omega⟩ dX8_farthest_16 ?_
    refine Go_goto dX8_farthest_18 rfl ?_
    exact Go_ret (by first | rw [if_neg (by exact h13)] | rw [if_pos (by exact h13)]) dX8_farthest_28
set_option maxHeartbeats 4000000 in
set_option maxRecDepth 100000 in
theorem pX8_nearest {D : va_G} {ca : Nat → ClassId} {M : gMem} {nv np : Nat} (hC : CS M nv np) : Fn D ca mX8_nearest [gR 0] SH M [gI ((svM M nv np) 92 8)] SH (svM M nv np) := by
  refine Fn_of okX8_nearest (Nat.le_of_ble_eq_true rfl) (Or.inr (Or.inl ⟨_, rfl, rfl⟩)) (Nat.le_refl _) (Nat.le_refl _) ?_
  refine Go_ls2 (ls' := [(0, gR 0)]) rfl ?_
  have hv12 := hC.2.2.1
  have hn10 := hC.2.2.2.2
  have hN := CS_svM hC
  refine Go_aload_n 0 rfl rfl dX8_nearest_0 ?_
  refine Go_callV0 (q := vwCl[8]) (fX8_surveyChoices hC) cwX8_214 imX8_surveyChoices rfl rfl ⟨Nat.le_of_ble_eq_true rfl, Nat.le_of_ble_eq_true rfl⟩ sh_0 rfl (Nat.le_of_ble_eq_true rfl) sh_rf dX8_nearest_1 ?_
  generalize hNe : svM M nv np = N at hN ⊢
  refine Go_aload_n 0 rfl rfl dX8_nearest_4 ?_
  refine Go_getR (c' := 92) faX8_50 sh_0 (pt_0_5 (M := N) hN.1) dX8_nearest_5 ?_
  refine Go_getI faX8_248 sh_92 dX8_nearest_8 ?_
  exact Go_ret rfl dX8_nearest_11
