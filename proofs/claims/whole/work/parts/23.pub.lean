def adP (M : gMem) (nv np s : Nat) : Nat × (Nat → Int) := puL (fun c f => omS (fun c => msB (M 90 2) (M 90 3) (M 1 2) (c : Int)) (fun c => meS (M 2) (M 5) (M 6) (M 91) nv np c) c f np) 10 s (gUp (M 94) 1 0)
def cgP (M : gMem) (nv np c : Nat) : Nat × (Nat → Int) := puL (fun c f => oaO (fun c => msB (M 90 2) (M 90 3) (M 1 2) (c : Int)) (fun c => meS (M 2) (M 5) (M 6) (M 91) nv np c) c np f np) 1024 c (gUp (M 94) 1 0)
set_option maxHeartbeats 4000000 in
set_option maxRecDepth 100000 in
theorem pX8_added_st {D : va_G} {ca : Nat → ClassId} {M : gMem} {nv np : Nat} (hC : CS M nv np) (s : Nat) (hs : M 90 2 = (s : Int)) (h : ¬ msB (M 90 2) (M 90 3) (M 1 2) (s : Int) = true) : Fn D ca mX8_added [gR 0] SH M [gI (-2)] SH (M) := by
  refine Fn_of okX8_added (Nat.le_of_ble_eq_true rfl) (Or.inr (Or.inl ⟨_, rfl, rfl⟩)) (Nat.le_refl _) (Nat.le_refl _) ?_
  refine Go_ls2 (ls' := [(0, gR 0)]) rfl ?_
  have hv12 := hC.2.2.1
  have hn10 := hC.2.2.2.2
  refine Go_aload_n 0 rfl rfl dX8_added_0 ?_
  refine Go_getR (c' := 90) faX8_43 sh_0 (pt_0_4 (M := M) hC.1) dX8_added_1 ?_
  refine Go_aload_n 0 rfl rfl dX8_added_4 ?_
  refine Go_getR (c' := 90) faX8_43 sh_0 (pt_0_4 (M := M) hC.1) dX8_added_5 ?_
  refine Go_getIv (v := (s : Int)) hs faX8_254 sh_90 dX8_added_8 ?_
  refine Go_callVI (q := vwCl[3]) (fX3_mayStand hC (s := M 90 2) rfl (b := M 90 3) rfl (n := M 1 2) rfl _) cwX8_183 imX3_mayStand rfl rfl ⟨Nat.le_of_ble_eq_true rfl, Nat.le_of_ble_eq_true rfl⟩ sh_90 rfl (Nat.le_of_ble_eq_true rfl) sh_rf dX8_added_11 ?_
  refine Go_if_ne dX8_added_14 rfl (fun h14 => ?_) (fun h14 => ?_)
  · skip
    replace h14 := bI_n.mp h14
    exact absurd h14 h
  · skip
    replace h14 := bI_0.mp h14
    refine Go_bipush ⟨by decide, by unfold in32; omega⟩ dX8_added_17 ?_
    exact Go_ret rfl dX8_added_19
set_option maxHeartbeats 4000000 in
set_option maxRecDepth 100000 in
theorem pX8_added {D : va_G} {ca : Nat → ClassId} {M : gMem} {nv np : Nat} (hC : CS M nv np) (s : Nat) (hs : M 90 2 = (s : Int)) (hs2 : s < 1024) (h : msB (M 90 2) (M 90 3) (M 1 2) (s : Int) = true) : Fn D ca mX8_added [gR 0] SH M [gI ((adP M nv np s).1 : Int)] SH (gSet M 94 (adP M nv np s).2) := by
  refine Fn_of okX8_added (Nat.le_of_ble_eq_true rfl) (Or.inr (Or.inl ⟨_, rfl, rfl⟩)) (Nat.le_refl _) (Nat.le_refl _) ?_
  refine Go_ls2 (ls' := [(0, gR 0)]) rfl ?_
  have hv12 := hC.2.2.1
  have hn10 := hC.2.2.2.2
  refine Go_aload_n 0 rfl rfl dX8_added_0 ?_
  refine Go_getR (c' := 90) faX8_43 sh_0 (pt_0_4 (M := M) hC.1) dX8_added_1 ?_
  refine Go_aload_n 0 rfl rfl dX8_added_4 ?_
  refine Go_getR (c' := 90) faX8_43 sh_0 (pt_0_4 (M := M) hC.1) dX8_added_5 ?_
  refine Go_getIv (v := (s : Int)) hs faX8_254 sh_90 dX8_added_8 ?_
  refine Go_callVI (q := vwCl[3]) (fX3_mayStand hC (s := M 90 2) rfl (b := M 90 3) rfl (n := M 1 2) rfl _) cwX8_183 imX3_mayStand rfl rfl ⟨Nat.le_of_ble_eq_true rfl, Nat.le_of_ble_eq_true rfl⟩ sh_90 rfl (Nat.le_of_ble_eq_true rfl) sh_rf dX8_added_11 ?_
  refine Go_if_ne dX8_added_14 rfl (fun h14 => ?_) (fun h14 => ?_)
  · skip
    replace h14 := bI_n.mp h14
    refine Go_aload_n 0 rfl rfl dX8_added_20 ?_
    refine Go_getR (c' := 94) faX8_59 sh_0 (pt_0_6 (M := M) hC.1) dX8_added_21 ?_
    refine Go_callVI (q := vwCl[0]) (fX0_putUp hC s hs hs2) cwX8_257 imX0_putUp rfl rfl ⟨Nat.le_of_ble_eq_true rfl, Nat.le_of_ble_eq_true rfl⟩ sh_94 rfl (Nat.le_of_ble_eq_true rfl) sh_rf dX8_added_24 ?_
    exact Go_ret rfl dX8_added_27
  · skip
    replace h14 := bI_0.mp h14
    exact absurd h h14
set_option maxHeartbeats 4000000 in
set_option maxRecDepth 100000 in
theorem pX8_changed_bad {D : va_G} {ca : Nat → ClassId} {M : gMem} {nv np : Nat} (hC : CS M nv np) (x : Int) (hx : in32 x) (h : ¬ (0 ≤ x ∧ x < ((2 ^ np : Nat) : Int))) : Fn D ca mX8_changed [gR 0, gI x] SH M [gI (-1)] SH (M) := by
  refine Fn_of okX8_changed (Nat.le_of_ble_eq_true rfl) (Or.inr (Or.inl ⟨_, rfl, rfl⟩)) (Nat.le_refl _) (Nat.le_refl _) ?_
  refine Go_ls2 (ls' := [(0, gR 0), (1, gI _)]) rfl ?_
  have hv12 := hC.2.2.1
  have hn10 := hC.2.2.2.2
  have hu : ¬ u32 x (np : Int) = 0 := fun q => h ((u32z hx (by omega)).mp q)
  refine Go_aload_n 0 rfl rfl dX8_changed_0 ?_
  refine Go_getR (c' := 90) faX8_43 sh_0 (pt_0_4 (M := M) hC.1) dX8_changed_1 ?_
  refine Go_iload_n 1 rfl rfl dX8_changed_4 ?_
  refine Go_callVI (q := vwCl[3]) (fX3_isChoice hC _) cwX8_180 imX3_isChoice rfl rfl ⟨Nat.le_of_ble_eq_true rfl, Nat.le_of_ble_eq_true rfl⟩ sh_90 rfl (Nat.le_of_ble_eq_true rfl) sh_rf dX8_changed_5 ?_
  refine Go_if_ne dX8_changed_8 rfl (fun h8 => ?_) (fun h8 => ?_)
  · skip
    replace h8 := bI_n.mp h8
    exact absurd h8 hu
  · skip
    replace h8 := bI_0.mp h8
    refine Go_iconst (by unfold in32; omega) dX8_changed_11 ?_
    exact Go_ret rfl dX8_changed_12
set_option maxHeartbeats 4000000 in
set_option maxRecDepth 100000 in
theorem pX8_changed_st {D : va_G} {ca : Nat → ClassId} {M : gMem} {nv np : Nat} (hC : CS M nv np) (c : Nat) (hc : c < 2 ^ np) (h : ¬ msB (M 90 2) (M 90 3) (M 1 2) (c : Int) = true) : Fn D ca mX8_changed [gR 0, gI (c : Int)] SH M [gI (-2)] SH (M) := by
  refine Fn_of okX8_changed (Nat.le_of_ble_eq_true rfl) (Or.inr (Or.inl ⟨_, rfl, rfl⟩)) (Nat.le_refl _) (Nat.le_refl _) ?_
  refine Go_ls2 (ls' := [(0, gR 0), (1, gI _)]) rfl ?_
  have hv12 := hC.2.2.1
  have hn10 := hC.2.2.2.2
  have hpw := p10 hn10
  have hu : u32 (c : Int) (np : Int) = 0 := (u32z (by unfold in32; omega) (by omega)).mpr ⟨by omega, by omega⟩
  refine Go_aload_n 0 rfl rfl dX8_changed_0 ?_
  refine Go_getR (c' := 90) faX8_43 sh_0 (pt_0_4 (M := M) hC.1) dX8_changed_1 ?_
  refine Go_iload_n 1 rfl rfl dX8_changed_4 ?_
  refine Go_callVI (q := vwCl[3]) (fX3_isChoice hC _) cwX8_180 imX3_isChoice rfl rfl ⟨Nat.le_of_ble_eq_true rfl, Nat.le_of_ble_eq_true rfl⟩ sh_90 rfl (Nat.le_of_ble_eq_true rfl) sh_rf dX8_changed_5 ?_
  refine Go_if_ne dX8_changed_8 rfl (fun h8 => ?_) (fun h8 => ?_)
  · skip
    replace h8 := bI_n.mp h8
    refine Go_aload_n 0 rfl rfl dX8_changed_13 ?_
    refine Go_getR (c' := 90) faX8_43 sh_0 (pt_0_4 (M := M) hC.1) dX8_changed_14 ?_
    refine Go_iload_n 1 rfl rfl dX8_changed_17 ?_
    refine Go_callVI (q := vwCl[3]) (fX3_mayStand hC (s := M 90 2) rfl (b := M 90 3) rfl (n := M 1 2) rfl _) cwX8_183 imX3_mayStand rfl rfl ⟨Nat.le_of_ble_eq_true rfl, Nat.le_of_ble_eq_true rfl⟩ sh_90 rfl (Nat.le_of_ble_eq_true rfl) sh_rf dX8_changed_18 ?_
    refine Go_if_ne dX8_changed_21 rfl (fun h21 => ?_) (fun h21 => ?_)
    · skip
      replace h21 := bI_n.mp h21
      exact absurd h21 h
    · skip
      replace h21 := bI_0.mp h21
      refine Go_bipush ⟨by decide, by unfold in32; omega⟩ dX8_changed_24 ?_
      exact Go_ret rfl dX8_changed_26
  · skip
    replace h8 := bI_0.mp h8
    exact absurd hu h8
set_option maxHeartbeats 4000000 in
set_option maxRecDepth 100000 in
theorem pX8_changed {D : va_G} {ca : Nat → ClassId} {M : gMem} {nv np : Nat} (hC : CS M nv np) (c : Nat) (hc : c < 2 ^ np) (h : msB (M 90 2) (M 90 3) (M 1 2) (c : Int) = true) : Fn D ca mX8_changed [gR 0, gI (c : Int)] SH M [gI ((cgP M nv np c).1 : Int)] SH (gSet M 94 (cgP M nv np c).2) := by
  refine Fn_of okX8_changed (Nat.le_of_ble_eq_true rfl) (Or.inr (Or.inl ⟨_, rfl, rfl⟩)) (Nat.le_refl _) (Nat.le_refl _) ?_
  refine Go_ls2 (ls' := [(0, gR 0), (1, gI _)]) rfl ?_
  have hv12 := hC.2.2.1
  have hn10 := hC.2.2.2.2
  have hpw := p10 hn10
  have hu : u32 (c : Int) (np : Int) = 0 := (u32z (by unfold in32; omega) (by omega)).mpr ⟨by omega, by omega⟩
  refine Go_aload_n 0 rfl rfl dX8_changed_0 ?_
  refine Go_getR (c' := 90) faX8_43 sh_0 (pt_0_4 (M := M) hC.1) dX8_changed_1 ?_
  refine Go_iload_n 1 rfl rfl dX8_changed_4 ?_
  refine Go_callVI (q := vwCl[3]) (fX3_isChoice hC _) cwX8_180 imX3_isChoice rfl rfl ⟨Nat.le_of_ble_eq_true rfl, Nat.le_of_ble_eq_true rfl⟩ sh_90 rfl (Nat.le_of_ble_eq_true rfl) sh_rf dX8_changed_5 ?_
  refine Go_if_ne dX8_changed_8 rfl (fun h8 => ?_) (fun h8 => ?_)
  · skip
    replace h8 := bI_n.mp h8
    refine Go_aload_n 0 rfl rfl dX8_changed_13 ?_
    refine Go_getR (c' := 90) faX8_43 sh_0 (pt_0_4 (M := M) hC.1) dX8_changed_14 ?_
    refine Go_iload_n 1 rfl rfl dX8_changed_17 ?_
    refine Go_callVI (q := vwCl[3]) (fX3_mayStand hC (s := M 90 2) rfl (b := M 90 3) rfl (n := M 1 2) rfl _) cwX8_183 imX3_mayStand rfl rfl ⟨Nat.le_of_ble_eq_true rfl, Nat.le_of_ble_eq_true rfl⟩ sh_90 rfl (Nat.le_of_ble_eq_true rfl) sh_rf dX8_changed_18 ?_
    refine Go_if_ne dX8_changed_21 rfl (fun h21 => ?_) (fun h21 => ?_)
    · skip
      replace h21 := bI_n.mp h21
      refine Go_aload_n 0 rfl rfl dX8_changed_27 ?_
      refine Go_getR (c' := 94) faX8_59 sh_0 (pt_0_6 (M := M) hC.1) dX8_changed_28 ?_
      refine Go_iload_n 1 rfl rfl dX8_changed_31 ?_
      refine Go_callVI (q := vwCl[0]) (fX0_improve hC c (by omega)) cwX8_261 imX0_improve rfl rfl ⟨Nat.le_of_ble_eq_true rfl, Nat.le_of_ble_eq_true rfl⟩ sh_94 rfl (Nat.le_of_ble_eq_true rfl) sh_rf dX8_changed_32 ?_
      exact Go_ret rfl dX8_changed_35
    · skip
      replace h21 := bI_0.mp h21
      exact absurd h h21
  · skip
    replace h8 := bI_0.mp h8
    exact absurd hu h8
set_option maxHeartbeats 4000000 in
set_option maxRecDepth 100000 in
theorem pX8_moves {D : va_G} {ca : Nat → ClassId} {M : gMem} {nv np : Nat} (hC : CS M nv np) : Fn D ca mX8_moves [gR 0] SH M [gI (M 94 1)] SH (M) := by
  refine Fn_of okX8_moves (Nat.le_of_ble_eq_true rfl) (Or.inr (Or.inl ⟨_, rfl, rfl⟩)) (Nat.le_refl _) (Nat.le_refl _) ?_
  refine Go_ls2 (ls' := [(0, gR 0)]) rfl ?_
  have hv12 := hC.2.2.1
  have hn10 := hC.2.2.2.2
  refine Go_aload_n 0 rfl rfl dX8_moves_0 ?_
  refine Go_getR (c' := 94) faX8_59 sh_0 (pt_0_6 (M := M) hC.1) dX8_moves_1 ?_
  refine Go_getI faX8_264 sh_94 dX8_moves_4 ?_
  exact Go_ret rfl dX8_moves_7
set_option maxHeartbeats 4000000 in
set_option maxRecDepth 100000 in
theorem pX8_price_bad {D : va_G} {ca : Nat → ClassId} {M : gMem} {nv np : Nat} (hC : CS M nv np) (v n : Int) (h : ¬ ((0 ≤ v ∧ v ≤ (nv : Int) - 1) ∧ 0 ≤ n ∧ n ≤ 100000000)) : Fn D ca mX8_price [gR 0, gI v, gI n] SH M [gI (-1)] SH (M) := by
  refine Fn_of okX8_price (Nat.le_of_ble_eq_true rfl) (Or.inr (Or.inl ⟨_, rfl, rfl⟩)) (Nat.le_refl _) (Nat.le_refl _) ?_
  refine Go_ls2 (ls' := [(0, gR 0), (1, gI _), (2, gI _)]) rfl ?_
  have hv12 := hC.2.2.1
  have hn10 := hC.2.2.2.2
  refine Go_aload_n 0 rfl rfl dX8_price_0 ?_
  refine Go_getR (c' := 1) faX8_14 sh_0 (pt_0_0 (M := M) hC.1) dX8_price_1 ?_
  refine Go_iload_n 1 rfl rfl dX8_price_4 ?_
  refine Go_i2l dX8_price_5 ?_
  refine Go_callVI (q := vwCl[6]) (fX6_hasVillage hC _) cwX8_97 imX6_hasVillage rfl rfl ⟨Nat.le_of_ble_eq_true rfl, Nat.le_of_ble_eq_true rfl⟩ sh_1 rfl (Nat.le_of_ble_eq_true rfl) sh_rf dX8_price_6 ?_
  refine Go_if_eq dX8_price_9 rfl (fun h9 => ?_) (fun h9 => ?_)
  · skip
    replace h9 := bI_0.mp h9
    refine Go_iconst (by unfold in32; omega) dX8_price_24 ?_
    exact Go_ret rfl dX8_price_25
  · skip
    replace h9 := bI_n.mp h9
    refine Go_iload_n 2 rfl rfl dX8_price_12 ?_
    refine Go_i2l dX8_price_13 ?_
    refine Go_lconst (v := 0) ⟨rfl, by unfold in64; omega⟩ dX8_price_14 ?_
    refine Go_ldc2 klX8_267 (by unfold in64; omega) dX8_price_15 ?_
    refine Go_callSI (fX8_isWithin _ _ _) cwX8_79 smX8_isWithin ⟨Nat.le_of_ble_eq_true rfl, Nat.le_of_ble_eq_true rfl⟩ rfl (Nat.le_of_ble_eq_true rfl) sh_rf dX8_price_18 ?_
    refine Go_if_ne dX8_price_21 rfl (fun h21 => ?_) (fun h21 => ?_)
    · skip
      replace h21 := bI_n.mp h21
      exact absurd ⟨h9, h21⟩ h
    · skip
      replace h21 := bI_0.mp h21
      refine Go_iconst (by unfold in32; omega) dX8_price_24 ?_
      exact Go_ret rfl dX8_price_25
set_option maxHeartbeats 4000000 in
set_option maxRecDepth 100000 in
theorem pX8_price {D : va_G} {ca : Nat → ClassId} {M : gMem} {nv np : Nat} (hC : CS M nv np) (v : Nat) (hv : v < nv) (n : Int) (h : 0 ≤ n ∧ n ≤ 100000000) : Fn D ca mX8_price [gR 0, gI (v : Int), gI n] SH M [gI 1] SH (gSet M 96 (gUp (M 96) v n)) := by
  refine Fn_of okX8_price (Nat.le_of_ble_eq_true rfl) (Or.inr (Or.inl ⟨_, rfl, rfl⟩)) (Nat.le_refl _) (Nat.le_refl _) ?_
  refine Go_ls2 (ls' := [(0, gR 0), (1, gI _), (2, gI _)]) rfl ?_
  have hv12 := hC.2.2.1
  have hn10 := hC.2.2.2.2
  refine Go_aload_n 0 rfl rfl dX8_price_0 ?_
  refine Go_getR (c' := 1) faX8_14 sh_0 (pt_0_0 (M := M) hC.1) dX8_price_1 ?_
  refine Go_iload_n 1 rfl rfl dX8_price_4 ?_
  refine Go_i2l dX8_price_5 ?_
  refine Go_callVI (q := vwCl[6]) (fX6_hasVillage hC _) cwX8_97 imX6_hasVillage rfl rfl ⟨Nat.le_of_ble_eq_true rfl, Nat.le_of_ble_eq_true rfl⟩ sh_1 rfl (Nat.le_of_ble_eq_true rfl) sh_rf dX8_price_6 ?_
  refine Go_if_eq dX8_price_9 rfl (fun h9 => ?_) (fun h9 => ?_)
  · skip
    replace h9 := bI_0.mp h9
    exfalso; omega
  · skip
    replace h9 := bI_n.mp h9
    refine Go_iload_n 2 rfl rfl dX8_price_12 ?_
    refine Go_i2l dX8_price_13 ?_
    refine Go_lconst (v := 0) ⟨rfl, by unfold in64; omega⟩ dX8_price_14 ?_
    refine Go_ldc2 klX8_267 (by unfold in64; omega) dX8_price_15 ?_
    refine Go_callSI (fX8_isWithin _ _ _) cwX8_79 smX8_isWithin ⟨Nat.le_of_ble_eq_true rfl, Nat.le_of_ble_eq_true rfl⟩ rfl (Nat.le_of_ble_eq_true rfl) sh_rf dX8_price_18 ?_
    refine Go_if_ne dX8_price_21 rfl (fun h21 => ?_) (fun h21 => ?_)
    · skip
      replace h21 := bI_n.mp h21
      refine Go_aload_n 0 rfl rfl dX8_price_26 ?_
      refine Go_getR (c' := 95) faX8_68 sh_0 (pt_0_7 (M := M) hC.1) dX8_price_27 ?_
      refine Go_getR (c' := 96) faX8_269 sh_95 (pt_95_2 (M := M) hC.1) dX8_price_30 ?_
      refine Go_iload_n 1 rfl rfl dX8_price_33 ?_
      refine Go_iload_n 2 rfl rfl dX8_price_34 ?_
      refine Go_i2l dX8_price_35 ?_
      refine Go_lastore v sh_96 rfl (by omega) dX8_price_36 ?_
      refine Go_iconst (by unfold in32; omega) dX8_price_37 ?_
      exact Go_ret rfl dX8_price_38
    · skip
      replace h21 := bI_0.mp h21
      exact absurd h h21
set_option maxHeartbeats 4000000 in
set_option maxRecDepth 100000 in
theorem pX8_priced_bad {D : va_G} {ca : Nat → ClassId} {M : gMem} {nv np : Nat} (hC : CS M nv np) (v : Int) (h : ¬ (0 ≤ v ∧ v ≤ (nv : Int) - 1)) : Fn D ca mX8_priced [gR 0, gI v] SH M [gJ 0] SH (M) := by
  refine Fn_of okX8_priced (Nat.le_of_ble_eq_true rfl) (Or.inr (Or.inr (Or.inr ⟨_, rfl, rfl⟩))) (Nat.le_refl _) (Nat.le_refl _) ?_
  refine Go_ls2 (ls' := [(0, gR 0), (1, gI _)]) rfl ?_
  have hv12 := hC.2.2.1
  have hn10 := hC.2.2.2.2
  refine Go_aload_n 0 rfl rfl dX8_priced_0 ?_
  refine Go_getR (c' := 1) faX8_14 sh_0 (pt_0_0 (M := M) hC.1) dX8_priced_1 ?_
  refine Go_iload_n 1 rfl rfl dX8_priced_4 ?_
  refine Go_i2l dX8_priced_5 ?_
  refine Go_callVI (q := vwCl[6]) (fX6_hasVillage hC _) cwX8_97 imX6_hasVillage rfl rfl ⟨Nat.le_of_ble_eq_true rfl, Nat.le_of_ble_eq_true rfl⟩ sh_1 rfl (Nat.le_of_ble_eq_true rfl) sh_rf dX8_priced_6 ?_
  refine Go_if_eq dX8_priced_9 rfl (fun h9 => ?_) (fun h9 => ?_)
  · skip
    replace h9 := bI_0.mp h9
    refine Go_lconst (v := 0) ⟨rfl, by unfold in64; omega⟩ dX8_priced_24 ?_
    exact Go_ret rfl dX8_priced_25
  · skip
    replace h9 := bI_n.mp h9
    exact absurd h9 h
set_option maxHeartbeats 4000000 in
set_option maxRecDepth 100000 in
theorem pX8_priced {D : va_G} {ca : Nat → ClassId} {M : gMem} {nv np : Nat} (hC : CS M nv np) (v : Nat) (hv : v < nv) : Fn D ca mX8_priced [gR 0, gI (v : Int)] SH M [gJ (M 96 v)] SH (M) := by
  refine Fn_of okX8_priced (Nat.le_of_ble_eq_true rfl) (Or.inr (Or.inr (Or.inr ⟨_, rfl, rfl⟩))) (Nat.le_refl _) (Nat.le_refl _) ?_
  refine Go_ls2 (ls' := [(0, gR 0), (1, gI _)]) rfl ?_
  have hv12 := hC.2.2.1
  have hn10 := hC.2.2.2.2
  refine Go_aload_n 0 rfl rfl dX8_priced_0 ?_
  refine Go_getR (c' := 1) faX8_14 sh_0 (pt_0_0 (M := M) hC.1) dX8_priced_1 ?_
  refine Go_iload_n 1 rfl rfl dX8_priced_4 ?_
  refine Go_i2l dX8_priced_5 ?_
  refine Go_callVI (q := vwCl[6]) (fX6_hasVillage hC _) cwX8_97 imX6_hasVillage rfl rfl ⟨Nat.le_of_ble_eq_true rfl, Nat.le_of_ble_eq_true rfl⟩ sh_1 rfl (Nat.le_of_ble_eq_true rfl) sh_rf dX8_priced_6 ?_
  refine Go_if_eq dX8_priced_9 rfl (fun h9 => ?_) (fun h9 => ?_)
  · skip
    replace h9 := bI_0.mp h9
    exfalso; omega
  · skip
    replace h9 := bI_n.mp h9
    refine Go_aload_n 0 rfl rfl dX8_priced_12 ?_
    refine Go_getR (c' := 95) faX8_68 sh_0 (pt_0_7 (M := M) hC.1) dX8_priced_13 ?_
    refine Go_getR (c' := 96) faX8_269 sh_95 (pt_95_2 (M := M) hC.1) dX8_priced_16 ?_
    refine Go_iload_n 1 rfl rfl dX8_priced_19 ?_
    refine Go_laload v sh_96 rfl (by omega) dX8_priced_20 ?_
    refine Go_goto dX8_priced_21 rfl ?_
    exact Go_ret rfl dX8_priced_25
set_option maxHeartbeats 4000000 in
set_option maxRecDepth 100000 in
theorem pX8_gives_bad {D : va_G} {ca : Nat → ClassId} {M : gMem} {nv np : Nat} (hC : CS M nv np) (p v : Int) (h : ¬ ((0 ≤ p ∧ p ≤ (np : Int) - 1) ∧ (0 ≤ v ∧ v ≤ (nv : Int) - 1))) : Fn D ca mX8_gives [gR 0, gI p, gI v] SH M [gJ (-1)] SH (M) := by
  refine Fn_of okX8_gives (Nat.le_of_ble_eq_true rfl) (Or.inr (Or.inr (Or.inr ⟨_, rfl, rfl⟩))) (Nat.le_refl _) (Nat.le_refl _) ?_
  refine Go_ls2 (ls' := [(0, gR 0), (1, gI _), (2, gI _)]) rfl ?_
  have hv12 := hC.2.2.1
  have hn10 := hC.2.2.2.2
  refine Go_aload_n 0 rfl rfl dX8_gives_0 ?_
  refine Go_getR (c' := 1) faX8_14 sh_0 (pt_0_0 (M := M) hC.1) dX8_gives_1 ?_
  refine Go_iload_n 1 rfl rfl dX8_gives_4 ?_
  refine Go_callVI (q := vwCl[6]) (fX6_hasPlace hC _) cwX8_127 imX6_hasPlace rfl rfl ⟨Nat.le_of_ble_eq_true rfl, Nat.le_of_ble_eq_true rfl⟩ sh_1 rfl (Nat.le_of_ble_eq_true rfl) sh_rf dX8_gives_5 ?_
  refine Go_if_eq dX8_gives_8 rfl (fun h8 => ?_) (fun h8 => ?_)
  · skip
    replace h8 := bI_0.mp h8
    refine Go_ldc2 klX8_186 (by unfold in64; omega) dX8_gives_23 ?_
    exact Go_ret rfl dX8_gives_26
  · skip
    replace h8 := bI_n.mp h8
    refine Go_aload_n 0 rfl rfl dX8_gives_11 ?_
    refine Go_getR (c' := 1) faX8_14 sh_0 (pt_0_0 (M := M) hC.1) dX8_gives_12 ?_
    refine Go_iload_n 2 rfl rfl dX8_gives_15 ?_
    refine Go_i2l dX8_gives_16 ?_
    refine Go_callVI (q := vwCl[6]) (fX6_hasVillage hC _) cwX8_97 imX6_hasVillage rfl rfl ⟨Nat.le_of_ble_eq_true rfl, Nat.le_of_ble_eq_true rfl⟩ sh_1 rfl (Nat.le_of_ble_eq_true rfl) sh_rf dX8_gives_17 ?_
    refine Go_if_ne dX8_gives_20 rfl (fun h20 => ?_) (fun h20 => ?_)
    · skip
      replace h20 := bI_n.mp h20
      exact absurd ⟨h8, h20⟩ h
    · skip
      replace h20 := bI_0.mp h20
      refine Go_ldc2 klX8_186 (by unfold in64; omega) dX8_gives_23 ?_
      exact Go_ret rfl dX8_gives_26
set_option maxHeartbeats 4000000 in
set_option maxRecDepth 100000 in
theorem pX8_gives {D : va_G} {ca : Nat → ClassId} {M : gMem} {nv np : Nat} (hC : CS M nv np) (p v : Nat) (hp : p < np) (hv : v < nv) : Fn D ca mX8_gives [gR 0, gI (p : Int), gI (v : Int)] SH M [gJ (giS (M 2) (M 91) (M 96) p v)] SH (M) := by
  refine Fn_of okX8_gives (Nat.le_of_ble_eq_true rfl) (Or.inr (Or.inr (Or.inr ⟨_, rfl, rfl⟩))) (Nat.le_refl _) (Nat.le_refl _) ?_
  refine Go_ls2 (ls' := [(0, gR 0), (1, gI _), (2, gI _)]) rfl ?_
  have hv12 := hC.2.2.1
  have hn10 := hC.2.2.2.2
  refine Go_aload_n 0 rfl rfl dX8_gives_0 ?_
  refine Go_getR (c' := 1) faX8_14 sh_0 (pt_0_0 (M := M) hC.1) dX8_gives_1 ?_
  refine Go_iload_n 1 rfl rfl dX8_gives_4 ?_
  refine Go_callVI (q := vwCl[6]) (fX6_hasPlace hC _) cwX8_127 imX6_hasPlace rfl rfl ⟨Nat.le_of_ble_eq_true rfl, Nat.le_of_ble_eq_true rfl⟩ sh_1 rfl (Nat.le_of_ble_eq_true rfl) sh_rf dX8_gives_5 ?_
  refine Go_if_eq dX8_gives_8 rfl (fun h8 => ?_) (fun h8 => ?_)
  · skip
    replace h8 := bI_0.mp h8
    exfalso; omega
  · skip
    replace h8 := bI_n.mp h8
    refine Go_aload_n 0 rfl rfl dX8_gives_11 ?_
    refine Go_getR (c' := 1) faX8_14 sh_0 (pt_0_0 (M := M) hC.1) dX8_gives_12 ?_
    refine Go_iload_n 2 rfl rfl dX8_gives_15 ?_
    refine Go_i2l dX8_gives_16 ?_
    refine Go_callVI (q := vwCl[6]) (fX6_hasVillage hC _) cwX8_97 imX6_hasVillage rfl rfl ⟨Nat.le_of_ble_eq_true rfl, Nat.le_of_ble_eq_true rfl⟩ sh_1 rfl (Nat.le_of_ble_eq_true rfl) sh_rf dX8_gives_17 ?_
    refine Go_if_ne dX8_gives_20 rfl (fun h20 => ?_) (fun h20 => ?_)
    · skip
      replace h20 := bI_n.mp h20
      refine Go_aload_n 0 rfl rfl dX8_gives_27 ?_
      refine Go_getR (c' := 95) faX8_68 sh_0 (pt_0_7 (M := M) hC.1) dX8_gives_28 ?_
      refine Go_iload_n 1 rfl rfl dX8_gives_31 ?_
      refine Go_iload_n 2 rfl rfl dX8_gives_32 ?_
      refine Go_callVJ (q := vwCl[4]) (fX4_giftOf hC p v (by omega) (by omega)) cwX8_272 imX4_giftOf rfl rfl ⟨Nat.le_of_ble_eq_true rfl, Nat.le_of_ble_eq_true rfl⟩ sh_95 rfl (Nat.le_of_ble_eq_true rfl) sh_rf dX8_gives_33 ?_
      exact Go_ret rfl dX8_gives_36
    · skip
      replace h20 := bI_0.mp h20
      exfalso; omega
set_option maxHeartbeats 4000000 in
set_option maxRecDepth 100000 in
theorem pX8_worth_bad {D : va_G} {ca : Nat → ClassId} {M : gMem} {nv np : Nat} (hC : CS M nv np) (p : Int) (h : ¬ (0 ≤ p ∧ p ≤ (np : Int) - 1)) : Fn D ca mX8_worth [gR 0, gI p] SH M [gJ 0] SH (M) := by
  refine Fn_of okX8_worth (Nat.le_of_ble_eq_true rfl) (Or.inr (Or.inr (Or.inr ⟨_, rfl, rfl⟩))) (Nat.le_refl _) (Nat.le_refl _) ?_
  refine Go_ls2 (ls' := [(0, gR 0), (1, gI _)]) rfl ?_
  have hv12 := hC.2.2.1
  have hn10 := hC.2.2.2.2
  refine Go_aload_n 0 rfl rfl dX8_worth_0 ?_
  refine Go_getR (c' := 1) faX8_14 sh_0 (pt_0_0 (M := M) hC.1) dX8_worth_1 ?_
  refine Go_iload_n 1 rfl rfl dX8_worth_4 ?_
  refine Go_callVI (q := vwCl[6]) (fX6_hasPlace hC _) cwX8_127 imX6_hasPlace rfl rfl ⟨Nat.le_of_ble_eq_true rfl, Nat.le_of_ble_eq_true rfl⟩ sh_1 rfl (Nat.le_of_ble_eq_true rfl) sh_rf dX8_worth_5 ?_
  refine Go_if_eq dX8_worth_8 rfl (fun h8 => ?_) (fun h8 => ?_)
  · skip
    replace h8 := bI_0.mp h8
    refine Go_lconst (v := 0) ⟨rfl, by unfold in64; omega⟩ dX8_worth_22 ?_
    exact Go_ret rfl dX8_worth_23
  · skip
    replace h8 := bI_n.mp h8
    exact absurd h8 h
set_option maxHeartbeats 4000000 in
set_option maxRecDepth 100000 in
theorem pX8_worth {D : va_G} {ca : Nat → ClassId} {M : gMem} {nv np : Nat} (hC : CS M nv np) (p : Nat) (hp : p < np) : Fn D ca mX8_worth [gR 0, gI (p : Int)] SH M [gJ (woS (M 2) (M 5) (M 6) (M 91) (M 96) nv p)] SH (M) := by
  refine Fn_of okX8_worth (Nat.le_of_ble_eq_true rfl) (Or.inr (Or.inr (Or.inr ⟨_, rfl, rfl⟩))) (Nat.le_refl _) (Nat.le_refl _) ?_
  refine Go_ls2 (ls' := [(0, gR 0), (1, gI _)]) rfl ?_
  have hv12 := hC.2.2.1
  have hn10 := hC.2.2.2.2
  refine Go_aload_n 0 rfl rfl dX8_worth_0 ?_
  refine Go_getR (c' := 1) faX8_14 sh_0 (pt_0_0 (M := M) hC.1) dX8_worth_1 ?_
  refine Go_iload_n 1 rfl rfl dX8_worth_4 ?_
  refine Go_callVI (q := vwCl[6]) (fX6_hasPlace hC _) cwX8_127 imX6_hasPlace rfl rfl ⟨Nat.le_of_ble_eq_true rfl, Nat.le_of_ble_eq_true rfl⟩ sh_1 rfl (Nat.le_of_ble_eq_true rfl) sh_rf dX8_worth_5 ?_
  refine Go_if_eq dX8_worth_8 rfl (fun h8 => ?_) (fun h8 => ?_)
  · skip
    replace h8 := bI_0.mp h8
    exfalso; omega
  · skip
    replace h8 := bI_n.mp h8
    refine Go_aload_n 0 rfl rfl dX8_worth_11 ?_
    refine Go_getR (c' := 95) faX8_68 sh_0 (pt_0_7 (M := M) hC.1) dX8_worth_12 ?_
    refine Go_iload_n 1 rfl rfl dX8_worth_15 ?_
    refine Go_callVJ (q := vwCl[4]) (fX4_worthOf hC p (by omega)) cwX8_276 imX4_worthOf rfl rfl ⟨Nat.le_of_ble_eq_true rfl, Nat.le_of_ble_eq_true rfl⟩ sh_95 rfl (Nat.le_of_ble_eq_true rfl) sh_rf dX8_worth_16 ?_
    refine Go_goto dX8_worth_19 rfl ?_
    exact Go_ret rfl dX8_worth_23
def ftY (M : gMem) (nv np : Nat) : Nat → Int := auO (fun p => woS (M 2) (M 5) (M 6) (M 91) (M 96) nv p) (M 97) np
def ftT (M : gMem) (nv np : Nat) : Int := ftS (fun c => msB (M 90 2) (M 90 3) (M 1 2) (c : Int)) (ftY M nv np) (2 ^ np)
def ftM (M : gMem) (nv np : Nat) : gMem := gSet (gSet M 97 (ftY M nv np)) 95 (gUp (M 95) 4 (ftT M nv np))
theorem CS_ft {M : gMem} {nv np : Nat} (hC : CS M nv np) : CS (ftM M nv np) nv np := CS_pu (CS_row hC rfl) (fun j hj => gUp_n (by omega))
theorem ftT_nat {M : gMem} {nv np : Nat} (h : np ≤ 10) : ftT M nv np = -4 ∨ ∃ n : Nat, n < 1024 ∧ ftT M nv np = (n : Int) := by
  have hpw := p10 h
  rcases ftS_nat (fun c => msB (M 90 2) (M 90 3) (M 1 2) (c : Int)) (ftY M nv np) (2 ^ np) with h1 | ⟨n, h1, h2⟩
  · exact Or.inl h1
  · exact Or.inr ⟨n, by omega, h2⟩
set_option maxHeartbeats 4000000 in
set_option maxRecDepth 100000 in
theorem pX8_bound {D : va_G} {ca : Nat → ClassId} {M : gMem} {nv np : Nat} (hC : CS M nv np) : Fn D ca mX8_bound [gR 0] SH M [gJ (if ftT M nv np = -4 then -4 else btF (ftT M nv np) (ftY M nv np) (M 2) (M 96) nv)] SH (ftM M nv np) := by
  refine Fn_of okX8_bound (Nat.le_of_ble_eq_true rfl) (Or.inr (Or.inr (Or.inr ⟨_, rfl, rfl⟩))) (Nat.le_refl _) (Nat.le_refl _) ?_
  refine Go_ls2 (ls' := [(0, gR 0)]) rfl ?_
  have hv12 := hC.2.2.1
  have hn10 := hC.2.2.2.2
  refine Go_aload_n 0 rfl rfl dX8_bound_0 ?_
  refine Go_getR (c' := 95) faX8_68 sh_0 (pt_0_7 (M := M) hC.1) dX8_bound_1 ?_
  refine Go_callV0 (q := vwCl[4]) (fX4_findTop hC) cwX8_279 imX4_findTop rfl rfl ⟨Nat.le_of_ble_eq_true rfl, Nat.le_of_ble_eq_true rfl⟩ sh_95 rfl (Nat.le_of_ble_eq_true rfl) sh_rf dX8_bound_4 ?_
  refine Go_M (M2 := ftM M nv np) rfl ?_
  refine Go_aload_n 0 rfl rfl dX8_bound_7 ?_
  refine Go_getR (c' := 95) faX8_68 sh_0 (pt_0_7 (M := M) hC.1) dX8_bound_8 ?_
  refine Go_getIv (v := ftT M nv np) rfl faX8_282 sh_95 dX8_bound_11 ?_
  refine Go_bipush ⟨by decide, by unfold in32; omega⟩ dX8_bound_14 ?_
  refine Go_icmp_ne dX8_bound_16 rfl (fun h16 => ?_) (fun h16 => ?_)
  · skip
    refine Go_aload_n 0 rfl rfl dX8_bound_25 ?_
    refine Go_getR (c' := 95) faX8_68 sh_0 (pt_0_7 (M := M) hC.1) dX8_bound_26 ?_
    refine Go_callVJ (q := vwCl[4]) (fX4_boundOfTop (CS_ft hC) (ftT M nv np) rfl (ftT_nat hn10)) cwX8_285 imX4_boundOfTop rfl rfl ⟨Nat.le_of_ble_eq_true rfl, Nat.le_of_ble_eq_true rfl⟩ sh_95 rfl (Nat.le_of_ble_eq_true rfl) sh_rf dX8_bound_29 ?_
    exact Go_ret (by first | (rw [if_neg (by exact h16)]; rfl) | rw [if_pos (by exact h16)]) dX8_bound_32
  · skip
    refine Go_ldc2 klX8_194 (by unfold in64; omega) dX8_bound_19 ?_
    refine Go_goto dX8_bound_22 rfl ?_
    exact Go_ret (by first | (rw [if_neg (by exact h16)]; rfl) | rw [if_pos (by exact h16)]) dX8_bound_32
set_option maxHeartbeats 4000000 in
set_option maxRecDepth 100000 in
theorem pX8_climb_bad {D : va_G} {ca : Nat → ClassId} {M : gMem} {nv np : Nat} (hC : CS M nv np) (n z : Int) (h : ¬ ((0 ≤ n ∧ n ≤ 100) ∧ 1 ≤ z ∧ z ≤ 100000)) : Fn D ca mX8_climb [gR 0, gI n, gI z] SH M [gI (-1)] SH (M) := by
  refine Fn_of okX8_climb (Nat.le_of_ble_eq_true rfl) (Or.inr (Or.inl ⟨_, rfl, rfl⟩)) (Nat.le_refl _) (Nat.le_refl _) ?_
  refine Go_ls2 (ls' := [(0, gR 0), (1, gI _), (2, gI _)]) rfl ?_
  have hv12 := hC.2.2.1
  have hn10 := hC.2.2.2.2
  refine Go_iload_n 1 rfl rfl dX8_climb_0 ?_
  refine Go_i2l dX8_climb_1 ?_
  refine Go_lconst (v := 0) ⟨rfl, by unfold in64; omega⟩ dX8_climb_2 ?_
  refine Go_ldc2 klX8_289 (by unfold in64; omega) dX8_climb_3 ?_
  refine Go_callSI (fX8_isWithin _ _ _) cwX8_79 smX8_isWithin ⟨Nat.le_of_ble_eq_true rfl, Nat.le_of_ble_eq_true rfl⟩ rfl (Nat.le_of_ble_eq_true rfl) sh_rf dX8_climb_6 ?_
  refine Go_if_eq dX8_climb_9 rfl (fun h9 => ?_) (fun h9 => ?_)
  · skip
    replace h9 := bI_0.mp h9
    refine Go_iconst (by unfold in32; omega) dX8_climb_24 ?_
    exact Go_ret rfl dX8_climb_25
  · skip
    replace h9 := bI_n.mp h9
    refine Go_iload_n 2 rfl rfl dX8_climb_12 ?_
    refine Go_i2l dX8_climb_13 ?_
    refine Go_lconst (v := 1) ⟨rfl, by unfold in64; omega⟩ dX8_climb_14 ?_
    refine Go_ldc2 klX8_118 (by unfold in64; omega) dX8_climb_15 ?_
    refine Go_callSI (fX8_isWithin _ _ _) cwX8_79 smX8_isWithin ⟨Nat.le_of_ble_eq_true rfl, Nat.le_of_ble_eq_true rfl⟩ rfl (Nat.le_of_ble_eq_true rfl) sh_rf dX8_climb_18 ?_
    refine Go_if_ne dX8_climb_21 rfl (fun h21 => ?_) (fun h21 => ?_)
    · skip
      replace h21 := bI_n.mp h21
      exact absurd ⟨h9, h21⟩ h
    · skip
      replace h21 := bI_0.mp h21
      refine Go_iconst (by unfold in32; omega) dX8_climb_24 ?_
      exact Go_ret rfl dX8_climb_25
set_option maxHeartbeats 4000000 in
set_option maxRecDepth 100000 in
theorem pX8_climb_st {D : va_G} {ca : Nat → ClassId} {M : gMem} {nv np : Nat} (hC : CS M nv np) (n : Nat) (hn : n ≤ 100) (z : Int) (hz : 1 ≤ z ∧ z ≤ 100000) (h : ftT M nv np = -4) : Fn D ca mX8_climb [gR 0, gI (n : Int), gI z] SH M [gI (-2)] SH (ftM M nv np) := by
  refine Fn_of okX8_climb (Nat.le_of_ble_eq_true rfl) (Or.inr (Or.inl ⟨_, rfl, rfl⟩)) (Nat.le_refl _) (Nat.le_refl _) ?_
  refine Go_ls2 (ls' := [(0, gR 0), (1, gI _), (2, gI _)]) rfl ?_
  have hv12 := hC.2.2.1
  have hn10 := hC.2.2.2.2
  refine Go_iload_n 1 rfl rfl dX8_climb_0 ?_
  refine Go_i2l dX8_climb_1 ?_
  refine Go_lconst (v := 0) ⟨rfl, by unfold in64; omega⟩ dX8_climb_2 ?_
  refine Go_ldc2 klX8_289 (by unfold in64; omega) dX8_climb_3 ?_
  refine Go_callSI (fX8_isWithin _ _ _) cwX8_79 smX8_isWithin ⟨Nat.le_of_ble_eq_true rfl, Nat.le_of_ble_eq_true rfl⟩ rfl (Nat.le_of_ble_eq_true rfl) sh_rf dX8_climb_6 ?_
  refine Go_if_eq dX8_climb_9 rfl (fun h9 => ?_) (fun h9 => ?_)
  · skip
    replace h9 := bI_0.mp h9
    exfalso; omega
  · skip
    replace h9 := bI_n.mp h9
    refine Go_iload_n 2 rfl rfl dX8_climb_12 ?_
    refine Go_i2l dX8_climb_13 ?_
    refine Go_lconst (v := 1) ⟨rfl, by unfold in64; omega⟩ dX8_climb_14 ?_
    refine Go_ldc2 klX8_118 (by unfold in64; omega) dX8_climb_15 ?_
    refine Go_callSI (fX8_isWithin _ _ _) cwX8_79 smX8_isWithin ⟨Nat.le_of_ble_eq_true rfl, Nat.le_of_ble_eq_true rfl⟩ rfl (Nat.le_of_ble_eq_true rfl) sh_rf dX8_climb_18 ?_
    refine Go_if_ne dX8_climb_21 rfl (fun h21 => ?_) (fun h21 => ?_)
    · skip
      replace h21 := bI_n.mp h21
      refine Go_aload_n 0 rfl rfl dX8_climb_26 ?_
      refine Go_getR (c' := 95) faX8_68 sh_0 (pt_0_7 (M := M) hC.1) dX8_climb_27 ?_
      refine Go_callV0 (q := vwCl[4]) (fX4_findTop hC) cwX8_279 imX4_findTop rfl rfl ⟨Nat.le_of_ble_eq_true rfl, Nat.le_of_ble_eq_true rfl⟩ sh_95 rfl (Nat.le_of_ble_eq_true rfl) sh_rf dX8_climb_30 ?_
      refine Go_M (M2 := ftM M nv np) rfl ?_
      refine Go_aload_n 0 rfl rfl dX8_climb_33 ?_
      refine Go_getR (c' := 95) faX8_68 sh_0 (pt_0_7 (M := M) hC.1) dX8_climb_34 ?_
      refine Go_getIv (v := ftT M nv np) rfl faX8_282 sh_95 dX8_climb_37 ?_
      refine Go_bipush ⟨by decide, by unfold in32; omega⟩ dX8_climb_40 ?_
      refine Go_icmp_ne dX8_climb_42 rfl (fun h42 => ?_) (fun h42 => ?_)
      · skip
        exact absurd h h42
      · skip
        refine Go_bipush ⟨by decide, by unfold in32; omega⟩ dX8_climb_45 ?_
        exact Go_ret rfl dX8_climb_47
    · skip
      replace h21 := bI_0.mp h21
      exact absurd hz h21
def cmZ (M : gMem) (nv np t : Nat) (z : Int) (n : Nat) : cbT := cbS (fun c => msB (M 90 2) (M 90 3) (M 1 2) (c : Int)) (M 2) (M 5) (M 6) (M 91) nv np z (0, M 96, ftY M nv np, t, btF (t : Int) (ftY M nv np) (M 2) (M 96) nv) n
def cmM (M : gMem) (nv np t : Nat) (z : Int) (n : Nat) : gMem := cbM (ftM M nv np) (cmZ M nv np t z n).2.1 (cmZ M nv np t z n).2.2.1 ((cmZ M nv np t z n).2.2.2.1 : Int) (cmZ M nv np t z n).2.2.2.2
set_option maxHeartbeats 4000000 in
set_option maxRecDepth 100000 in
theorem pX8_climb {D : va_G} {ca : Nat → ClassId} {M : gMem} {nv np : Nat} (hC : CS M nv np) (n : Nat) (hn : n ≤ 100) (z : Int) (hz : 1 ≤ z ∧ z ≤ 100000) (t : Nat) (ht : ftT M nv np = (t : Int)) (ht2 : t < 1024) (hok : ∃ c : Nat, c < 2 ^ np ∧ msB (M 90 2) (M 90 3) (M 1 2) (c : Int) = true) : Fn D ca mX8_climb [gR 0, gI (n : Int), gI z] SH M [gI (cmZ M nv np t z n).1] SH (cmM M nv np t z n) := by
  refine Fn_of okX8_climb (Nat.le_of_ble_eq_true rfl) (Or.inr (Or.inl ⟨_, rfl, rfl⟩)) (Nat.le_refl _) (Nat.le_refl _) ?_
  refine Go_ls2 (ls' := [(0, gR 0), (1, gI _), (2, gI _)]) rfl ?_
  have hv12 := hC.2.2.1
  have hn10 := hC.2.2.2.2
  refine Go_iload_n 1 rfl rfl dX8_climb_0 ?_
  refine Go_i2l dX8_climb_1 ?_
  refine Go_lconst (v := 0) ⟨rfl, by unfold in64; omega⟩ dX8_climb_2 ?_
  refine Go_ldc2 klX8_289 (by unfold in64; omega) dX8_climb_3 ?_
  refine Go_callSI (fX8_isWithin _ _ _) cwX8_79 smX8_isWithin ⟨Nat.le_of_ble_eq_true rfl, Nat.le_of_ble_eq_true rfl⟩ rfl (Nat.le_of_ble_eq_true rfl) sh_rf dX8_climb_6 ?_
  refine Go_if_eq dX8_climb_9 rfl (fun h9 => ?_) (fun h9 => ?_)
  · skip
    replace h9 := bI_0.mp h9
    exfalso; omega
  · skip
    replace h9 := bI_n.mp h9
    refine Go_iload_n 2 rfl rfl dX8_climb_12 ?_
    refine Go_i2l dX8_climb_13 ?_
    refine Go_lconst (v := 1) ⟨rfl, by unfold in64; omega⟩ dX8_climb_14 ?_
    refine Go_ldc2 klX8_118 (by unfold in64; omega) dX8_climb_15 ?_
    refine Go_callSI (fX8_isWithin _ _ _) cwX8_79 smX8_isWithin ⟨Nat.le_of_ble_eq_true rfl, Nat.le_of_ble_eq_true rfl⟩ rfl (Nat.le_of_ble_eq_true rfl) sh_rf dX8_climb_18 ?_
    refine Go_if_ne dX8_climb_21 rfl (fun h21 => ?_) (fun h21 => ?_)
    · skip
      replace h21 := bI_n.mp h21
      refine Go_aload_n 0 rfl rfl dX8_climb_26 ?_
      refine Go_getR (c' := 95) faX8_68 sh_0 (pt_0_7 (M := M) hC.1) dX8_climb_27 ?_
      refine Go_callV0 (q := vwCl[4]) (fX4_findTop hC) cwX8_279 imX4_findTop rfl rfl ⟨Nat.le_of_ble_eq_true rfl, Nat.le_of_ble_eq_true rfl⟩ sh_95 rfl (Nat.le_of_ble_eq_true rfl) sh_rf dX8_climb_30 ?_
      refine Go_M (M2 := ftM M nv np) rfl ?_
      refine Go_aload_n 0 rfl rfl dX8_climb_33 ?_
      refine Go_getR (c' := 95) faX8_68 sh_0 (pt_0_7 (M := M) hC.1) dX8_climb_34 ?_
      refine Go_getIv (v := ftT M nv np) rfl faX8_282 sh_95 dX8_climb_37 ?_
      refine Go_bipush ⟨by decide, by unfold in32; omega⟩ dX8_climb_40 ?_
      refine Go_icmp_ne dX8_climb_42 rfl (fun h42 => ?_) (fun h42 => ?_)
      · skip
        refine Go_aload_n 0 rfl rfl dX8_climb_48 ?_
        refine Go_getR (c' := 95) faX8_68 sh_0 (pt_0_7 (M := M) hC.1) dX8_climb_49 ?_
        refine Go_iload_n 1 rfl rfl dX8_climb_52 ?_
        refine Go_iload_n 2 rfl rfl dX8_climb_53 ?_
        refine Go_callVI (q := vwCl[4]) (fX4_climbFromTop (CS_ft hC) t ht ht2 hok n hn z) cwX8_291 imX4_climbFromTop rfl rfl ⟨Nat.le_of_ble_eq_true rfl, Nat.le_of_ble_eq_true rfl⟩ sh_95 rfl (Nat.le_of_ble_eq_true rfl) sh_rf dX8_climb_54 ?_
        refine Go_topI (v := (cmZ M nv np t z n).1) rfl ?_
        refine Go_M (M2 := cmM M nv np t z n) rfl ?_
        exact Go_ret rfl dX8_climb_57
      · skip
        exact absurd h42 (by rw [ht]; omega)
    · skip
      replace h21 := bI_0.mp h21
      exact absurd hz h21
set_option maxHeartbeats 4000000 in
set_option maxRecDepth 100000 in
theorem pX8_highest {D : va_G} {ca : Nat → ClassId} {M : gMem} {nv np : Nat} (hC : CS M nv np) : Fn D ca mX8_highest [gR 0] SH M [gJ (M 95 5)] SH (M) := by
  refine Fn_of okX8_highest (Nat.le_of_ble_eq_true rfl) (Or.inr (Or.inr (Or.inr ⟨_, rfl, rfl⟩))) (Nat.le_refl _) (Nat.le_refl _) ?_
  refine Go_ls2 (ls' := [(0, gR 0)]) rfl ?_
  have hv12 := hC.2.2.1
  have hn10 := hC.2.2.2.2
  refine Go_aload_n 0 rfl rfl dX8_highest_0 ?_
  refine Go_getR (c' := 95) faX8_68 sh_0 (pt_0_7 (M := M) hC.1) dX8_highest_1 ?_
  refine Go_getJ faX8_294 sh_95 dX8_highest_4 ?_
  exact Go_ret rfl dX8_highest_7
set_option maxHeartbeats 4000000 in
set_option maxRecDepth 100000 in
theorem pX8_count_0 {D : va_G} {ca : Nat → ClassId} {M : gMem} {nv np : Nat} (hC : CS M nv np) : Fn D ca mX8_count [gR 0, gI 0] SH M [gI ((nv : Int))] SH (M) := by
  refine Fn_of okX8_count (Nat.le_of_ble_eq_true rfl) (Or.inr (Or.inl ⟨_, rfl, rfl⟩)) (Nat.le_refl _) (Nat.le_refl _) ?_
  refine Go_ls2 (ls' := [(0, gR 0), (1, gI _)]) rfl ?_
  have hv12 := hC.2.2.1
  have hn10 := hC.2.2.2.2
  refine Go_iload_n 1 rfl rfl dX8_count_0 ?_
  · refine Go_tableIn (off := 39) (tgt := 40) dX8_count_1 (by decide) (by decide) (by rfl) rfl ?_
    refine Go_aload_n 0 rfl rfl dX8_count_40 ?_
    refine Go_getR (c' := 1) faX8_14 sh_0 (pt_0_0 (M := M) hC.1) dX8_count_41 ?_
    refine Go_getIv (v := (nv : Int)) hC.2.1 faX8_83 sh_1 dX8_count_44 ?_
    exact Go_ret rfl dX8_count_47
set_option maxHeartbeats 4000000 in
set_option maxRecDepth 100000 in
theorem pX8_count_1 {D : va_G} {ca : Nat → ClassId} {M : gMem} {nv np : Nat} (hC : CS M nv np) : Fn D ca mX8_count [gR 0, gI 1] SH M [gI ((np : Int))] SH (M) := by
  refine Fn_of okX8_count (Nat.le_of_ble_eq_true rfl) (Or.inr (Or.inl ⟨_, rfl, rfl⟩)) (Nat.le_refl _) (Nat.le_refl _) ?_
  refine Go_ls2 (ls' := [(0, gR 0), (1, gI _)]) rfl ?_
  have hv12 := hC.2.2.1
  have hn10 := hC.2.2.2.2
  refine Go_iload_n 1 rfl rfl dX8_count_0 ?_
  · refine Go_tableIn (off := 47) (tgt := 48) dX8_count_1 (by decide) (by decide) (by rfl) rfl ?_
    refine Go_aload_n 0 rfl rfl dX8_count_48 ?_
    refine Go_getR (c' := 1) faX8_14 sh_0 (pt_0_0 (M := M) hC.1) dX8_count_49 ?_
    refine Go_getIv (v := (np : Int)) hC.2.2.2.1 faX8_120 sh_1 dX8_count_52 ?_
    exact Go_ret rfl dX8_count_55
set_option maxHeartbeats 4000000 in
set_option maxRecDepth 100000 in
theorem pX8_count_2 {D : va_G} {ca : Nat → ClassId} {M : gMem} {nv np : Nat} (hC : CS M nv np) : Fn D ca mX8_count [gR 0, gI 2] SH M [gI (rdO (M 3) nv)] SH (M) := by
  refine Fn_of okX8_count (Nat.le_of_ble_eq_true rfl) (Or.inr (Or.inl ⟨_, rfl, rfl⟩)) (Nat.le_refl _) (Nat.le_refl _) ?_
  refine Go_ls2 (ls' := [(0, gR 0), (1, gI _)]) rfl ?_
  have hv12 := hC.2.2.1
  have hn10 := hC.2.2.2.2
  refine Go_iload_n 1 rfl rfl dX8_count_0 ?_
  · refine Go_tableIn (off := 55) (tgt := 56) dX8_count_1 (by decide) (by decide) (by rfl) rfl ?_
    refine Go_aload_n 0 rfl rfl dX8_count_56 ?_
    refine Go_getR (c' := 1) faX8_14 sh_0 (pt_0_0 (M := M) hC.1) dX8_count_57 ?_
    refine Go_callVI (q := vwCl[6]) (fX6_roads hC) cwX8_310 imX6_roads rfl rfl ⟨Nat.le_of_ble_eq_true rfl, Nat.le_of_ble_eq_true rfl⟩ sh_1 rfl (Nat.le_of_ble_eq_true rfl) sh_rf dX8_count_60 ?_
    exact Go_ret rfl dX8_count_63
set_option maxHeartbeats 4000000 in
set_option maxRecDepth 100000 in
theorem pX8_count_3 {D : va_G} {ca : Nat → ClassId} {M : gMem} {nv np : Nat} (hC : CS M nv np) : Fn D ca mX8_count [gR 0, gI 3] SH M [gI (M 1 2)] SH (M) := by
  refine Fn_of okX8_count (Nat.le_of_ble_eq_true rfl) (Or.inr (Or.inl ⟨_, rfl, rfl⟩)) (Nat.le_refl _) (Nat.le_refl _) ?_
  refine Go_ls2 (ls' := [(0, gR 0), (1, gI _)]) rfl ?_
  have hv12 := hC.2.2.1
  have hn10 := hC.2.2.2.2
  refine Go_iload_n 1 rfl rfl dX8_count_0 ?_
  · refine Go_tableIn (off := 63) (tgt := 64) dX8_count_1 (by decide) (by decide) (by rfl) rfl ?_
    refine Go_aload_n 0 rfl rfl dX8_count_64 ?_
    refine Go_getR (c' := 1) faX8_14 sh_0 (pt_0_0 (M := M) hC.1) dX8_count_65 ?_
    refine Go_getI faX8_141 sh_1 dX8_count_68 ?_
    exact Go_ret rfl dX8_count_71
set_option maxHeartbeats 4000000 in
set_option maxRecDepth 100000 in
theorem pX8_count_4 {D : va_G} {ca : Nat → ClassId} {M : gMem} {nv np : Nat} (hC : CS M nv np) (hB : ∀ j, j < 12 → 0 ≤ M 2 j ∧ M 2 j ≤ 1000) : Fn D ca mX8_count [gR 0, gI 4] SH M [gI (sumN (M 2) nv)] SH (M) := by
  refine Fn_of okX8_count (Nat.le_of_ble_eq_true rfl) (Or.inr (Or.inl ⟨_, rfl, rfl⟩)) (Nat.le_refl _) (Nat.le_refl _) ?_
  refine Go_ls2 (ls' := [(0, gR 0), (1, gI _)]) rfl ?_
  have hv12 := hC.2.2.1
  have hn10 := hC.2.2.2.2
  refine Go_iload_n 1 rfl rfl dX8_count_0 ?_
  · refine Go_tableIn (off := 71) (tgt := 72) dX8_count_1 (by decide) (by decide) (by rfl) rfl ?_
    refine Go_aload_n 0 rfl rfl dX8_count_72 ?_
    refine Go_getR (c' := 1) faX8_14 sh_0 (pt_0_0 (M := M) hC.1) dX8_count_73 ?_
    refine Go_callVI (q := vwCl[6]) (fX6_allLoaves hC (by assumption)) cwX8_313 imX6_allLoaves rfl rfl ⟨Nat.le_of_ble_eq_true rfl, Nat.le_of_ble_eq_true rfl⟩ sh_1 rfl (Nat.le_of_ble_eq_true rfl) sh_rf dX8_count_76 ?_
    exact Go_ret rfl dX8_count_79
set_option maxHeartbeats 4000000 in
set_option maxRecDepth 100000 in
theorem pX8_count_5 {D : va_G} {ca : Nat → ClassId} {M : gMem} {nv np : Nat} (hC : CS M nv np) : Fn D ca mX8_count [gR 0, gI 5] SH M [gI (bcR (M 90 2))] SH (M) := by
  refine Fn_of okX8_count (Nat.le_of_ble_eq_true rfl) (Or.inr (Or.inl ⟨_, rfl, rfl⟩)) (Nat.le_refl _) (Nat.le_refl _) ?_
  refine Go_ls2 (ls' := [(0, gR 0), (1, gI _)]) rfl ?_
  have hv12 := hC.2.2.1
  have hn10 := hC.2.2.2.2
  refine Go_iload_n 1 rfl rfl dX8_count_0 ?_
  · refine Go_tableIn (off := 79) (tgt := 80) dX8_count_1 (by decide) (by decide) (by rfl) rfl ?_
    refine Go_aload_n 0 rfl rfl dX8_count_80 ?_
    refine Go_getR (c' := 90) faX8_43 sh_0 (pt_0_4 (M := M) hC.1) dX8_count_81 ?_
    refine Go_getI faX8_254 sh_90 dX8_count_84 ?_
    refine Go_callSI (fJ6_bitCount _) cwX8_316 smJ6_bitCount_0f7a4 ⟨Nat.le_of_ble_eq_true rfl, Nat.le_of_ble_eq_true rfl⟩ rfl (Nat.le_of_ble_eq_true rfl) sh_rf dX8_count_87 ?_
    exact Go_ret rfl dX8_count_90
set_option maxHeartbeats 4000000 in
set_option maxRecDepth 100000 in
theorem pX8_count_bad {D : va_G} {ca : Nat → ClassId} {M : gMem} {nv np : Nat} (hC : CS M nv np) (w : Int) (h : ¬ (0 ≤ w ∧ w ≤ 5)) : Fn D ca mX8_count [gR 0, gI w] SH M [gI (-1)] SH (M) := by
  refine Fn_of okX8_count (Nat.le_of_ble_eq_true rfl) (Or.inr (Or.inl ⟨_, rfl, rfl⟩)) (Nat.le_refl _) (Nat.le_refl _) ?_
  refine Go_ls2 (ls' := [(0, gR 0), (1, gI _)]) rfl ?_
  have hv12 := hC.2.2.1
  have hn10 := hC.2.2.2.2
  refine Go_iload_n 1 rfl rfl dX8_count_0 ?_
  · refine Go_tableOut (tgt := 91) dX8_count_1 (by omega) rfl ?_
    refine Go_iconst (by unfold in32; omega) dX8_count_91 ?_
    exact Go_ret rfl dX8_count_92
set_option maxHeartbeats 4000000 in
set_option maxRecDepth 100000 in
theorem pX8_map_bad {D : va_G} {ca : Nat → ClassId} {M : gMem} {nv np : Nat} (hC : CS M nv np) (k z n : Int) (h : ¬ ((0 ≤ k ∧ k ≤ 3) ∧ (0 ≤ z ∧ z ≤ 2) ∧ n ≤ 60)) : Fn D ca mX8_map [gR 0, gI k, gI z, gI n] SH M [gI (-1)] SH (M) := by
  refine Fn_of okX8_map (Nat.le_of_ble_eq_true rfl) (Or.inr (Or.inl ⟨_, rfl, rfl⟩)) (Nat.le_refl _) (Nat.le_refl _) ?_
  refine Go_ls2 (ls' := [(0, gR 0), (1, gI _), (2, gI _), (3, gI _)]) rfl ?_
  have hv12 := hC.2.2.1
  have hn10 := hC.2.2.2.2
  refine Go_iload_n 1 rfl rfl dX8_map_0 ?_
  refine Go_callSI (fX8_isMap _) cwX8_144 smX8_isMap ⟨Nat.le_of_ble_eq_true rfl, Nat.le_of_ble_eq_true rfl⟩ rfl (Nat.le_of_ble_eq_true rfl) sh_rf dX8_map_1 ?_
  refine Go_if_eq dX8_map_4 rfl (fun h4 => ?_) (fun h4 => ?_)
  · skip
    replace h4 := bI_0.mp h4
    refine Go_iconst (by unfold in32; omega) dX8_map_20 ?_
    exact Go_ret rfl dX8_map_21
  · skip
    replace h4 := bI_n.mp h4
    refine Go_iload_n 2 rfl rfl dX8_map_7 ?_
    refine Go_callSI (fX8_isLane _) cwX8_147 smX8_isLane ⟨Nat.le_of_ble_eq_true rfl, Nat.le_of_ble_eq_true rfl⟩ rfl (Nat.le_of_ble_eq_true rfl) sh_rf dX8_map_8 ?_
    refine Go_if_eq dX8_map_11 rfl (fun h11 => ?_) (fun h11 => ?_)
    · skip
      replace h11 := bI_0.mp h11
      refine Go_iconst (by unfold in32; omega) dX8_map_20 ?_
      exact Go_ret rfl dX8_map_21
    · skip
      replace h11 := bI_n.mp h11
      refine Go_iload_n 3 rfl rfl dX8_map_14 ?_
      refine Go_bipush ⟨by decide, by unfold in32; omega⟩ dX8_map_15 ?_
      refine Go_icmp_le dX8_map_17 rfl (fun h17 => ?_) (fun h17 => ?_)
      · skip
        exact absurd ⟨h4, h11, h17⟩ h
      · skip
        refine Go_iconst (by unfold in32; omega) dX8_map_20 ?_
        exact Go_ret rfl dX8_map_21
set_option maxHeartbeats 4000000 in
set_option maxRecDepth 100000 in
theorem pX8_map_neg {D : va_G} {ca : Nat → ClassId} {M : gMem} {nv np : Nat} (hC : CS M nv np) (k z n : Int) (h : (0 ≤ k ∧ k ≤ 3) ∧ (0 ≤ z ∧ z ≤ 2) ∧ n < 0) : Fn D ca mX8_map [gR 0, gI k, gI z, gI n] SH M [gI (-14)] SH (M) := by
  refine Fn_of okX8_map (Nat.le_of_ble_eq_true rfl) (Or.inr (Or.inl ⟨_, rfl, rfl⟩)) (Nat.le_refl _) (Nat.le_refl _) ?_
  refine Go_ls2 (ls' := [(0, gR 0), (1, gI _), (2, gI _), (3, gI _)]) rfl ?_
  have hv12 := hC.2.2.1
  have hn10 := hC.2.2.2.2
  refine Go_iload_n 1 rfl rfl dX8_map_0 ?_
  refine Go_callSI (fX8_isMap _) cwX8_144 smX8_isMap ⟨Nat.le_of_ble_eq_true rfl, Nat.le_of_ble_eq_true rfl⟩ rfl (Nat.le_of_ble_eq_true rfl) sh_rf dX8_map_1 ?_
  refine Go_if_eq dX8_map_4 rfl (fun h4 => ?_) (fun h4 => ?_)
  · skip
    replace h4 := bI_0.mp h4
    exact absurd h.1 h4
  · skip
    replace h4 := bI_n.mp h4
    refine Go_iload_n 2 rfl rfl dX8_map_7 ?_
    refine Go_callSI (fX8_isLane _) cwX8_147 smX8_isLane ⟨Nat.le_of_ble_eq_true rfl, Nat.le_of_ble_eq_true rfl⟩ rfl (Nat.le_of_ble_eq_true rfl) sh_rf dX8_map_8 ?_
    refine Go_if_eq dX8_map_11 rfl (fun h11 => ?_) (fun h11 => ?_)
    · skip
      replace h11 := bI_0.mp h11
      exact absurd h.2.1 h11
    · skip
      replace h11 := bI_n.mp h11
      refine Go_iload_n 3 rfl rfl dX8_map_14 ?_
      refine Go_bipush ⟨by decide, by unfold in32; omega⟩ dX8_map_15 ?_
      refine Go_icmp_le dX8_map_17 rfl (fun h17 => ?_) (fun h17 => ?_)
      · skip
        refine Go_iload_n 3 rfl rfl dX8_map_22 ?_
        refine Go_if_ge dX8_map_23 rfl (fun h23 => ?_) (fun h23 => ?_)
        · skip
          exfalso; omega
        · skip
          refine Go_bipush ⟨by decide, by unfold in32; omega⟩ dX8_map_26 ?_
          exact Go_ret rfl dX8_map_28
      · skip
        exfalso; omega
set_option maxHeartbeats 4000000 in
set_option maxRecDepth 100000 in
theorem pX8_map {D : va_G} {ca : Nat → ClassId} {M : gMem} {nv np : Nat} (hC : CS M nv np) (k : Nat) (hk : k < 4) (z n : Int) (hz : (0 ≤ z ∧ z ≤ 2)) (hn : 0 ≤ n ∧ n ≤ 60) : Fn D ca mX8_map [gR 0, gI (k : Int), gI z, gI n] SH M [gI 1] SH (rnM M (98 + 2 * k) z n) := by
  refine Fn_of okX8_map (Nat.le_of_ble_eq_true rfl) (Or.inr (Or.inl ⟨_, rfl, rfl⟩)) (Nat.le_refl _) (Nat.le_refl _) ?_
  refine Go_ls2 (ls' := [(0, gR 0), (1, gI _), (2, gI _), (3, gI _)]) rfl ?_
  have hv12 := hC.2.2.1
  have hn10 := hC.2.2.2.2
  refine Go_iload_n 1 rfl rfl dX8_map_0 ?_
  refine Go_callSI (fX8_isMap _) cwX8_144 smX8_isMap ⟨Nat.le_of_ble_eq_true rfl, Nat.le_of_ble_eq_true rfl⟩ rfl (Nat.le_of_ble_eq_true rfl) sh_rf dX8_map_1 ?_
  refine Go_if_eq dX8_map_4 rfl (fun h4 => ?_) (fun h4 => ?_)
  · skip
    replace h4 := bI_0.mp h4
    exfalso; omega
  · skip
    replace h4 := bI_n.mp h4
    refine Go_iload_n 2 rfl rfl dX8_map_7 ?_
    refine Go_callSI (fX8_isLane _) cwX8_147 smX8_isLane ⟨Nat.le_of_ble_eq_true rfl, Nat.le_of_ble_eq_true rfl⟩ rfl (Nat.le_of_ble_eq_true rfl) sh_rf dX8_map_8 ?_
    refine Go_if_eq dX8_map_11 rfl (fun h11 => ?_) (fun h11 => ?_)
    · skip
      replace h11 := bI_0.mp h11
      exact absurd hz h11
    · skip
      replace h11 := bI_n.mp h11
      refine Go_iload_n 3 rfl rfl dX8_map_14 ?_
      refine Go_bipush ⟨by decide, by unfold in32; omega⟩ dX8_map_15 ?_
      refine Go_icmp_le dX8_map_17 rfl (fun h17 => ?_) (fun h17 => ?_)
      · skip
        refine Go_iload_n 3 rfl rfl dX8_map_22 ?_
        refine Go_if_ge dX8_map_23 rfl (fun h23 => ?_) (fun h23 => ?_)
        · skip
          refine Go_aload_n 0 rfl rfl dX8_map_29 ?_
          refine Go_getR (c' := 87) faX8_27 sh_0 (pt_0_2 (M := M) hC.1) dX8_map_30 ?_
          refine Go_iload_n 1 rfl rfl dX8_map_33 ?_
          refine Go_aaload (c' := (98 + 2 * k)) (C := "BreadOvens$Chart") k sh_87 rfl (pt_ch (M := M) hC.1 hk) rfl (by omega) dX8_map_34 ?_
          refine Go_iload_n 2 rfl rfl dX8_map_35 ?_
          refine Go_iload_n 3 rfl rfl dX8_map_36 ?_
          refine Go_callV0 (q := vwCl[1]) (rnP hC.1 k hk _ _) cwX8_150 imX1_renew rfl rfl ⟨Nat.le_of_ble_eq_true rfl, Nat.le_of_ble_eq_true rfl⟩ (sh_ch hk) rfl (Nat.le_of_ble_eq_true rfl) sh_rf dX8_map_37 ?_
          refine Go_iconst (by unfold in32; omega) dX8_map_40 ?_
          exact Go_ret rfl dX8_map_41
        · skip
          exfalso; omega
      · skip
        exfalso; omega
set_option maxHeartbeats 4000000 in
set_option maxRecDepth 100000 in
theorem pX8_lay_bad {D : va_G} {ca : Nat → ClassId} {M : gMem} {nv np : Nat} (hC : CS M nv np) (k i v : Int) (h : ¬ (0 ≤ k ∧ k ≤ 3)) : Fn D ca mX8_lay [gR 0, gI k, gI i, gJ v] SH M [gI (-1)] SH (M) := by
  refine Fn_of okX8_lay (Nat.le_of_ble_eq_true rfl) (Or.inr (Or.inl ⟨_, rfl, rfl⟩)) (Nat.le_refl _) (Nat.le_refl _) ?_
  refine Go_ls2 (ls' := [(0, gR 0), (1, gI _), (2, gI _), (3, gJ _)]) rfl ?_
  have hv12 := hC.2.2.1
  have hn10 := hC.2.2.2.2
  refine Go_iload_n 1 rfl rfl dX8_lay_0 ?_
  refine Go_callSI (fX8_isMap _) cwX8_144 smX8_isMap ⟨Nat.le_of_ble_eq_true rfl, Nat.le_of_ble_eq_true rfl⟩ rfl (Nat.le_of_ble_eq_true rfl) sh_rf dX8_lay_1 ?_
  refine Go_if_ne dX8_lay_4 rfl (fun h4 => ?_) (fun h4 => ?_)
  · skip
    replace h4 := bI_n.mp h4
    exact absurd h4 h
  · skip
    replace h4 := bI_0.mp h4
    refine Go_iconst (by unfold in32; omega) dX8_lay_7 ?_
    exact Go_ret rfl dX8_lay_8
set_option maxHeartbeats 4000000 in
set_option maxRecDepth 100000 in
theorem pX8_lay_null {D : va_G} {ca : Nat → ClassId} {M : gMem} {nv np : Nat} (hC : CS M nv np) (k : Nat) (hk : k < 4) (i v : Int) (h : M (98 + 2 * k) 0 = -1) : Fn D ca mX8_lay [gR 0, gI (k : Int), gI i, gJ v] SH M [gI (-11)] SH (M) := by
  refine Fn_of okX8_lay (Nat.le_of_ble_eq_true rfl) (Or.inr (Or.inl ⟨_, rfl, rfl⟩)) (Nat.le_refl _) (Nat.le_refl _) ?_
  refine Go_ls2 (ls' := [(0, gR 0), (1, gI _), (2, gI _), (3, gJ _)]) rfl ?_
  have hv12 := hC.2.2.1
  have hn10 := hC.2.2.2.2
  refine Go_iload_n 1 rfl rfl dX8_lay_0 ?_
  refine Go_callSI (fX8_isMap _) cwX8_144 smX8_isMap ⟨Nat.le_of_ble_eq_true rfl, Nat.le_of_ble_eq_true rfl⟩ rfl (Nat.le_of_ble_eq_true rfl) sh_rf dX8_lay_1 ?_
  refine Go_if_ne dX8_lay_4 rfl (fun h4 => ?_) (fun h4 => ?_)
  · skip
    replace h4 := bI_n.mp h4
    refine Go_aload_n 0 rfl rfl dX8_lay_9 ?_
    refine Go_getR (c' := 87) faX8_27 sh_0 (pt_0_2 (M := M) hC.1) dX8_lay_10 ?_
    refine Go_iload_n 1 rfl rfl dX8_lay_13 ?_
    refine Go_aaload (c' := (98 + 2 * k)) (C := "BreadOvens$Chart") k sh_87 rfl (pt_ch (M := M) hC.1 hk) rfl (by omega) dX8_lay_14 ?_
    refine Go_getIv (v := M (98 + 2 * k) 0) rfl faX8_154 (sh_ch hk) dX8_lay_15 ?_
    refine Go_iconst (by unfold in32; omega) dX8_lay_18 ?_
    refine Go_icmp_ne dX8_lay_19 rfl (fun h19 => ?_) (fun h19 => ?_)
    · skip
      exact absurd h h19
    · skip
      refine Go_bipush ⟨by decide, by unfold in32; omega⟩ dX8_lay_22 ?_
      exact Go_ret rfl dX8_lay_24
  · skip
    replace h4 := bI_0.mp h4
    exfalso; omega
set_option maxHeartbeats 4000000 in
set_option maxRecDepth 100000 in
theorem pX8_lay_ix {D : va_G} {ca : Nat → ClassId} {M : gMem} {nv np : Nat} (hC : CS M nv np) (k : Nat) (hk : k < 4) (z : Nat) (hz : M (98 + 2 * k) 1 = (z : Int)) (hz2 : z ≤ 60) (i v : Int) (h : M (98 + 2 * k) 0 ≠ -1) (hi : ¬ (0 ≤ i ∧ i ≤ (z : Int) - 1)) : Fn D ca mX8_lay [gR 0, gI (k : Int), gI i, gJ v] SH M [gI (-12)] SH (M) := by
  refine Fn_of okX8_lay (Nat.le_of_ble_eq_true rfl) (Or.inr (Or.inl ⟨_, rfl, rfl⟩)) (Nat.le_refl _) (Nat.le_refl _) ?_
  refine Go_ls2 (ls' := [(0, gR 0), (1, gI _), (2, gI _), (3, gJ _)]) rfl ?_
  have hv12 := hC.2.2.1
  have hn10 := hC.2.2.2.2
  refine Go_iload_n 1 rfl rfl dX8_lay_0 ?_
  refine Go_callSI (fX8_isMap _) cwX8_144 smX8_isMap ⟨Nat.le_of_ble_eq_true rfl, Nat.le_of_ble_eq_true rfl⟩ rfl (Nat.le_of_ble_eq_true rfl) sh_rf dX8_lay_1 ?_
  refine Go_if_ne dX8_lay_4 rfl (fun h4 => ?_) (fun h4 => ?_)
  · skip
    replace h4 := bI_n.mp h4
    refine Go_aload_n 0 rfl rfl dX8_lay_9 ?_
    refine Go_getR (c' := 87) faX8_27 sh_0 (pt_0_2 (M := M) hC.1) dX8_lay_10 ?_
    refine Go_iload_n 1 rfl rfl dX8_lay_13 ?_
    refine Go_aaload (c' := (98 + 2 * k)) (C := "BreadOvens$Chart") k sh_87 rfl (pt_ch (M := M) hC.1 hk) rfl (by omega) dX8_lay_14 ?_
    refine Go_getIv (v := M (98 + 2 * k) 0) rfl faX8_154 (sh_ch hk) dX8_lay_15 ?_
    refine Go_iconst (by unfold in32; omega) dX8_lay_18 ?_
    refine Go_icmp_ne dX8_lay_19 rfl (fun h19 => ?_) (fun h19 => ?_)
    · skip
      refine Go_iload_n 2 rfl rfl dX8_lay_25 ?_
      refine Go_i2l dX8_lay_26 ?_
      refine Go_lconst (v := 0) ⟨rfl, by unfold in64; omega⟩ dX8_lay_27 ?_
      refine Go_aload_n 0 rfl rfl dX8_lay_28 ?_
      refine Go_getR (c' := 87) faX8_27 sh_0 (pt_0_2 (M := M) hC.1) dX8_lay_29 ?_
      refine Go_iload_n 1 rfl rfl dX8_lay_32 ?_
      refine Go_aaload (c' := (98 + 2 * k)) (C := "BreadOvens$Chart") k sh_87 rfl (pt_ch (M := M) hC.1 hk) rfl (by omega) dX8_lay_33 ?_
      refine Go_getIv (v := ((z : Nat) : Int)) hz faX8_157 (sh_ch hk) dX8_lay_34 ?_
      refine Go_iconst (by unfold in32; omega) dX8_lay_37 ?_
      refine Go_isubc (by omega) dX8_lay_38 ?_
      refine Go_i2l dX8_lay_39 ?_
      refine Go_callSI (fX8_isWithin _ _ _) cwX8_79 smX8_isWithin ⟨Nat.le_of_ble_eq_true rfl, Nat.le_of_ble_eq_true rfl⟩ rfl (Nat.le_of_ble_eq_true rfl) sh_rf dX8_lay_40 ?_
      refine Go_if_ne dX8_lay_43 rfl (fun h43 => ?_) (fun h43 => ?_)
      · skip
        replace h43 := bI_n.mp h43
        exact absurd h43 hi
      · skip
        replace h43 := bI_0.mp h43
        refine Go_bipush ⟨by decide, by unfold in32; omega⟩ dX8_lay_46 ?_
        exact Go_ret rfl dX8_lay_48
    · skip
      exact absurd h19 h
  · skip
    replace h4 := bI_0.mp h4
    exfalso; omega
set_option maxHeartbeats 4000000 in
set_option maxRecDepth 100000 in
theorem pX8_lay {D : va_G} {ca : Nat → ClassId} {M : gMem} {nv np : Nat} (hC : CS M nv np) (k : Nat) (hk : k < 4) (z : Nat) (hz : M (98 + 2 * k) 1 = (z : Int)) (hz2 : z ≤ 60) (i : Nat) (hi : i < z) (v : Int) (h : M (98 + 2 * k) 0 ≠ -1) : Fn D ca mX8_lay [gR 0, gI (k : Int), gI (i : Int), gJ v] SH M [gI 1] SH (wrM M (98 + 2 * k) i v) := by
  refine Fn_of okX8_lay (Nat.le_of_ble_eq_true rfl) (Or.inr (Or.inl ⟨_, rfl, rfl⟩)) (Nat.le_refl _) (Nat.le_refl _) ?_
  refine Go_ls2 (ls' := [(0, gR 0), (1, gI _), (2, gI _), (3, gJ _)]) rfl ?_
  have hv12 := hC.2.2.1
  have hn10 := hC.2.2.2.2
  refine Go_iload_n 1 rfl rfl dX8_lay_0 ?_
  refine Go_callSI (fX8_isMap _) cwX8_144 smX8_isMap ⟨Nat.le_of_ble_eq_true rfl, Nat.le_of_ble_eq_true rfl⟩ rfl (Nat.le_of_ble_eq_true rfl) sh_rf dX8_lay_1 ?_
  refine Go_if_ne dX8_lay_4 rfl (fun h4 => ?_) (fun h4 => ?_)
  · skip
    replace h4 := bI_n.mp h4
    refine Go_aload_n 0 rfl rfl dX8_lay_9 ?_
    refine Go_getR (c' := 87) faX8_27 sh_0 (pt_0_2 (M := M) hC.1) dX8_lay_10 ?_
    refine Go_iload_n 1 rfl rfl dX8_lay_13 ?_
    refine Go_aaload (c' := (98 + 2 * k)) (C := "BreadOvens$Chart") k sh_87 rfl (pt_ch (M := M) hC.1 hk) rfl (by omega) dX8_lay_14 ?_
    refine Go_getIv (v := M (98 + 2 * k) 0) rfl faX8_154 (sh_ch hk) dX8_lay_15 ?_
    refine Go_iconst (by unfold in32; omega) dX8_lay_18 ?_
    refine Go_icmp_ne dX8_lay_19 rfl (fun h19 => ?_) (fun h19 => ?_)
    · skip
      refine Go_iload_n 2 rfl rfl dX8_lay_25 ?_
      refine Go_i2l dX8_lay_26 ?_
      refine Go_lconst (v := 0) ⟨rfl, by unfold in64; omega⟩ dX8_lay_27 ?_
      refine Go_aload_n 0 rfl rfl dX8_lay_28 ?_
      refine Go_getR (c' := 87) faX8_27 sh_0 (pt_0_2 (M := M) hC.1) dX8_lay_29 ?_
      refine Go_iload_n 1 rfl rfl dX8_lay_32 ?_
      refine Go_aaload (c' := (98 + 2 * k)) (C := "BreadOvens$Chart") k sh_87 rfl (pt_ch (M := M) hC.1 hk) rfl (by omega) dX8_lay_33 ?_
      refine Go_getIv (v := ((z : Nat) : Int)) hz faX8_157 (sh_ch hk) dX8_lay_34 ?_
      refine Go_iconst (by unfold in32; omega) dX8_lay_37 ?_
      refine Go_isubc (by omega) dX8_lay_38 ?_
      refine Go_i2l dX8_lay_39 ?_
      refine Go_callSI (fX8_isWithin _ _ _) cwX8_79 smX8_isWithin ⟨Nat.le_of_ble_eq_true rfl, Nat.le_of_ble_eq_true rfl⟩ rfl (Nat.le_of_ble_eq_true rfl) sh_rf dX8_lay_40 ?_
      refine Go_if_ne dX8_lay_43 rfl (fun h43 => ?_) (fun h43 => ?_)
      · skip
        replace h43 := bI_n.mp h43
        refine Go_aload_n 0 rfl rfl dX8_lay_49 ?_
        refine Go_getR (c' := 87) faX8_27 sh_0 (pt_0_2 (M := M) hC.1) dX8_lay_50 ?_
        refine Go_iload_n 1 rfl rfl dX8_lay_53 ?_
        refine Go_aaload (c' := (98 + 2 * k)) (C := "BreadOvens$Chart") k sh_87 rfl (pt_ch (M := M) hC.1 hk) rfl (by omega) dX8_lay_54 ?_
        refine Go_iload_n 2 rfl rfl dX8_lay_55 ?_
        refine Go_lload_n 3 rfl rfl dX8_lay_56 ?_
        refine Go_callV0 (q := vwCl[1]) (wrP hC.1 k hk i (by omega) _) cwX8_160 imX1_write rfl rfl ⟨Nat.le_of_ble_eq_true rfl, Nat.le_of_ble_eq_true rfl⟩ (sh_ch hk) rfl (Nat.le_of_ble_eq_true rfl) sh_rf dX8_lay_57 ?_
        refine Go_iconst (by unfold in32; omega) dX8_lay_60 ?_
        exact Go_ret rfl dX8_lay_61
      · skip
        replace h43 := bI_0.mp h43
        exfalso; omega
    · skip
      exact absurd h19 h
  · skip
    replace h4 := bI_0.mp h4
    exfalso; omega
