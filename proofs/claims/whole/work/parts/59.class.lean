theorem sh_v : ∀ i, i < 11 → SH[10 + 7 * i]? = some (0, 6) ∧ SH[10 + 7 * i + 1]? = some (1, 12) ∧ SH[10 + 7 * i + 2]? = some (1, 144) ∧ SH[10 + 7 * i + 3]? = some (1, 10) ∧ SH[10 + 7 * i + 4]? = some (1, 10) ∧ SH[10 + 7 * i + 5]? = some (1, 10) ∧ SH[10 + 7 * i + 6]? = some (1, 10) := by decide +kernel
theorem sh_c : ∀ i, i < 4 → SH[98 + 2 * i]? = some (0, 1) ∧ SH[98 + 2 * i + 1]? = some (2, 60) := by decide +kernel
def dyM (M : gMem) : Nat → gMem
  | 0 => M
  | i + 1 => gSet (vnM (gSet (dyM M i) (10 + 7 * i) zr) (10 + 7 * i)) 9 (gUp ((vnM (gSet (dyM M i) (10 + 7 * i) zr) (10 + 7 * i)) 9) i (((10 + 7 * i : Nat) : Int) + 1))
theorem dy_cm {N : gMem} {j : Nat} {r : Nat → Int} (h : j < 9) : ∀ i, dyM (gSet N j r) i = gSet (dyM N i) j r
  | 0 => rfl
  | i + 1 => by
    simp only [dyM]
    rw [dy_cm h i, gSet_cm (show j ≠ 10 + 7 * i by omega), vnM_cm (show j < 10 + 7 * i by omega), gSet_n (show 9 ≠ j by omega), gSet_cm (show j ≠ 9 by omega)]
def cM (M : gMem) : Nat → gMem
  | 0 => M
  | i + 1 => gSet (x1M (gSet (cM M i) (98 + 2 * i) zr) (98 + 2 * i)) 87 (gUp ((x1M (gSet (cM M i) (98 + 2 * i) zr) (98 + 2 * i)) 87) i (((98 + 2 * i : Nat) : Int) + 1))
def x2M (M : gMem) : gMem := gSet (dyM (gSet M 9 zr) 11) 8 (gUp (gUp (gUp ((M 8)) 0 (((9 : Nat) : Int) + 1)) 1 (0)) 2 (0))
theorem x2M_cm {N : gMem} {i : Nat} {r : Nat → Int} (h : i < 8) : x2M (gSet N i r) = gSet (x2M N) i r := by
  unfold x2M
  rw [gSet_n (show 8 ≠ i by omega), gSet_cm (show i ≠ 9 by omega), dy_cm (by omega), gSet_cm (show i ≠ 8 by omega)]
set_option maxHeartbeats 4000000 in
set_option maxRecDepth 100000 in
theorem dyL {D : va_G} {ca : Nat → ClassId} {N : gMem} {r : Nat → Int} (hr : r 0 = ((9 : Nat) : Int) + 1) : ∀ (j i : Nat), i + j = 11 → Go D ca none (gRm mX2_init ((SH.take 87).length - (SH.take 9).length) (gSz (SH.take 87) - gSz (SH.take 9))) mX2_init 25 [(0, gR 8), (1, gI (i : Int))] [] (SH.take (10 + 7 * i)) (gSet (dyM N i) 8 r) [] (SH.take 87) (gSet (dyM N 11) 8 r) := by
  intro j
  induction j with
  | zero =>
    intro i hi
    have ei : i = 11 := by omega
    subst ei
    refine Go_iload_n 1 rfl rfl dX2_init_25 ?_
    refine Go_bipush ⟨by decide, by unfold in32; omega⟩ dX2_init_26 ?_
    refine Go_icmp_ge dX2_init_28 rfl (fun h28 => ?_) (fun h28 => ?_)
    · exact Go_ret rfl dX2_init_50
    · exact absurd h28 (by decide)
  | succ j ih =>
    intro i hi
    obtain ⟨h0, h1, h2, h3, h4, h5, h6⟩ := sh_v i (by omega)
    refine Go_iload_n 1 rfl rfl dX2_init_25 ?_
    refine Go_bipush ⟨by decide, by unfold in32; omega⟩ dX2_init_26 ?_
    refine Go_icmp_ge dX2_init_28 rfl (fun h28 => ?_) (fun h28 => ?_)
    · exfalso; omega
    refine Go_aload_n 0 rfl rfl dX2_init_31 ?_
    refine Go_getR (c' := 9) faX2_13 (tk_at sh_8 (by omega)) (by rw [gSet_s]; exact hr) dX2_init_32 ?_
    refine Go_iload_n 1 rfl rfl dX2_init_35 ?_
    refine Go_nO (c := 8) (k := 10 + 7 * i) ncX2_11 h0 (by omega) (by omega) (by omega) dX2_init_36 ?_
    refine Go_dupR dX2_init_39 ?_
    refine Go_callIN (iX6 h0 h1 h2 h3 h4 h5 h6 (by omega)) rfl cnX2_24 imX6_init ⟨Nat.le_of_ble_eq_true rfl, Nat.le_of_ble_eq_true rfl⟩ rfl (Nat.le_of_ble_eq_true rfl) (tk_sh (by omega) (by omega) (by omega)) dX2_init_40 ?_
    refine Go_M (M2 := gSet (vnM (gSet (dyM N i) (10 + 7 * i) zr) (10 + 7 * i)) 8 r) (vnM_cm (by omega)) ?_
    refine Go_aastoreS (c := 8) (i := 9) (t := 0) (b := 10 + 7 * i) (ci := 6) (q := vwCl[6]) i (by decide) (tk_at sh_9 (by omega)) rfl rfl (tk_at h0 (by omega)) rfl (by omega) dX2_init_43 ?_
    refine Go_iincn i 1 rfl rfl (by omega) 1 (ls' := [(1, gI _), (0, gR 8)]) rfl dX2_init_44 (by decide) rfl ?_
    refine Go_goto dX2_init_47 rfl ?_
    refine Go_pick [1, 0] (ls' := [(0, gR 8), (1, gI _)]) rfl ?_
    exact ih (i + 1) (by omega)
set_option maxHeartbeats 4000000 in
set_option maxRecDepth 100000 in
theorem iX2 {D : va_G} {ca : Nat → ClassId} {M : gMem} : Fn D ca mX2_init [gR 8] (SH.take 9) M [] (SH.take 87) (x2M M) := by
  refine Fn_of okX2_init (Nat.le_of_ble_eq_true rfl) (Or.inl ⟨rfl, rfl⟩) (tk_sh (k := 9) (k1 := 87) (K := 87) (by omega) (by omega) (by omega)).1 (gSz_tk (by omega)) ?_
  refine Go_ls2 (ls' := [(0, gR 8)]) rfl ?_
  refine Go_aload_n 0 rfl rfl dX2_init_0 ?_
  refine Go_oinit oiX2_3 ⟨Nat.le_of_ble_eq_true rfl, Nat.le_of_ble_eq_true rfl⟩ dX2_init_1 ?_
  refine Go_o 8 ?_
  refine Go_aload_n 0 rfl rfl dX2_init_4 ?_
  refine Go_bipush ⟨by decide, by unfold in32; omega⟩ dX2_init_5 ?_
  refine Go_nR (c := 8) (k := 9) (n := 11) (t := 0) (C := "BreadOvens$Valley") sh_9 rfl (by decide) (by decide) (by decide) (Or.inl ⟨rfl, rfl⟩) clX2_11 (by decide) dX2_init_7 ?_
  refine Go_putFS fpX2_13 rfl (tk_at sh_8 (by decide)) dX2_init_10 ?_
  refine Go_aload_n 0 rfl rfl dX2_init_13 ?_
  refine Go_iconst (by unfold in32; omega) dX2_init_14 ?_
  refine Go_putIS fpX2_17 (tk_at sh_8 (by decide)) dX2_init_15 ?_
  refine Go_aload_n 0 rfl rfl dX2_init_18 ?_
  refine Go_iconst (by unfold in32; omega) dX2_init_19 ?_
  refine Go_putIS fpX2_21 (tk_at sh_8 (by decide)) dX2_init_20 ?_
  refine Go_iconst (by unfold in32; omega) dX2_init_23 ?_
  refine Go_istore_n (ls' := [(1, gI _), (0, gR 8)]) rfl dX2_init_24 (by decide) rfl ?_
  refine Go_pick [1, 0] (ls' := [(0, gR 8), (1, gI _)]) rfl ?_
  exact dyL (N := gSet M 9 zr) rfl 11 0 (by omega)
def bnN (M : gMem) : gMem := (x4M (gSet (x0M (gSet (x5M (gSet (x3M (gSet (x7M (gSet (gSet (x2M (gSet (vnM (gSet M 1 zr) 1) 8 zr)) 87 zr) 88 zr)) 90 zr)) 92 zr)) 94 zr)) 95 zr))
def bnM (M : gMem) : gMem := gSet (cM (bnN M) 4) 0 (gUp (gUp (gUp (gUp (gUp (gUp (gUp (gUp (gUp ((M 0)) 0 (((1 : Nat) : Int) + 1)) 1 (((8 : Nat) : Int) + 1)) 2 (((87 : Nat) : Int) + 1)) 3 (((88 : Nat) : Int) + 1)) 4 (((90 : Nat) : Int) + 1)) 5 (((92 : Nat) : Int) + 1)) 6 (((94 : Nat) : Int) + 1)) 7 (((95 : Nat) : Int) + 1)) 8 (0))
set_option maxHeartbeats 4000000 in
set_option maxRecDepth 100000 in
theorem cL {D : va_G} {ca : Nat → ClassId} {N : gMem} {r : Nat → Int} (hr : r 2 = ((87 : Nat) : Int) + 1) : ∀ (j i : Nat), i + j = 4 → Go D ca none (gRm mX8_init ((SH.take 106).length - (SH.take 1).length) (gSz (SH.take 106) - gSz (SH.take 1))) mX8_init 112 [(0, gR 0), (1, gI (i : Int))] [] (SH.take (98 + 2 * i)) (gSet (cM N i) 0 r) [] (SH.take 106) (gSet (cM N 4) 0 r) := by
  intro j
  induction j with
  | zero =>
    intro i hi
    have ei : i = 4 := by omega
    subst ei
    refine Go_iload_n 1 rfl rfl dX8_init_112 ?_
    refine Go_iconst (by unfold in32; omega) dX8_init_113 ?_
    refine Go_icmp_ge dX8_init_114 rfl (fun h28 => ?_) (fun h28 => ?_)
    · exact Go_ret rfl dX8_init_136
    · exact absurd h28 (by decide)
  | succ j ih =>
    intro i hi
    obtain ⟨h0, h1⟩ := sh_c i (by omega)
    refine Go_iload_n 1 rfl rfl dX8_init_112 ?_
    refine Go_iconst (by unfold in32; omega) dX8_init_113 ?_
    refine Go_icmp_ge dX8_init_114 rfl (fun h28 => ?_) (fun h28 => ?_)
    · exfalso; omega
    refine Go_aload_n 0 rfl rfl dX8_init_117 ?_
    refine Go_getR (c' := 87) faX8_27 (tk_at sh_0 (by omega)) (by rw [gSet_s]; exact hr) dX8_init_118 ?_
    refine Go_iload_n 1 rfl rfl dX8_init_121 ?_
    refine Go_nO (c := 0) (k := 98 + 2 * i) ncX8_25 h0 (by omega) (by omega) (by omega) dX8_init_122 ?_
    refine Go_dupR dX8_init_125 ?_
    refine Go_callIN (iX1 h0 h1 (by omega)) rfl cnX8_76 imX1_init ⟨Nat.le_of_ble_eq_true rfl, Nat.le_of_ble_eq_true rfl⟩ rfl (Nat.le_of_ble_eq_true rfl) (tk_sh (by omega) (by omega) (by omega)) dX8_init_126 ?_
    refine Go_M (M2 := gSet (x1M (gSet (cM N i) (98 + 2 * i) zr) (98 + 2 * i)) 0 r) (x1M_cm (by omega)) ?_
    refine Go_aastoreS (c := 0) (i := 87) (t := 1) (b := 98 + 2 * i) (ci := 1) (q := vwCl[1]) i (by decide) (tk_at sh_87 (by omega)) rfl rfl (tk_at h0 (by omega)) rfl (by omega) dX8_init_129 ?_
    refine Go_iincn i 1 rfl rfl (by omega) 1 (ls' := [(1, gI _), (0, gR 0)]) rfl dX8_init_130 (by decide) rfl ?_
    refine Go_goto dX8_init_133 rfl ?_
    refine Go_pick [1, 0] (ls' := [(0, gR 0), (1, gI _)]) rfl ?_
    exact ih (i + 1) (by omega)
set_option maxHeartbeats 4000000 in
set_option maxRecDepth 100000 in
theorem iX8 {D : va_G} {ca : Nat → ClassId} {M : gMem} : Fn D ca mX8_init [gR 0] (SH.take 1) M [] (SH.take 106) (bnM M) := by
  refine Fn_of okX8_init (Nat.le_of_ble_eq_true rfl) (Or.inl ⟨rfl, rfl⟩) (tk_sh (k := 1) (k1 := 106) (K := 106) (by omega) (by omega) (by omega)).1 (gSz_tk (by omega)) ?_
  refine Go_ls2 (ls' := [(0, gR 0)]) rfl ?_
  refine Go_aload_n 0 rfl rfl dX8_init_0 ?_
  refine Go_oinit oiX8_5 ⟨Nat.le_of_ble_eq_true rfl, Nat.le_of_ble_eq_true rfl⟩ dX8_init_1 ?_
  refine Go_o 0 ?_
  refine Go_aload_n 0 rfl rfl dX8_init_4 ?_
  refine Go_nO (c := 0) (k := 1) ncX8_11 sh_1 (by decide) (by decide) (by decide) dX8_init_5 ?_
  refine Go_dupR dX8_init_8 ?_
  refine Go_callIN (iX6 (c := 1) rfl rfl rfl rfl rfl rfl rfl (by decide)) rfl cnX8_13 imX6_init ⟨Nat.le_of_ble_eq_true rfl, Nat.le_of_ble_eq_true rfl⟩ rfl (Nat.le_of_ble_eq_true rfl) (tk_sh (by decide) (by decide) (by decide)) dX8_init_9 ?_
  refine Go_M (M2 := gSet (vnM (gSet M 1 zr) 1) 0 ((M 0))) (vnM_cm (by decide)) ?_
  refine Go_putFS fpX8_14 rfl (tk_at sh_0 (by decide)) dX8_init_12 ?_
  refine Go_aload_n 0 rfl rfl dX8_init_15 ?_
  refine Go_nO (c := 0) (k := 8) ncX8_18 sh_8 (by decide) (by decide) (by decide) dX8_init_16 ?_
  refine Go_dupR dX8_init_19 ?_
  refine Go_callI iX2 rfl cwX8_20 imX2_init ⟨Nat.le_of_ble_eq_true rfl, Nat.le_of_ble_eq_true rfl⟩ rfl (Nat.le_of_ble_eq_true rfl) (tk_sh (by decide) (by decide) (by decide)) dX8_init_20 ?_
  refine Go_M (M2 := gSet (x2M (gSet (vnM (gSet M 1 zr) 1) 8 zr)) 0 (gUp ((M 0)) 0 (((1 : Nat) : Int) + 1))) (x2M_cm (by decide)) ?_
  refine Go_putFS fpX8_21 rfl (tk_at sh_0 (by decide)) dX8_init_23 ?_
  refine Go_aload_n 0 rfl rfl dX8_init_26 ?_
  refine Go_iconst (by unfold in32; omega) dX8_init_27 ?_
  refine Go_nR (c := 0) (k := 87) (n := 4) (t := 1) (C := "BreadOvens$Chart") sh_87 rfl (by decide) (by decide) (by decide) (Or.inr ⟨rfl, rfl⟩) clX8_25 (by decide) dX8_init_28 ?_
  refine Go_putFS fpX8_27 rfl (tk_at sh_0 (by decide)) dX8_init_31 ?_
  refine Go_aload_n 0 rfl rfl dX8_init_34 ?_
  refine Go_nO (c := 0) (k := 88) ncX8_31 sh_88 (by decide) (by decide) (by decide) dX8_init_35 ?_
  refine Go_dupR dX8_init_38 ?_
  refine Go_callIN iX7 rfl cnX8_33 imX7_init ⟨Nat.le_of_ble_eq_true rfl, Nat.le_of_ble_eq_true rfl⟩ rfl (Nat.le_of_ble_eq_true rfl) (tk_sh (by decide) (by decide) (by decide)) dX8_init_39 ?_
  refine Go_M (M2 := gSet (x7M (gSet (gSet (x2M (gSet (vnM (gSet M 1 zr) 1) 8 zr)) 87 zr) 88 zr)) 0 (gUp (gUp (gUp ((M 0)) 0 (((1 : Nat) : Int) + 1)) 1 (((8 : Nat) : Int) + 1)) 2 (((87 : Nat) : Int) + 1))) (x7M_cm (by decide)) ?_
  refine Go_putFS fpX8_34 rfl (tk_at sh_0 (by decide)) dX8_init_42 ?_
  refine Go_aload_n 0 rfl rfl dX8_init_45 ?_
  refine Go_nO (c := 0) (k := 90) ncX8_38 sh_90 (by decide) (by decide) (by decide) dX8_init_46 ?_
  refine Go_dupR dX8_init_49 ?_
  refine Go_aload_n 0 rfl rfl dX8_init_50 ?_
  refine Go_getR (c' := 1) faX8_14 (tk_at sh_0 (by decide)) rfl dX8_init_51 ?_
  refine Go_callI iX3 rfl cwX8_40 imX3_init ⟨Nat.le_of_ble_eq_true rfl, Nat.le_of_ble_eq_true rfl⟩ rfl (Nat.le_of_ble_eq_true rfl) (tk_sh (by decide) (by decide) (by decide)) dX8_init_54 ?_
  refine Go_M (M2 := gSet (x3M (gSet (x7M (gSet (gSet (x2M (gSet (vnM (gSet M 1 zr) 1) 8 zr)) 87 zr) 88 zr)) 90 zr)) 0 (gUp (gUp (gUp (gUp ((M 0)) 0 (((1 : Nat) : Int) + 1)) 1 (((8 : Nat) : Int) + 1)) 2 (((87 : Nat) : Int) + 1)) 3 (((88 : Nat) : Int) + 1))) (x3M_cm (by decide)) ?_
  refine Go_putFS fpX8_43 rfl (tk_at sh_0 (by decide)) dX8_init_57 ?_
  refine Go_aload_n 0 rfl rfl dX8_init_60 ?_
  refine Go_nO (c := 0) (k := 92) ncX8_47 sh_92 (by decide) (by decide) (by decide) dX8_init_61 ?_
  refine Go_dupR dX8_init_64 ?_
  refine Go_callIN iX5 rfl cnX8_49 imX5_init ⟨Nat.le_of_ble_eq_true rfl, Nat.le_of_ble_eq_true rfl⟩ rfl (Nat.le_of_ble_eq_true rfl) (tk_sh (by decide) (by decide) (by decide)) dX8_init_65 ?_
  refine Go_M (M2 := gSet (x5M (gSet (x3M (gSet (x7M (gSet (gSet (x2M (gSet (vnM (gSet M 1 zr) 1) 8 zr)) 87 zr) 88 zr)) 90 zr)) 92 zr)) 0 (gUp (gUp (gUp (gUp (gUp ((M 0)) 0 (((1 : Nat) : Int) + 1)) 1 (((8 : Nat) : Int) + 1)) 2 (((87 : Nat) : Int) + 1)) 3 (((88 : Nat) : Int) + 1)) 4 (((90 : Nat) : Int) + 1))) (x5M_cm (by decide)) ?_
  refine Go_putFS fpX8_50 rfl (tk_at sh_0 (by decide)) dX8_init_68 ?_
  refine Go_aload_n 0 rfl rfl dX8_init_71 ?_
  refine Go_nO (c := 0) (k := 94) ncX8_54 sh_94 (by decide) (by decide) (by decide) dX8_init_72 ?_
  refine Go_dupR dX8_init_75 ?_
  refine Go_aload_n 0 rfl rfl dX8_init_76 ?_
  refine Go_getR (c' := 90) faX8_43 (tk_at sh_0 (by decide)) rfl dX8_init_77 ?_
  refine Go_callI iX0 rfl cwX8_56 imX0_init ⟨Nat.le_of_ble_eq_true rfl, Nat.le_of_ble_eq_true rfl⟩ rfl (Nat.le_of_ble_eq_true rfl) (tk_sh (by decide) (by decide) (by decide)) dX8_init_80 ?_
  refine Go_M (M2 := gSet (x0M (gSet (x5M (gSet (x3M (gSet (x7M (gSet (gSet (x2M (gSet (vnM (gSet M 1 zr) 1) 8 zr)) 87 zr) 88 zr)) 90 zr)) 92 zr)) 94 zr)) 0 (gUp (gUp (gUp (gUp (gUp (gUp ((M 0)) 0 (((1 : Nat) : Int) + 1)) 1 (((8 : Nat) : Int) + 1)) 2 (((87 : Nat) : Int) + 1)) 3 (((88 : Nat) : Int) + 1)) 4 (((90 : Nat) : Int) + 1)) 5 (((92 : Nat) : Int) + 1))) (x0M_cm (by decide)) ?_
  refine Go_putFS fpX8_59 rfl (tk_at sh_0 (by decide)) dX8_init_83 ?_
  refine Go_aload_n 0 rfl rfl dX8_init_86 ?_
  refine Go_nO (c := 0) (k := 95) ncX8_63 sh_95 (by decide) (by decide) (by decide) dX8_init_87 ?_
  refine Go_dupR dX8_init_90 ?_
  refine Go_aload_n 0 rfl rfl dX8_init_91 ?_
  refine Go_getR (c' := 1) faX8_14 (tk_at sh_0 (by decide)) rfl dX8_init_92 ?_
  refine Go_aload_n 0 rfl rfl dX8_init_95 ?_
  refine Go_getR (c' := 90) faX8_43 (tk_at sh_0 (by decide)) rfl dX8_init_96 ?_
  refine Go_callI iX4 rfl cwX8_65 imX4_init ⟨Nat.le_of_ble_eq_true rfl, Nat.le_of_ble_eq_true rfl⟩ rfl (Nat.le_of_ble_eq_true rfl) (tk_sh (by decide) (by decide) (by decide)) dX8_init_99 ?_
  refine Go_M (M2 := gSet (x4M (gSet (x0M (gSet (x5M (gSet (x3M (gSet (x7M (gSet (gSet (x2M (gSet (vnM (gSet M 1 zr) 1) 8 zr)) 87 zr) 88 zr)) 90 zr)) 92 zr)) 94 zr)) 95 zr)) 0 (gUp (gUp (gUp (gUp (gUp (gUp (gUp ((M 0)) 0 (((1 : Nat) : Int) + 1)) 1 (((8 : Nat) : Int) + 1)) 2 (((87 : Nat) : Int) + 1)) 3 (((88 : Nat) : Int) + 1)) 4 (((90 : Nat) : Int) + 1)) 5 (((92 : Nat) : Int) + 1)) 6 (((94 : Nat) : Int) + 1))) (x4M_cm (by decide)) ?_
  refine Go_putFS fpX8_68 rfl (tk_at sh_0 (by decide)) dX8_init_102 ?_
  refine Go_aload_n 0 rfl rfl dX8_init_105 ?_
  refine Go_iconst (by unfold in32; omega) dX8_init_106 ?_
  refine Go_putZS (Or.inl rfl) fpX8_72 (tk_at sh_0 (by decide)) dX8_init_107 ?_
  refine Go_iconst (by unfold in32; omega) dX8_init_110 ?_
  refine Go_istore_n (ls' := [(1, gI _), (0, gR 0)]) rfl dX8_init_111 (by decide) rfl ?_
  refine Go_pick [1, 0] (ls' := [(0, gR 0), (1, gI _)]) rfl ?_
  exact cL (N := bnN M) rfl 4 0 (by omega)
