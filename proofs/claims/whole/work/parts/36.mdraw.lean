def cyS (s r : Nat → Int) : Nat → (Nat → Int)
  | 0 => r
  | i + 1 => gUp (cyS s r i) i (s i)
def pf9 (w L : Nat → Int) : Nat → (Nat → Int)
  | 0 => L
  | r + 1 => gUp (gUp (pf9 w L r) (12 * (w (r * 3)).toNat + (w (r * 3 + 1)).toNat) (w (r * 3 + 2))) (12 * (w (r * 3 + 1)).toNat + (w (r * 3)).toNat) (w (r * 3 + 2))
def ch9 (R Y : Nat → Int) : Nat → Bool
  | 0 => false
  | i + 1 => ch9 R Y i || decide (R i ≠ Y i)
def mpW (M : gMem) (q : Nat) : Nat → Int := fun j => M 116 (60 * q + j)
def dwR (M : gMem) (q c : Nat) : Nat → Int := pf9 (mpW M q) (cyS (M 109) (M 123) 144) c
def dwE (N : gMem) : gMem := gSet N 109 (cyS (N 123) (N 109) 144)
def dwM (M : gMem) (q c k : Nat) : gMem := if ch9 (M 109) (dwR M q c) 144 = true then dwE (kpM (gSet M 123 (dwR M q c)) k) else dwE (gSet M 123 (dwR M q c))
set_option maxHeartbeats 4000000 in
set_option maxRecDepth 100000 in
theorem pX9_draw_bad {D : va_G} {ca : Nat → ClassId} {M : gMem} {nv np : Nat} (hC : MS M nv np) (k z n : Int) (h : ¬ ((0 ≤ k ∧ k ≤ 3) ∧ (0 ≤ z ∧ z ≤ 2) ∧ 0 ≤ n)) : Fn D ca mX9_draw [gR 106, gI k, gI z, gI n] SH M [gI (-1)] SH (M) := by
  refine Fn_of okX9_draw (Nat.le_of_ble_eq_true rfl) (Or.inr (Or.inl ⟨_, rfl, rfl⟩)) (Nat.le_refl _) (Nat.le_refl _) ?_
  refine Go_ls2 (ls' := [(0, gR 106), (1, gI _), (2, gI _), (3, gI _)]) rfl ?_
  have hv12 := hC.2.2.1
  have hn10 := hC.2.2.2.2
  refine Go_iload_n 1 rfl rfl dX9_draw_0 ?_
  refine Go_i2l dX9_draw_1 ?_
  refine Go_lconst (v := 0) ⟨rfl, by unfold in64; omega⟩ dX9_draw_2 ?_
  refine Go_ldc2 klX9_108 (by unfold in64; omega) dX9_draw_3 ?_
  refine Go_callSI (fX9_in _ _ _) cwX9_81 smX9_in ⟨Nat.le_of_ble_eq_true rfl, Nat.le_of_ble_eq_true rfl⟩ rfl (Nat.le_of_ble_eq_true rfl) sh_rf dX9_draw_6 ?_
  refine Go_if_eq dX9_draw_9 rfl (fun h9 => ?_) (fun h9 => ?_)
  · skip
    replace h9 := bI_0.mp h9
    refine Go_iconst (by unfold in32; omega) dX9_draw_28 ?_
    exact Go_ret rfl dX9_draw_29
  · skip
    replace h9 := bI_n.mp h9
    refine Go_iload_n 2 rfl rfl dX9_draw_12 ?_
    refine Go_i2l dX9_draw_13 ?_
    refine Go_lconst (v := 0) ⟨rfl, by unfold in64; omega⟩ dX9_draw_14 ?_
    refine Go_ldc2 klX9_110 (by unfold in64; omega) dX9_draw_15 ?_
    refine Go_callSI (fX9_in _ _ _) cwX9_81 smX9_in ⟨Nat.le_of_ble_eq_true rfl, Nat.le_of_ble_eq_true rfl⟩ rfl (Nat.le_of_ble_eq_true rfl) sh_rf dX9_draw_18 ?_
    refine Go_if_eq dX9_draw_21 rfl (fun h21 => ?_) (fun h21 => ?_)
    · skip
      replace h21 := bI_0.mp h21
      refine Go_iconst (by unfold in32; omega) dX9_draw_28 ?_
      exact Go_ret rfl dX9_draw_29
    · skip
      replace h21 := bI_n.mp h21
      refine Go_iload_n 3 rfl rfl dX9_draw_24 ?_
      refine Go_if_ge dX9_draw_25 rfl (fun h25 => ?_) (fun h25 => ?_)
      · skip
        exact absurd ⟨h9, h21, h25⟩ h
      · skip
        refine Go_iconst (by unfold in32; omega) dX9_draw_28 ?_
        exact Go_ret rfl dX9_draw_29
set_option maxHeartbeats 4000000 in
set_option maxRecDepth 100000 in
theorem pX9_draw_lane {D : va_G} {ca : Nat → ClassId} {M : gMem} {nv np : Nat} (hC : MS M nv np) (q : Nat) (hq : q < 4) (z : Int) (hz : (0 ≤ z ∧ z ≤ 2)) (c : Nat) (hc : c < 2147483648) (h : M 114 q ≠ z) : Fn D ca mX9_draw [gR 106, gI (q : Int), gI z, gI (c : Int)] SH M [gI (if M 114 q = -4 then -11 else -13)] SH (M) := by
  refine Fn_of okX9_draw (Nat.le_of_ble_eq_true rfl) (Or.inr (Or.inl ⟨_, rfl, rfl⟩)) (Nat.le_refl _) (Nat.le_refl _) ?_
  refine Go_ls2 (ls' := [(0, gR 106), (1, gI _), (2, gI _), (3, gI _)]) rfl ?_
  have hv12 := hC.2.2.1
  have hn10 := hC.2.2.2.2
  refine Go_iload_n 1 rfl rfl dX9_draw_0 ?_
  refine Go_i2l dX9_draw_1 ?_
  refine Go_lconst (v := 0) ⟨rfl, by unfold in64; omega⟩ dX9_draw_2 ?_
  refine Go_ldc2 klX9_108 (by unfold in64; omega) dX9_draw_3 ?_
  refine Go_callSI (fX9_in _ _ _) cwX9_81 smX9_in ⟨Nat.le_of_ble_eq_true rfl, Nat.le_of_ble_eq_true rfl⟩ rfl (Nat.le_of_ble_eq_true rfl) sh_rf dX9_draw_6 ?_
  refine Go_if_eq dX9_draw_9 rfl (fun h9 => ?_) (fun h9 => ?_)
  · skip
    replace h9 := bI_0.mp h9
    exfalso; omega
  · skip
    replace h9 := bI_n.mp h9
    refine Go_iload_n 2 rfl rfl dX9_draw_12 ?_
    refine Go_i2l dX9_draw_13 ?_
    refine Go_lconst (v := 0) ⟨rfl, by unfold in64; omega⟩ dX9_draw_14 ?_
    refine Go_ldc2 klX9_110 (by unfold in64; omega) dX9_draw_15 ?_
    refine Go_callSI (fX9_in _ _ _) cwX9_81 smX9_in ⟨Nat.le_of_ble_eq_true rfl, Nat.le_of_ble_eq_true rfl⟩ rfl (Nat.le_of_ble_eq_true rfl) sh_rf dX9_draw_18 ?_
    refine Go_if_eq dX9_draw_21 rfl (fun h21 => ?_) (fun h21 => ?_)
    · skip
      replace h21 := bI_0.mp h21
      exact absurd hz h21
    · skip
      replace h21 := bI_n.mp h21
      refine Go_iload_n 3 rfl rfl dX9_draw_24 ?_
      refine Go_if_ge dX9_draw_25 rfl (fun h25 => ?_) (fun h25 => ?_)
      · skip
        refine Go_aload_n 0 rfl rfl dX9_draw_30 ?_
        refine Go_getR (c' := 114) faX9_36 sh_106 (pt_106_10 (M := M) hC.1) dX9_draw_31 ?_
        refine Go_iload_n 1 rfl rfl dX9_draw_34 ?_
        refine Go_ialoadv q (v := M 114 (q)) rfl sh_114 rfl (by omega) dX9_draw_35 ?_
        refine Go_iload_n 2 rfl rfl dX9_draw_36 ?_
        refine Go_icmp_eq dX9_draw_37 rfl (fun h37 => ?_) (fun h37 => ?_)
        · skip
          exact absurd h37 h
        · skip
          refine Go_aload_n 0 rfl rfl dX9_draw_40 ?_
          refine Go_getR (c' := 114) faX9_36 sh_106 (pt_106_10 (M := M) hC.1) dX9_draw_41 ?_
          refine Go_iload_n 1 rfl rfl dX9_draw_44 ?_
          refine Go_ialoadv q (v := M 114 (q)) rfl sh_114 rfl (by omega) dX9_draw_45 ?_
          refine Go_bipush ⟨by decide, by unfold in32; omega⟩ dX9_draw_46 ?_
          refine Go_icmp_ne dX9_draw_48 rfl (fun h48 => ?_) (fun h48 => ?_)
          · skip
            refine Go_bipush ⟨by decide, by unfold in32; omega⟩ dX9_draw_56 ?_
            exact Go_ret (by first | rw [if_pos (by exact h48)] | rw [if_neg (by exact h48)]) dX9_draw_58
          · skip
            refine Go_bipush ⟨by decide, by unfold in32; omega⟩ dX9_draw_51 ?_
            refine Go_goto dX9_draw_53 rfl ?_
            exact Go_ret (by first | rw [if_pos (by exact h48)] | rw [if_neg (by exact h48)]) dX9_draw_58
      · skip
        exfalso; omega
set_option maxHeartbeats 4000000 in
set_option maxRecDepth 100000 in
theorem pX9_draw_no {D : va_G} {ca : Nat → ClassId} {M : gMem} {nv np : Nat} (hC : MS M nv np) (q : Nat) (hq : q < 4) (z : Int) (hz : (0 ≤ z ∧ z ≤ 2)) (c : Nat) (hc : c < 2147483648) (h : M 114 q = z) (s : Nat) (hs : M 115 q = (s : Int)) (hs2 : s ≤ 60) (x : Int) (hx0 : rfF nv (s : Int) (mpW M q) c 20 0 = x) (hxn : x < 0) : Fn D ca mX9_draw [gR 106, gI (q : Int), gI z, gI (c : Int)] SH M [gI x] SH (M) := by
  refine Fn_of okX9_draw (Nat.le_of_ble_eq_true rfl) (Or.inr (Or.inl ⟨_, rfl, rfl⟩)) (Nat.le_refl _) (Nat.le_refl _) ?_
  refine Go_ls2 (ls' := [(0, gR 106), (1, gI _), (2, gI _), (3, gI _)]) rfl ?_
  have hv12 := hC.2.2.1
  have hn10 := hC.2.2.2.2
  have loop_62 : ∀ (k : Nat) (r : Nat), r + k = 20 → rfF nv (s : Int) (mpW M q) c k r = x → Go D ca none (gRm mX9_draw (SH.length - SH.length) (gSz SH - gSz SH)) mX9_draw 62 [(0, gR 106), (1, gI (q : Int)), (3, gI (c : Int)), (4, gI (r : Int))] [] SH M [gI x] SH (M) := by
    intro k
    induction k with
    | zero =>
      intro r he hx
      simp only [rfF] at hx
      refine Go_iload 3 rfl dX9_draw_62 ?_
      refine Go_iload_n 2 rfl rfl dX9_draw_64 ?_
      refine Go_icmp_ge dX9_draw_65 rfl (fun h65 => ?_) (fun h65 => ?_)
      · skip
        exfalso; (try simp only [rfF] at hx); first | omega | (rw [if_pos (by omega)] at hx; omega)
      · skip
        refine Go_ldc2 klX9_108 (by unfold in64; omega) dX9_draw_68 ?_
        refine Go_iload 3 rfl dX9_draw_71 ?_
        refine Go_i2l dX9_draw_73 ?_
        refine Go_lmulc (by omega) dX9_draw_74 ?_
        refine Go_ldc2 klX9_110 (by unfold in64; omega) dX9_draw_75 ?_
        refine Go_laddc (by omega) dX9_draw_78 ?_
        refine Go_aload_n 0 rfl rfl dX9_draw_79 ?_
        refine Go_getR (c' := 115) faX9_39 sh_106 (pt_106_11 (M := M) hC.1) dX9_draw_80 ?_
        refine Go_iload_n 1 rfl rfl dX9_draw_83 ?_
        refine Go_ialoadv q (v := ((s : Nat) : Int)) hs sh_115 rfl (by omega) dX9_draw_84 ?_
        refine Go_i2l dX9_draw_85 ?_
        refine Go_lcmp dX9_draw_86 ?_
        refine Go_if_lt dX9_draw_87 rfl (fun h87 => ?_) (fun h87 => ?_)
        · skip
          replace h87 := cmp_lt.mp h87
          exfalso; (try simp only [rfF] at hx); first | omega | (rw [if_pos (by omega)] at hx; omega)
        · skip
          replace h87 := cmp_ge.mp h87
          refine Go_bipush ⟨by decide, by unfold in32; omega⟩ dX9_draw_90 ?_
          exact Go_ret (by rw [← hx]; first | (simp only [rfF]; rw [if_neg (by omega), if_neg (by omega)]) | (rw [if_neg (by omega)])) dX9_draw_92
    | succ k ih_62 =>
      intro r he hx
      refine Go_iload 3 rfl dX9_draw_62 ?_
      refine Go_iload_n 2 rfl rfl dX9_draw_64 ?_
      refine Go_icmp_ge dX9_draw_65 rfl (fun h65 => ?_) (fun h65 => ?_)
      · skip
        exfalso; (try simp only [rfF] at hx); first | omega | (rw [if_pos (by omega)] at hx; omega)
      · skip
        refine Go_ldc2 klX9_108 (by unfold in64; omega) dX9_draw_68 ?_
        refine Go_iload 3 rfl dX9_draw_71 ?_
        refine Go_i2l dX9_draw_73 ?_
        refine Go_lmulc (by omega) dX9_draw_74 ?_
        refine Go_ldc2 klX9_110 (by unfold in64; omega) dX9_draw_75 ?_
        refine Go_laddc (by omega) dX9_draw_78 ?_
        refine Go_aload_n 0 rfl rfl dX9_draw_79 ?_
        refine Go_getR (c' := 115) faX9_39 sh_106 (pt_106_11 (M := M) hC.1) dX9_draw_80 ?_
        refine Go_iload_n 1 rfl rfl dX9_draw_83 ?_
        refine Go_ialoadv q (v := ((s : Nat) : Int)) hs sh_115 rfl (by omega) dX9_draw_84 ?_
        refine Go_i2l dX9_draw_85 ?_
        refine Go_lcmp dX9_draw_86 ?_
        refine Go_if_lt dX9_draw_87 rfl (fun h87 => ?_) (fun h87 => ?_)
        · skip
          replace h87 := cmp_lt.mp h87
          refine Go_bipush ⟨by decide, by unfold in32; omega⟩ dX9_draw_93 ?_
          refine Go_iload_n 1 rfl rfl dX9_draw_95 ?_
          refine Go_imuln 60 q rfl rfl (by omega) dX9_draw_96 ?_
          refine Go_iconst (by unfold in32; omega) dX9_draw_97 ?_
          refine Go_iload 3 rfl dX9_draw_98 ?_
          refine Go_imuln 3 r rfl rfl (by omega) dX9_draw_100 ?_
          refine Go_iaddn (60 * q) (3 * r) rfl rfl (by omega) dX9_draw_101 ?_
          refine Go_istore (ls' := [(5, gI _), (0, gR 106), (1, gI _), (3, gI _), (4, gI _)]) dX9_draw_102 (by decide) rfl ?_
          refine Go_aload_n 1 rfl rfl dX9_draw_104 ?_
          refine Go_aload_n 1 rfl rfl dX9_draw_105 ?_
          refine Go_getR (c' := 116) faX9_42 sh_106 (pt_106_12 (M := M) hC.1) dX9_draw_106 ?_
          refine Go_iload 0 rfl dX9_draw_109 ?_
          refine Go_laloadv ((60 * q) + (3 * r)) (v := mpW M q (r * 3)) (congrArg (M 116) (by omega)) sh_116 rfl (by omega) dX9_draw_111 ?_
          refine Go_aload_n 1 rfl rfl dX9_draw_112 ?_
          refine Go_getR (c' := 116) faX9_42 sh_106 (pt_106_12 (M := M) hC.1) dX9_draw_113 ?_
          refine Go_iload 0 rfl dX9_draw_116 ?_
          refine Go_iconst (by unfold in32; omega) dX9_draw_118 ?_
          refine Go_iaddn ((60 * q) + (3 * r)) 1 rfl rfl (by omega) dX9_draw_119 ?_
          refine Go_laloadv (((60 * q) + (3 * r)) + 1) (v := mpW M q (r * 3 + 1)) (congrArg (M 116) (by omega)) sh_116 rfl (by omega) dX9_draw_120 ?_
          refine Go_aload_n 1 rfl rfl dX9_draw_121 ?_
          refine Go_getR (c' := 116) faX9_42 sh_106 (pt_106_12 (M := M) hC.1) dX9_draw_122 ?_
          refine Go_iload 0 rfl dX9_draw_125 ?_
          refine Go_iconst (by unfold in32; omega) dX9_draw_127 ?_
          refine Go_iaddn ((60 * q) + (3 * r)) 2 rfl rfl (by omega) dX9_draw_128 ?_
          refine Go_laloadv (((60 * q) + (3 * r)) + 2) (v := mpW M q (r * 3 + 2)) (congrArg (M 116) (by omega)) sh_116 rfl (by omega) dX9_draw_129 ?_
          refine Go_callVI (q := vwCl[9]) (fX9_isRoad hC _ _ _) cwX9_94 imX9_isRoad rfl rfl ⟨Nat.le_of_ble_eq_true rfl, Nat.le_of_ble_eq_true rfl⟩ sh_106 rfl (Nat.le_of_ble_eq_true rfl) sh_rf dX9_draw_130 ?_
          refine Go_if_ne dX9_draw_133 rfl (fun h133 => ?_) (fun h133 => ?_)
          · skip
            replace h133 := bI_n.mp h133
            have hk133 : tkP nv (mpW M q) r := h133
            refine Go_iincn r 1 rfl rfl (by omega) 4 (ls' := [(4, gI _), (5, gI _), (0, gR 106), (1, gI _), (3, gI _)]) rfl dX9_draw_139 (by decide) rfl ?_
            refine Go_goto dX9_draw_142 rfl ?_
            refine Go_pick [2, 3, 4, 0] (ls' := [(0, gR 106), (1, gI _), (3, gI _), (4, gI _)]) rfl ?_
            exact ih_62 (r + 1) (by omega) (by rw [← hx]; simp only [rfF]; rw [if_neg (by omega), if_pos (by omega), if_pos (by exact hk133)])
          · skip
            replace h133 := bI_0.mp h133
            have hk133 : ¬ tkP nv (mpW M q) r := h133
            refine Go_bipush ⟨by decide, by unfold in32; omega⟩ dX9_draw_136 ?_
            exact Go_ret (by rw [← hx]; simp only [rfF]; rw [if_neg (by omega), if_pos (by omega), if_neg (by exact hk133)]) dX9_draw_138
        · skip
          replace h87 := cmp_ge.mp h87
          refine Go_bipush ⟨by decide, by unfold in32; omega⟩ dX9_draw_90 ?_
          exact Go_ret (by rw [← hx]; first | (simp only [rfF]; rw [if_neg (by omega), if_neg (by omega)]) | (rw [if_neg (by omega)])) dX9_draw_92
  refine Go_iload_n 1 rfl rfl dX9_draw_0 ?_
  refine Go_i2l dX9_draw_1 ?_
  refine Go_lconst (v := 0) ⟨rfl, by unfold in64; omega⟩ dX9_draw_2 ?_
  refine Go_ldc2 klX9_108 (by unfold in64; omega) dX9_draw_3 ?_
  refine Go_callSI (fX9_in _ _ _) cwX9_81 smX9_in ⟨Nat.le_of_ble_eq_true rfl, Nat.le_of_ble_eq_true rfl⟩ rfl (Nat.le_of_ble_eq_true rfl) sh_rf dX9_draw_6 ?_
  refine Go_if_eq dX9_draw_9 rfl (fun h9 => ?_) (fun h9 => ?_)
  · skip
    replace h9 := bI_0.mp h9
    exfalso; omega
  · skip
    replace h9 := bI_n.mp h9
    refine Go_iload_n 2 rfl rfl dX9_draw_12 ?_
    refine Go_i2l dX9_draw_13 ?_
    refine Go_lconst (v := 0) ⟨rfl, by unfold in64; omega⟩ dX9_draw_14 ?_
    refine Go_ldc2 klX9_110 (by unfold in64; omega) dX9_draw_15 ?_
    refine Go_callSI (fX9_in _ _ _) cwX9_81 smX9_in ⟨Nat.le_of_ble_eq_true rfl, Nat.le_of_ble_eq_true rfl⟩ rfl (Nat.le_of_ble_eq_true rfl) sh_rf dX9_draw_18 ?_
    refine Go_if_eq dX9_draw_21 rfl (fun h21 => ?_) (fun h21 => ?_)
    · skip
      replace h21 := bI_0.mp h21
      exact absurd hz h21
    · skip
      replace h21 := bI_n.mp h21
      refine Go_iload_n 3 rfl rfl dX9_draw_24 ?_
      refine Go_if_ge dX9_draw_25 rfl (fun h25 => ?_) (fun h25 => ?_)
      · skip
        refine Go_aload_n 0 rfl rfl dX9_draw_30 ?_
        refine Go_getR (c' := 114) faX9_36 sh_106 (pt_106_10 (M := M) hC.1) dX9_draw_31 ?_
        refine Go_iload_n 1 rfl rfl dX9_draw_34 ?_
        refine Go_ialoadv q (v := M 114 (q)) rfl sh_114 rfl (by omega) dX9_draw_35 ?_
        refine Go_iload_n 2 rfl rfl dX9_draw_36 ?_
        refine Go_icmp_eq dX9_draw_37 rfl (fun h37 => ?_) (fun h37 => ?_)
        · skip
          refine Go_iconst (by unfold in32; omega) dX9_draw_59 ?_
          refine Go_istore (ls' := [(4, gI _), (0, gR 106), (1, gI _), (2, gI _), (3, gI _)]) dX9_draw_60 (by decide) rfl ?_
          refine Go_pick [1, 2, 4, 0] (ls' := [(0, gR 106), (1, gI _), (3, gI _), (4, gI _)]) rfl ?_
          exact loop_62 20 0 (by omega) hx0
        · skip
          exact absurd h h37
      · skip
        exfalso; omega
set_option maxHeartbeats 4000000 in
set_option maxRecDepth 100000 in
theorem drawT {D : va_G} {ca : Nat → ClassId} {N : gMem} {nv np : Nat} (hN : MS N nv np) (c : Nat) : Go D ca none (gRm mX9_draw (SH.length - SH.length) (gSz SH - gSz SH)) mX9_draw 324 [(0, gR 106), (3, gI (c : Int))] [] SH N [gI (c : Int)] SH (dwE N) := by
  have loop_327 : ∀ (k : Nat) (i : Nat) (y : Nat → Int), i + k = 144 → cyS (N 123) (N 109) i = y → Go D ca none (gRm mX9_draw (SH.length - SH.length) (gSz SH - gSz SH)) mX9_draw 327 [(0, gR 106), (3, gI (c : Int)), (5, gI (i : Int))] [] SH (gSet N 109 y) [gI (c : Int)] SH (dwE N) := by
    intro k
    induction k with
    | zero =>
      intro i y he hx
      have ei : i = 144 := by omega
      subst ei
      subst hx
      refine Go_iload 2 rfl dX9_draw_327 ?_
      refine Go_sipush ⟨by decide, by unfold in32; omega⟩ dX9_draw_329 ?_
      refine Go_icmp_ge dX9_draw_332 rfl (fun h332 => ?_) (fun h332 => ?_)
      · skip
        refine Go_iload_n 1 rfl rfl dX9_draw_355 ?_
        exact Go_ret rfl dX9_draw_356
      · skip
        exact absurd h332 (by omega)
    | succ k ih_327 =>
      intro i y he hx
      refine Go_iload 2 rfl dX9_draw_327 ?_
      refine Go_sipush ⟨by decide, by unfold in32; omega⟩ dX9_draw_329 ?_
      refine Go_icmp_ge dX9_draw_332 rfl (fun h332 => ?_) (fun h332 => ?_)
      · skip
        exact absurd h332 (by omega)
      · skip
        refine Go_aload_n 0 rfl rfl dX9_draw_335 ?_
        refine Go_getR (c' := 109) faX9_17 sh_106 (pt_106_3 (M := N) hN.1) dX9_draw_336 ?_
        refine Go_iload 2 rfl dX9_draw_339 ?_
        refine Go_aload_n 0 rfl rfl dX9_draw_341 ?_
        refine Go_getR (c' := 123) faX9_63 sh_106 (pt_106_20 (M := N) hN.1) dX9_draw_342 ?_
        refine Go_iload 2 rfl dX9_draw_345 ?_
        refine Go_ialoadv i (v := N 123 (i)) rfl sh_123 rfl (by omega) dX9_draw_347 ?_
        refine Go_iastoreS i sh_109 rfl (by omega) dX9_draw_348 ?_
        refine Go_iincn i 1 rfl rfl (by omega) 2 (ls' := [(5, gI _), (0, gR 106), (3, gI _)]) rfl dX9_draw_349 (by decide) rfl ?_
        refine Go_goto dX9_draw_352 rfl ?_
        refine Go_pick [1, 2, 0] (ls' := [(0, gR 106), (3, gI _), (5, gI _)]) rfl ?_
        exact ih_327 (i + 1) _ (by omega) (by simp only [cyS, hx])
  refine Go_iconst (by unfold in32; omega) dX9_draw_324 ?_
  refine Go_istore (ls' := [(5, gI _), (0, gR 106), (3, gI _)]) dX9_draw_325 (by decide) rfl ?_
  refine Go_pick [1, 2, 0] (ls' := [(0, gR 106), (3, gI _), (5, gI _)]) rfl ?_
  refine Go_o 109 ?_
  exact loop_327 144 0 _ (by omega) rfl
set_option maxHeartbeats 4000000 in
set_option maxRecDepth 100000 in
theorem pX9_draw {D : va_G} {ca : Nat → ClassId} {M : gMem} {nv np : Nat} (hC : MS M nv np) (k : Nat) (hk : M 106 13 = (k : Int)) (hk2 : k ≤ 10) (q : Nat) (hq : q < 4) (z : Int) (hz : (0 ≤ z ∧ z ≤ 2)) (c : Nat) (hc : c < 2147483648) (h : M 114 q = z) (s : Nat) (hs : M 115 q = (s : Int)) (hs2 : s ≤ 60) (hok : ∀ r, r < c → r < 20 ∧ (((r + 1) * 3 : Nat) : Int) ≤ (s : Int) ∧ tkP nv (mpW M q) r) : Fn D ca mX9_draw [gR 106, gI (q : Int), gI z, gI (c : Int)] SH M [gI (c : Int)] SH (dwM M q c k) := by
  refine Fn_of okX9_draw (Nat.le_of_ble_eq_true rfl) (Or.inr (Or.inl ⟨_, rfl, rfl⟩)) (Nat.le_refl _) (Nat.le_refl _) ?_
  refine Go_ls2 (ls' := [(0, gR 106), (1, gI _), (2, gI _), (3, gI _)]) rfl ?_
  have hv12 := hC.2.2.1
  have hn10 := hC.2.2.2.2
  have loop_272 : ∀ (n : Nat) (i : Nat) (f : Bool), i + n = 144 → ch9 (M 109) (dwR M q c) i = f → Go D ca none (gRm mX9_draw (SH.length - SH.length) (gSz SH - gSz SH)) mX9_draw 272 [(0, gR 106), (3, gI (c : Int)), (4, gI (bI (f = true))), (5, gI (i : Int))] [] SH (gSet M 123 (dwR M q c)) [gI (c : Int)] SH (dwM M q c k) := by
    intro n
    induction n with
    | zero =>
      intro i f he hx
      have ei : i = 144 := by omega
      subst ei
      subst hx
      refine Go_iload 3 rfl dX9_draw_272 ?_
      refine Go_sipush ⟨by decide, by unfold in32; omega⟩ dX9_draw_274 ?_
      refine Go_icmp_ge dX9_draw_277 rfl (fun h277 => ?_) (fun h277 => ?_)
      · skip
        refine Go_iload 2 rfl dX9_draw_315 ?_
        refine Go_if_eq dX9_draw_317 rfl (fun h317 => ?_) (fun h317 => ?_)
        · skip
          replace h317 := bI_0.mp h317
          rw [show dwM M q c k = dwE (gSet M 123 (dwR M q c)) from if_neg h317]
          refine Go_pick [0, 1] (ls' := [(0, gR 106), (3, gI _)]) rfl ?_
          exact drawT (MS_row (i := 123) (r := dwR M q c) hC rfl) c
        · skip
          replace h317 := bI_n.mp h317
          rw [show dwM M q c k = dwE (kpM (gSet M 123 (dwR M q c)) k) from if_pos h317]
          refine Go_aload_n 0 rfl rfl dX9_draw_320 ?_
          refine Go_callV0 (q := vwCl[9]) (fX9_keep (MS_row (i := 123) (r := dwR M q c) hC rfl) k hk hk2) cwX9_87 imX9_keep rfl rfl ⟨Nat.le_of_ble_eq_true rfl, Nat.le_of_ble_eq_true rfl⟩ sh_106 rfl (Nat.le_of_ble_eq_true rfl) sh_rf dX9_draw_321 ?_
          refine Go_pick [0, 1] (ls' := [(0, gR 106), (3, gI _)]) rfl ?_
          exact drawT (MS_kp (MS_row (i := 123) (r := dwR M q c) hC rfl) k) c
      · skip
        exact absurd h277 (by omega)
    | succ n ih_272 =>
      intro i f he hx
      refine Go_iload 3 rfl dX9_draw_272 ?_
      refine Go_sipush ⟨by decide, by unfold in32; omega⟩ dX9_draw_274 ?_
      refine Go_icmp_ge dX9_draw_277 rfl (fun h277 => ?_) (fun h277 => ?_)
      · skip
        exact absurd h277 (by omega)
      · skip
        refine Go_iload 2 rfl dX9_draw_280 ?_
        refine Go_if_ne dX9_draw_282 rfl (fun h282 => ?_) (fun h282 => ?_)
        · skip
          replace h282 := bI_n.mp h282
          refine Go_iconst (by unfold in32; omega) dX9_draw_302 ?_
          refine Go_goto dX9_draw_303 rfl ?_
          refine Go_istore (ls' := [(4, gI _), (0, gR 106), (3, gI _), (5, gI _)]) dX9_draw_307 (by decide) rfl ?_
          refine Go_iincn i 1 rfl rfl (by omega) 3 (ls' := [(5, gI _), (4, gI _), (0, gR 106), (3, gI _)]) rfl dX9_draw_309 (by decide) rfl ?_
          refine Go_goto dX9_draw_312 rfl ?_
          refine Go_pick [2, 3, 1, 0] (ls' := [(0, gR 106), (3, gI _), (4, gI _), (5, gI _)]) rfl ?_
          exact ih_272 (i + 1) true (by omega) (by simp only [ch9, hx]; simp [h282])
        · skip
          replace h282 := bI_0.mp h282
          refine Go_aload_n 0 rfl rfl dX9_draw_285 ?_
          refine Go_getR (c' := 109) faX9_17 sh_106 (pt_106_3 (M := M) hC.1) dX9_draw_286 ?_
          refine Go_iload 3 rfl dX9_draw_289 ?_
          refine Go_ialoadv i (v := M 109 (i)) rfl sh_109 rfl (by omega) dX9_draw_291 ?_
          refine Go_aload_n 0 rfl rfl dX9_draw_292 ?_
          refine Go_getR (c' := 123) faX9_63 sh_106 (pt_106_20 (M := M) hC.1) dX9_draw_293 ?_
          refine Go_iload 3 rfl dX9_draw_296 ?_
          refine Go_ialoadv i (v := dwR M q c (i)) rfl sh_123 rfl (by omega) dX9_draw_298 ?_
          refine Go_icmp_eq dX9_draw_299 rfl (fun h299 => ?_) (fun h299 => ?_)
          · skip
            refine Go_iconst (by unfold in32; omega) dX9_draw_306 ?_
            refine Go_istore (ls' := [(4, gI _), (0, gR 106), (3, gI _), (5, gI _)]) dX9_draw_307 (by decide) rfl ?_
            refine Go_iincn i 1 rfl rfl (by omega) 3 (ls' := [(5, gI _), (4, gI _), (0, gR 106), (3, gI _)]) rfl dX9_draw_309 (by decide) rfl ?_
            refine Go_goto dX9_draw_312 rfl ?_
            refine Go_pick [2, 3, 1, 0] (ls' := [(0, gR 106), (3, gI _), (4, gI _), (5, gI _)]) rfl ?_
            exact ih_272 (i + 1) false (by omega) (by simp only [ch9, hx]; simp [h282, h299])
          · skip
            refine Go_iconst (by unfold in32; omega) dX9_draw_302 ?_
            refine Go_goto dX9_draw_303 rfl ?_
            refine Go_istore (ls' := [(4, gI _), (0, gR 106), (3, gI _), (5, gI _)]) dX9_draw_307 (by decide) rfl ?_
            refine Go_iincn i 1 rfl rfl (by omega) 3 (ls' := [(5, gI _), (4, gI _), (0, gR 106), (3, gI _)]) rfl dX9_draw_309 (by decide) rfl ?_
            refine Go_goto dX9_draw_312 rfl ?_
            refine Go_pick [2, 3, 1, 0] (ls' := [(0, gR 106), (3, gI _), (4, gI _), (5, gI _)]) rfl ?_
            exact ih_272 (i + 1) true (by omega) (by simp only [ch9, hx]; simp [h299])
  have loop_179 : ∀ (n : Nat) (r : Nat) (y : Nat → Int), r + n = c → pf9 (mpW M q) (cyS (M 109) (M 123) 144) r = y → Go D ca none (gRm mX9_draw (SH.length - SH.length) (gSz SH - gSz SH)) mX9_draw 179 [(0, gR 106), (1, gI (q : Int)), (3, gI (c : Int)), (4, gI (r : Int))] [] SH (gSet M 123 y) [gI (c : Int)] SH (dwM M q c k) := by
    intro n
    induction n with
    | zero =>
      intro r y he hx
      have er : r = c := by omega
      subst er
      refine Go_M (M2 := gSet M 123 (dwR M q r)) (by rw [← hx]; rfl) ?_
      refine Go_iload 3 rfl dX9_draw_179 ?_
      refine Go_iload_n 2 rfl rfl dX9_draw_181 ?_
      refine Go_icmp_ge dX9_draw_182 rfl (fun h182 => ?_) (fun h182 => ?_)
      · skip
        refine Go_iconst (by unfold in32; omega) dX9_draw_266 ?_
        refine Go_istore (ls' := [(4, gI _), (0, gR 106), (1, gI _), (3, gI _)]) dX9_draw_267 (by decide) rfl ?_
        refine Go_iconst (by unfold in32; omega) dX9_draw_269 ?_
        refine Go_istore (ls' := [(5, gI _), (4, gI _), (0, gR 106), (1, gI _), (3, gI _)]) dX9_draw_270 (by decide) rfl ?_
        refine Go_pick [2, 4, 1, 0] (ls' := [(0, gR 106), (3, gI _), (4, gI _), (5, gI _)]) rfl ?_
        exact loop_272 144 0 false (by omega) rfl
      · skip
        exact absurd h182 (by omega)
    | succ n ih_179 =>
      intro r y he hx
      obtain ⟨hr20, hrs, ⟨ha0, ha1⟩, ⟨hb0, hb1⟩, hab, hl0, hl1⟩ := hok r (by omega)
      generalize eA : mpW M q (r * 3) = A at ha0 ha1 hab
      obtain ⟨a, rfl⟩ := Int.eq_ofNat_of_zero_le ha0
      generalize eB : mpW M q (r * 3 + 1) = B at hb0 hb1 hab
      obtain ⟨b, rfl⟩ := Int.eq_ofNat_of_zero_le hb0
      generalize eZ : mpW M q (r * 3 + 2) = l at hl0 hl1
      refine Go_iload 3 rfl dX9_draw_179 ?_
      refine Go_iload_n 2 rfl rfl dX9_draw_181 ?_
      refine Go_icmp_ge dX9_draw_182 rfl (fun h182 => ?_) (fun h182 => ?_)
      · skip
        exact absurd h182 (by omega)
      · skip
        refine Go_bipush ⟨by decide, by unfold in32; omega⟩ dX9_draw_185 ?_
        refine Go_iload_n 1 rfl rfl dX9_draw_187 ?_
        refine Go_imuln 60 q rfl rfl (by omega) dX9_draw_188 ?_
        refine Go_iconst (by unfold in32; omega) dX9_draw_189 ?_
        refine Go_iload 3 rfl dX9_draw_190 ?_
        refine Go_imuln 3 r rfl rfl (by omega) dX9_draw_192 ?_
        refine Go_iaddn (60 * q) (3 * r) rfl rfl (by omega) dX9_draw_193 ?_
        refine Go_istore (ls' := [(5, gI _), (0, gR 106), (1, gI _), (3, gI _), (4, gI _)]) dX9_draw_194 (by decide) rfl ?_
        refine Go_aload_n 1 rfl rfl dX9_draw_196 ?_
        refine Go_getR (c' := 116) faX9_42 sh_106 (pt_106_12 (M := M) hC.1) dX9_draw_197 ?_
        refine Go_iload 0 rfl dX9_draw_200 ?_
        refine Go_laloadv ((60 * q) + (3 * r)) (v := ((a : Nat) : Int)) ((congrArg (M 116) (show 60 * q + 3 * r = 60 * q + r * 3 by omega)).trans eA) sh_116 rfl (by omega) dX9_draw_202 ?_
        refine Go_l2ic (by omega) dX9_draw_203 ?_
        refine Go_istore (ls' := [(6, gI _), (5, gI _), (0, gR 106), (1, gI _), (3, gI _), (4, gI _)]) dX9_draw_204 (by decide) rfl ?_
        refine Go_aload_n 2 rfl rfl dX9_draw_206 ?_
        refine Go_getR (c' := 116) faX9_42 sh_106 (pt_106_12 (M := M) hC.1) dX9_draw_207 ?_
        refine Go_iload 1 rfl dX9_draw_210 ?_
        refine Go_iconst (by unfold in32; omega) dX9_draw_212 ?_
        refine Go_iaddn ((60 * q) + (3 * r)) 1 rfl rfl (by omega) dX9_draw_213 ?_
        refine Go_laloadv (((60 * q) + (3 * r)) + 1) (v := ((b : Nat) : Int)) ((congrArg (M 116) (show 60 * q + 3 * r + 1 = 60 * q + (r * 3 + 1) by omega)).trans eB) sh_116 rfl (by omega) dX9_draw_214 ?_
        refine Go_l2ic (by omega) dX9_draw_215 ?_
        refine Go_istore (ls' := [(7, gI _), (6, gI _), (5, gI _), (0, gR 106), (1, gI _), (3, gI _), (4, gI _)]) dX9_draw_216 (by decide) rfl ?_
        refine Go_aload_n 3 rfl rfl dX9_draw_218 ?_
        refine Go_getR (c' := 116) faX9_42 sh_106 (pt_106_12 (M := M) hC.1) dX9_draw_219 ?_
        refine Go_iload 2 rfl dX9_draw_222 ?_
        refine Go_iconst (by unfold in32; omega) dX9_draw_224 ?_
        refine Go_iaddn ((60 * q) + (3 * r)) 2 rfl rfl (by omega) dX9_draw_225 ?_
        refine Go_laloadv (((60 * q) + (3 * r)) + 2) (v := l) ((congrArg (M 116) (show 60 * q + 3 * r + 2 = 60 * q + (r * 3 + 2) by omega)).trans eZ) sh_116 rfl (by omega) dX9_draw_226 ?_
        refine Go_l2ic (by omega) dX9_draw_227 ?_
        refine Go_istore (ls' := [(8, gI _), (7, gI _), (6, gI _), (5, gI _), (0, gR 106), (1, gI _), (3, gI _), (4, gI _)]) dX9_draw_228 (by decide) rfl ?_
        refine Go_aload_n 4 rfl rfl dX9_draw_230 ?_
        refine Go_getR (c' := 123) faX9_63 sh_106 (pt_106_20 (M := M) hC.1) dX9_draw_231 ?_
        refine Go_bipush ⟨by decide, by unfold in32; omega⟩ dX9_draw_234 ?_
        refine Go_iload 2 rfl dX9_draw_236 ?_
        refine Go_imuln 12 a rfl rfl (by omega) dX9_draw_238 ?_
        refine Go_iload 1 rfl dX9_draw_239 ?_
        refine Go_iaddn (12 * a) b rfl rfl (by omega) dX9_draw_241 ?_
        refine Go_iload 0 rfl dX9_draw_242 ?_
        refine Go_iastoreS ((12 * a) + b) sh_123 rfl (by omega) dX9_draw_244 ?_
        refine Go_aload_n 4 rfl rfl dX9_draw_245 ?_
        refine Go_getR (c' := 123) faX9_63 sh_106 (pt_106_20 (M := M) hC.1) dX9_draw_246 ?_
        refine Go_bipush ⟨by decide, by unfold in32; omega⟩ dX9_draw_249 ?_
        refine Go_iload 1 rfl dX9_draw_251 ?_
        refine Go_imuln 12 b rfl rfl (by omega) dX9_draw_253 ?_
        refine Go_iload 2 rfl dX9_draw_254 ?_
        refine Go_iaddn (12 * b) a rfl rfl (by omega) dX9_draw_256 ?_
        refine Go_iload 0 rfl dX9_draw_257 ?_
        refine Go_iastoreS ((12 * b) + a) sh_123 rfl (by omega) dX9_draw_259 ?_
        refine Go_M (M2 := gSet M 123 (gUp (gUp y (12 * a + b) l) (12 * b + a) l)) (by first | rfl | rw [gSet_ss]) ?_
        refine Go_iincn r 1 rfl rfl (by omega) 7 (ls' := [(4, gI _), (8, gI _), (7, gI _), (6, gI _), (5, gI _), (0, gR 106), (1, gI _), (3, gI _)]) rfl dX9_draw_260 (by decide) rfl ?_
        refine Go_goto dX9_draw_263 rfl ?_
        refine Go_pick [5, 6, 7, 0] (ls' := [(0, gR 106), (1, gI _), (3, gI _), (4, gI _)]) rfl ?_
        exact ih_179 (r + 1) _ (by omega) (by simp only [pf9, hx, eA, eB, eZ, Int.toNat_natCast])
  have loop_148 : ∀ (n : Nat) (i : Nat) (y : Nat → Int), i + n = 144 → cyS (M 109) (M 123) i = y → Go D ca none (gRm mX9_draw (SH.length - SH.length) (gSz SH - gSz SH)) mX9_draw 148 [(0, gR 106), (1, gI (q : Int)), (3, gI (c : Int)), (4, gI (i : Int))] [] SH (gSet M 123 y) [gI (c : Int)] SH (dwM M q c k) := by
    intro n
    induction n with
    | zero =>
      intro i y he hx
      have ei : i = 144 := by omega
      subst ei
      subst hx
      refine Go_iload 3 rfl dX9_draw_148 ?_
      refine Go_sipush ⟨by decide, by unfold in32; omega⟩ dX9_draw_150 ?_
      refine Go_icmp_ge dX9_draw_153 rfl (fun h153 => ?_) (fun h153 => ?_)
      · skip
        refine Go_iconst (by unfold in32; omega) dX9_draw_176 ?_
        refine Go_istore (ls' := [(4, gI _), (0, gR 106), (1, gI _), (3, gI _)]) dX9_draw_177 (by decide) rfl ?_
        refine Go_pick [1, 2, 3, 0] (ls' := [(0, gR 106), (1, gI _), (3, gI _), (4, gI _)]) rfl ?_
        exact loop_179 c 0 _ (by omega) rfl
      · skip
        exact absurd h153 (by omega)
    | succ n ih_148 =>
      intro i y he hx
      refine Go_iload 3 rfl dX9_draw_148 ?_
      refine Go_sipush ⟨by decide, by unfold in32; omega⟩ dX9_draw_150 ?_
      refine Go_icmp_ge dX9_draw_153 rfl (fun h153 => ?_) (fun h153 => ?_)
      · skip
        exact absurd h153 (by omega)
      · skip
        refine Go_aload_n 0 rfl rfl dX9_draw_156 ?_
        refine Go_getR (c' := 123) faX9_63 sh_106 (pt_106_20 (M := M) hC.1) dX9_draw_157 ?_
        refine Go_iload 3 rfl dX9_draw_160 ?_
        refine Go_aload_n 0 rfl rfl dX9_draw_162 ?_
        refine Go_getR (c' := 109) faX9_17 sh_106 (pt_106_3 (M := M) hC.1) dX9_draw_163 ?_
        refine Go_iload 3 rfl dX9_draw_166 ?_
        refine Go_ialoadv i (v := M 109 (i)) rfl sh_109 rfl (by omega) dX9_draw_168 ?_
        refine Go_iastoreS i sh_123 rfl (by omega) dX9_draw_169 ?_
        refine Go_iincn i 1 rfl rfl (by omega) 3 (ls' := [(4, gI _), (0, gR 106), (1, gI _), (3, gI _)]) rfl dX9_draw_170 (by decide) rfl ?_
        refine Go_goto dX9_draw_173 rfl ?_
        refine Go_pick [1, 2, 3, 0] (ls' := [(0, gR 106), (1, gI _), (3, gI _), (4, gI _)]) rfl ?_
        exact ih_148 (i + 1) _ (by omega) (by simp only [cyS, hx])
  have loop_62 : ∀ (n : Nat) (r : Nat), r + n = c → Go D ca none (gRm mX9_draw (SH.length - SH.length) (gSz SH - gSz SH)) mX9_draw 62 [(0, gR 106), (1, gI (q : Int)), (3, gI (c : Int)), (4, gI (r : Int))] [] SH M [gI (c : Int)] SH (dwM M q c k) := by
    intro n
    induction n with
    | zero =>
      intro r he
      have er : r = c := by omega
      subst er
      refine Go_iload 3 rfl dX9_draw_62 ?_
      refine Go_iload_n 2 rfl rfl dX9_draw_64 ?_
      refine Go_icmp_ge dX9_draw_65 rfl (fun h65 => ?_) (fun h65 => ?_)
      · skip
        refine Go_iconst (by unfold in32; omega) dX9_draw_145 ?_
        refine Go_istore (ls' := [(4, gI _), (0, gR 106), (1, gI _), (3, gI _)]) dX9_draw_146 (by decide) rfl ?_
        refine Go_pick [1, 2, 3, 0] (ls' := [(0, gR 106), (1, gI _), (3, gI _), (4, gI _)]) rfl ?_
        refine Go_o 123 ?_
        exact loop_148 144 0 _ (by omega) rfl
      · skip
        exact absurd h65 (by omega)
    | succ n ih_62 =>
      intro r he
      have hr20 := (hok r (by omega)).1
      have hrs := (hok r (by omega)).2.1
      refine Go_iload 3 rfl dX9_draw_62 ?_
      refine Go_iload_n 2 rfl rfl dX9_draw_64 ?_
      refine Go_icmp_ge dX9_draw_65 rfl (fun h65 => ?_) (fun h65 => ?_)
      · skip
        exact absurd h65 (by omega)
      · skip
        refine Go_ldc2 klX9_108 (by unfold in64; omega) dX9_draw_68 ?_
        refine Go_iload 3 rfl dX9_draw_71 ?_
        refine Go_i2l dX9_draw_73 ?_
        refine Go_lmulc (by omega) dX9_draw_74 ?_
        refine Go_ldc2 klX9_110 (by unfold in64; omega) dX9_draw_75 ?_
        refine Go_laddc (by omega) dX9_draw_78 ?_
        refine Go_aload_n 0 rfl rfl dX9_draw_79 ?_
        refine Go_getR (c' := 115) faX9_39 sh_106 (pt_106_11 (M := M) hC.1) dX9_draw_80 ?_
        refine Go_iload_n 1 rfl rfl dX9_draw_83 ?_
        refine Go_ialoadv q (v := ((s : Nat) : Int)) hs sh_115 rfl (by omega) dX9_draw_84 ?_
        refine Go_i2l dX9_draw_85 ?_
        refine Go_lcmp dX9_draw_86 ?_
        refine Go_if_lt dX9_draw_87 rfl (fun h87 => ?_) (fun h87 => ?_)
        · skip
          replace h87 := cmp_lt.mp h87
          refine Go_bipush ⟨by decide, by unfold in32; omega⟩ dX9_draw_93 ?_
          refine Go_iload_n 1 rfl rfl dX9_draw_95 ?_
          refine Go_imuln 60 q rfl rfl (by omega) dX9_draw_96 ?_
          refine Go_iconst (by unfold in32; omega) dX9_draw_97 ?_
          refine Go_iload 3 rfl dX9_draw_98 ?_
          refine Go_imuln 3 r rfl rfl (by omega) dX9_draw_100 ?_
          refine Go_iaddn (60 * q) (3 * r) rfl rfl (by omega) dX9_draw_101 ?_
          refine Go_istore (ls' := [(5, gI _), (0, gR 106), (1, gI _), (3, gI _), (4, gI _)]) dX9_draw_102 (by decide) rfl ?_
          refine Go_aload_n 1 rfl rfl dX9_draw_104 ?_
          refine Go_aload_n 1 rfl rfl dX9_draw_105 ?_
          refine Go_getR (c' := 116) faX9_42 sh_106 (pt_106_12 (M := M) hC.1) dX9_draw_106 ?_
          refine Go_iload 0 rfl dX9_draw_109 ?_
          refine Go_laloadv ((60 * q) + (3 * r)) (v := mpW M q (r * 3)) (congrArg (M 116) (by omega)) sh_116 rfl (by omega) dX9_draw_111 ?_
          refine Go_aload_n 1 rfl rfl dX9_draw_112 ?_
          refine Go_getR (c' := 116) faX9_42 sh_106 (pt_106_12 (M := M) hC.1) dX9_draw_113 ?_
          refine Go_iload 0 rfl dX9_draw_116 ?_
          refine Go_iconst (by unfold in32; omega) dX9_draw_118 ?_
          refine Go_iaddn ((60 * q) + (3 * r)) 1 rfl rfl (by omega) dX9_draw_119 ?_
          refine Go_laloadv (((60 * q) + (3 * r)) + 1) (v := mpW M q (r * 3 + 1)) (congrArg (M 116) (by omega)) sh_116 rfl (by omega) dX9_draw_120 ?_
          refine Go_aload_n 1 rfl rfl dX9_draw_121 ?_
          refine Go_getR (c' := 116) faX9_42 sh_106 (pt_106_12 (M := M) hC.1) dX9_draw_122 ?_
          refine Go_iload 0 rfl dX9_draw_125 ?_
          refine Go_iconst (by unfold in32; omega) dX9_draw_127 ?_
          refine Go_iaddn ((60 * q) + (3 * r)) 2 rfl rfl (by omega) dX9_draw_128 ?_
          refine Go_laloadv (((60 * q) + (3 * r)) + 2) (v := mpW M q (r * 3 + 2)) (congrArg (M 116) (by omega)) sh_116 rfl (by omega) dX9_draw_129 ?_
          refine Go_callVI (q := vwCl[9]) (fX9_isRoad hC _ _ _) cwX9_94 imX9_isRoad rfl rfl ⟨Nat.le_of_ble_eq_true rfl, Nat.le_of_ble_eq_true rfl⟩ sh_106 rfl (Nat.le_of_ble_eq_true rfl) sh_rf dX9_draw_130 ?_
          refine Go_if_ne dX9_draw_133 rfl (fun h133 => ?_) (fun h133 => ?_)
          · skip
            replace h133 := bI_n.mp h133
            refine Go_iincn r 1 rfl rfl (by omega) 4 (ls' := [(4, gI _), (5, gI _), (0, gR 106), (1, gI _), (3, gI _)]) rfl dX9_draw_139 (by decide) rfl ?_
            refine Go_goto dX9_draw_142 rfl ?_
            refine Go_pick [2, 3, 4, 0] (ls' := [(0, gR 106), (1, gI _), (3, gI _), (4, gI _)]) rfl ?_
            exact ih_62 (r + 1) (by omega)
          · skip
            replace h133 := bI_0.mp h133
            exact absurd (hok r (by omega)).2.2 h133
        · skip
          replace h87 := cmp_ge.mp h87
          exfalso; have := (hok r (by omega)).2.1; omega
  refine Go_iload_n 1 rfl rfl dX9_draw_0 ?_
  refine Go_i2l dX9_draw_1 ?_
  refine Go_lconst (v := 0) ⟨rfl, by unfold in64; omega⟩ dX9_draw_2 ?_
  refine Go_ldc2 klX9_108 (by unfold in64; omega) dX9_draw_3 ?_
  refine Go_callSI (fX9_in _ _ _) cwX9_81 smX9_in ⟨Nat.le_of_ble_eq_true rfl, Nat.le_of_ble_eq_true rfl⟩ rfl (Nat.le_of_ble_eq_true rfl) sh_rf dX9_draw_6 ?_
  refine Go_if_eq dX9_draw_9 rfl (fun h9 => ?_) (fun h9 => ?_)
  · skip
    replace h9 := bI_0.mp h9
    exfalso; omega
  · skip
    replace h9 := bI_n.mp h9
    refine Go_iload_n 2 rfl rfl dX9_draw_12 ?_
    refine Go_i2l dX9_draw_13 ?_
    refine Go_lconst (v := 0) ⟨rfl, by unfold in64; omega⟩ dX9_draw_14 ?_
    refine Go_ldc2 klX9_110 (by unfold in64; omega) dX9_draw_15 ?_
    refine Go_callSI (fX9_in _ _ _) cwX9_81 smX9_in ⟨Nat.le_of_ble_eq_true rfl, Nat.le_of_ble_eq_true rfl⟩ rfl (Nat.le_of_ble_eq_true rfl) sh_rf dX9_draw_18 ?_
    refine Go_if_eq dX9_draw_21 rfl (fun h21 => ?_) (fun h21 => ?_)
    · skip
      replace h21 := bI_0.mp h21
      exact absurd hz h21
    · skip
      replace h21 := bI_n.mp h21
      refine Go_iload_n 3 rfl rfl dX9_draw_24 ?_
      refine Go_if_ge dX9_draw_25 rfl (fun h25 => ?_) (fun h25 => ?_)
      · skip
        refine Go_aload_n 0 rfl rfl dX9_draw_30 ?_
        refine Go_getR (c' := 114) faX9_36 sh_106 (pt_106_10 (M := M) hC.1) dX9_draw_31 ?_
        refine Go_iload_n 1 rfl rfl dX9_draw_34 ?_
        refine Go_ialoadv q (v := M 114 (q)) rfl sh_114 rfl (by omega) dX9_draw_35 ?_
        refine Go_iload_n 2 rfl rfl dX9_draw_36 ?_
        refine Go_icmp_eq dX9_draw_37 rfl (fun h37 => ?_) (fun h37 => ?_)
        · skip
          refine Go_iconst (by unfold in32; omega) dX9_draw_59 ?_
          refine Go_istore (ls' := [(4, gI _), (0, gR 106), (1, gI _), (2, gI _), (3, gI _)]) dX9_draw_60 (by decide) rfl ?_
          refine Go_pick [1, 2, 4, 0] (ls' := [(0, gR 106), (1, gI _), (3, gI _), (4, gI _)]) rfl ?_
          exact loop_62 c 0 (by omega)
        · skip
          exact absurd h h37
      · skip
        exfalso; omega
