theorem gPt_8 : ∀ q ∈ gPt, q.1 = 8 → q.2.1 = 0 := by decide +kernel
theorem gPtr_di {M : gMem} {f : Nat → Int} (hp : gPtr M) (hf : f 0 = M 8 0) : gPtr (gSet M 8 f) := gPtr_set hp (fun q hq e0 => by rw [gPt_8 q hq e0]; exact hf)
def clM (M : gMem) (n k : Nat) : gMem := if likeB M (10 + 7 * n) 1 = true then M else gSet M 8 (gUp (gUp (M 8) 1 (((n + 1) % 11 : Nat) : Int)) 2 ((min (k + 1) 10 : Nat) : Int))
def tbM (M : gMem) (n k : Nat) : gMem := cpV (gSet M 8 (gUp (gUp (M 8) 1 (((n + 11 - 1) % 11 : Nat) : Int)) 2 ((k - 1 : Nat) : Int))) 1 (10 + 7 * ((n + 11 - 1) % 11))
set_option maxHeartbeats 4000000 in
set_option maxRecDepth 100000 in
theorem fX2_open {D : va_G} {ca : Nat → ClassId} {M : gMem} (hp : gPtr M) (n : Nat) (hn : M 8 1 = (n : Int)) (h11 : n < 11) : Fn D ca mX2_open [gR 8, gR 1] SH M [] SH (cpV M (10 + 7 * n) 1) := by
  refine Fn_of okX2_open (Nat.le_of_ble_eq_true rfl) (Or.inl ⟨rfl, rfl⟩) (Nat.le_refl _) (Nat.le_refl _) ?_
  refine Go_ls2 (ls' := [(0, gR 8), (1, gR 1)]) rfl ?_
  refine Go_aload_n 0 rfl rfl dX2_open_0 ?_
  refine Go_getR (c' := 9) faX2_13 sh_8 (pt_8_0 (M := M) hp) dX2_open_1 ?_
  refine Go_aload_n 0 rfl rfl dX2_open_4 ?_
  refine Go_getIv (v := (n : Int)) hn faX2_17 sh_8 dX2_open_5 ?_
  refine Go_aaload (c' := (10 + 7 * n)) (C := "BreadOvens$Valley") n sh_9 rfl (pt_pg (M := M) hp h11) rfl (by omega) dX2_open_8 ?_
  refine Go_aload_n 1 rfl rfl dX2_open_9 ?_
  refine Go_callV0 (q := vwCl[6]) (cpP hp n h11) cwX2_25 imX6_copyFrom rfl rfl ⟨Nat.le_of_ble_eq_true rfl, Nat.le_of_ble_eq_true rfl⟩ (sh_pg (by omega)) rfl (Nat.le_of_ble_eq_true rfl) sh_rf dX2_open_10 ?_
  exact Go_ret rfl dX2_open_13
set_option maxHeartbeats 4000000 in
set_option maxRecDepth 100000 in
theorem fX2_close {D : va_G} {ca : Nat → ClassId} {M : gMem} (hp : gPtr M) (n k : Nat) (hn : M 8 1 = (n : Int)) (h11 : n < 11) (hk : M 8 2 = (k : Int)) (h10 : k ≤ 10) : Fn D ca mX2_close [gR 8, gR 1] SH M [gI (bI (¬ likeB M (10 + 7 * n) 1 = true))] SH (clM M n k) := by
  refine Fn_of okX2_close (Nat.le_of_ble_eq_true rfl) (Or.inr (Or.inr (Or.inl ⟨_, rfl, rfl, bI_01 _⟩))) (Nat.le_refl _) (Nat.le_refl _) ?_
  refine Go_ls2 (ls' := [(0, gR 8), (1, gR 1)]) rfl ?_
  refine Go_aload_n 0 rfl rfl dX2_close_0 ?_
  refine Go_getR (c' := 9) faX2_13 sh_8 (pt_8_0 (M := M) hp) dX2_close_1 ?_
  refine Go_aload_n 0 rfl rfl dX2_close_4 ?_
  refine Go_getIv (j := 1) (v := (n : Int)) hn faX2_17 sh_8 dX2_close_5 ?_
  refine Go_aaload (c' := (10 + 7 * n)) (C := "BreadOvens$Valley") n sh_9 rfl (pt_pg (M := M) hp h11) rfl (by omega) dX2_close_8 ?_
  refine Go_aload_n 1 rfl rfl dX2_close_9 ?_
  refine Go_callVI (q := vwCl[6]) (lkP hp n h11) cwX2_29 imX6_isLike rfl rfl ⟨Nat.le_of_ble_eq_true rfl, Nat.le_of_ble_eq_true rfl⟩ (sh_pg (by omega)) rfl (Nat.le_of_ble_eq_true rfl) sh_rf dX2_close_10 ?_
  refine Go_if_eq dX2_close_13 rfl (fun h13 => ?_) (fun h13 => ?_)
  · skip
    replace h13 := bI_0.mp h13
    refine Go_o 8 ?_
    refine Go_aload_n 0 rfl rfl dX2_close_18 ?_
    refine Go_aload_n 0 rfl rfl dX2_close_19 ?_
    refine Go_getIv (j := 1) (v := (n : Int)) hn faX2_17 sh_8 dX2_close_20 ?_
    refine Go_iconst (by unfold in32; omega) dX2_close_23 ?_
    refine Go_iaddn n 1 rfl rfl (by omega) dX2_close_24 ?_
    refine Go_bipush ⟨by decide, by unfold in32; omega⟩ dX2_close_25 ?_
    refine Go_irem (by omega) dX2_close_27 ?_
    refine Go_topI (v := (((n + 1) % 11 : Nat) : Int)) (m32n (a := n + 1) (b := 11) (by omega) (by omega) (by omega)) ?_
    refine Go_putIS fpX2_17 sh_8 dX2_close_28 ?_
    refine Go_aload_n 0 rfl rfl dX2_close_31 ?_
    refine Go_aload_n 0 rfl rfl dX2_close_32 ?_
    refine Go_getIv (j := 2) (v := (k : Int)) hk faX2_21 sh_8 dX2_close_33 ?_
    refine Go_iconst (by unfold in32; omega) dX2_close_36 ?_
    refine Go_iaddn k 1 rfl rfl (by omega) dX2_close_37 ?_
    refine Go_bipush ⟨by decide, by unfold in32; omega⟩ dX2_close_38 ?_
    refine Go_mminI cwX2_33 ⟨Nat.le_of_ble_eq_true rfl, Nat.le_of_ble_eq_true rfl⟩ ⟨Nat.le_refl _, Nat.le_refl _⟩ dX2_close_40 ?_
    refine Go_topI (v := ((min (k + 1) 10 : Nat) : Int)) (by omega) ?_
    refine Go_putIS fpX2_21 sh_8 dX2_close_43 ?_
    refine Go_iconst (by unfold in32; omega) dX2_close_46 ?_
    rw [show clM M n k = _ from if_neg h13]
    exact Go_ret (by rw [bI_t h13]) dX2_close_47
  · skip
    replace h13 := bI_n.mp h13
    refine Go_iconst (by unfold in32; omega) dX2_close_16 ?_
    rw [show clM M n k = M from if_pos h13]
    exact Go_ret (by rw [bI_f (fun q => q h13)]) dX2_close_17
set_option maxHeartbeats 4000000 in
set_option maxRecDepth 100000 in
theorem fX2_turnBack {D : va_G} {ca : Nat → ClassId} {M : gMem} (hp : gPtr M) (n k : Nat) (hn : M 8 1 = (n : Int)) (h11 : n < 11) (hk : M 8 2 = (k : Int)) (h10 : k ≤ 10) (h1 : 1 ≤ k) : Fn D ca mX2_turnBack [gR 8, gR 1] SH M [] SH (tbM M n k) := by
  refine Fn_of okX2_turnBack (Nat.le_of_ble_eq_true rfl) (Or.inl ⟨rfl, rfl⟩) (Nat.le_refl _) (Nat.le_refl _) ?_
  refine Go_ls2 (ls' := [(0, gR 8), (1, gR 1)]) rfl ?_
  refine Go_o 8 ?_
  refine Go_aload_n 0 rfl rfl dX2_turnBack_0 ?_
  refine Go_aload_n 0 rfl rfl dX2_turnBack_1 ?_
  refine Go_getIv (j := 1) (v := (n : Int)) hn faX2_17 sh_8 dX2_turnBack_2 ?_
  refine Go_bipush ⟨by decide, by unfold in32; omega⟩ dX2_turnBack_5 ?_
  refine Go_iaddn n 11 rfl rfl (by omega) dX2_turnBack_7 ?_
  refine Go_iconst (by unfold in32; omega) dX2_turnBack_8 ?_
  refine Go_isubn (n + 11) 1 rfl rfl (by omega) dX2_turnBack_9 ?_
  refine Go_bipush ⟨by decide, by unfold in32; omega⟩ dX2_turnBack_10 ?_
  refine Go_irem (by omega) dX2_turnBack_12 ?_
  refine Go_topI (v := (((n + 11 - 1) % 11 : Nat) : Int)) (m32n (a := n + 11 - 1) (b := 11) (by omega) (by omega) (by omega)) ?_
  refine Go_putIS fpX2_17 sh_8 dX2_turnBack_13 ?_
  refine Go_aload_n 0 rfl rfl dX2_turnBack_16 ?_
  refine Go_dupR dX2_turnBack_17 ?_
  refine Go_getIv (j := 2) (v := (k : Int)) hk faX2_21 sh_8 dX2_turnBack_18 ?_
  refine Go_iconst (by unfold in32; omega) dX2_turnBack_21 ?_
  refine Go_isubn k 1 rfl rfl (by omega) dX2_turnBack_22 ?_
  refine Go_putIS fpX2_21 sh_8 dX2_turnBack_23 ?_
  refine Go_aload_n 1 rfl rfl dX2_turnBack_26 ?_
  refine Go_aload_n 0 rfl rfl dX2_turnBack_27 ?_
  refine Go_getR (c' := 9) faX2_13 sh_8 (pt_8_0 (M := M) hp) dX2_turnBack_28 ?_
  refine Go_aload_n 0 rfl rfl dX2_turnBack_31 ?_
  refine Go_getIv (j := 1) (v := (((n + 11 - 1) % 11 : Nat) : Int)) rfl faX2_17 sh_8 dX2_turnBack_32 ?_
  refine Go_aaload (c' := (10 + 7 * ((n + 11 - 1) % 11))) (C := "BreadOvens$Valley") (((n + 11 - 1) % 11)) sh_9 rfl (pt_pg (M := M) hp (n := (n + 11 - 1) % 11) (by omega)) rfl (by omega) dX2_turnBack_35 ?_
  refine Go_callV0 (q := vwCl[6]) (cpQ (gPtr_di (f := gUp (gUp (M 8) 1 (((n + 11 - 1) % 11 : Nat) : Int)) 2 ((k - 1 : Nat) : Int)) hp rfl) ((n + 11 - 1) % 11) (by omega)) cwX2_25 imX6_copyFrom rfl rfl ⟨Nat.le_of_ble_eq_true rfl, Nat.le_of_ble_eq_true rfl⟩ sh_1 rfl (Nat.le_of_ble_eq_true rfl) sh_rf dX2_turnBack_36 ?_
  exact Go_ret rfl dX2_turnBack_39
def rnW (w : Nat → Int) : Nat → (Nat → Int)
  | 0 => w
  | i + 1 => gUp (rnW w i) i 0
def rnM (M : gMem) (c : Nat) (z n : Int) : gMem := gSet (gSet M c (gUp (gUp (M c) 0 z) 1 n)) (c + 1) (rnW (M (c + 1)) 60)
def wrF (z v : Int) : Int := if z = 0 then b32 (w32 v) else if z = 1 then w32 v else v
def wrM (M : gMem) (c i : Nat) (v : Int) : gMem := gSet M (c + 1) (gUp (M (c + 1)) i (wrF (M c 0) v))
/-- road r of a map is one that road() takes -/
abbrev tkP (nv : Nat) (w : Nat → Int) (r : Nat) : Prop := (0 ≤ w (r * 3) ∧ w (r * 3) ≤ (nv : Int) - 1) ∧ (0 ≤ w (r * 3 + 1) ∧ w (r * 3 + 1) ≤ (nv : Int) - 1) ∧ w (r * 3) ≠ w (r * 3 + 1) ∧ 0 ≤ w (r * 3 + 2) ∧ w (r * 3 + 2) ≤ 1000
def rfF (nv : Nat) (z : Int) (w : Nat → Int) (n : Nat) : Nat → Nat → Int
  | 0, r => if n ≤ r then 0 else -12
  | j + 1, r => if n ≤ r then 0 else if (((r + 1) * 3 : Nat) : Int) ≤ z then (if tkP nv w r then rfF nv z w n j (r + 1) else -21) else -12
def rtF (nv : Nat) (M : gMem) (c : Nat) (lane : Int) (n : Nat) : Int := if M c 0 = -1 then -11 else if M c 0 = lane then rfF nv (M c 1) (M (c + 1)) n 20 0 else -13
def pfS (w L : Nat → Int) : Nat → (Nat → Int)
  | 0 => L
  | r + 1 => gUp (gUp (pfS w L r) ((w (r * 3)).toNat * 12 + (w (r * 3 + 1)).toNat) (w (r * 3 + 2))) ((w (r * 3 + 1)).toNat * 12 + (w (r * 3)).toNat) (w (r * 3 + 2))
set_option maxHeartbeats 4000000 in
set_option maxRecDepth 100000 in
theorem rn_98 {D : va_G} {ca : Nat → ClassId} {M : gMem} (hp : gPtr M) (z n : Int) : Fn D ca mX1_renew [gR 98, gI z, gI n] SH M [] SH (rnM M 98 z n) := by
  refine Fn_of okX1_renew (Nat.le_of_ble_eq_true rfl) (Or.inl ⟨rfl, rfl⟩) (Nat.le_refl _) (Nat.le_refl _) ?_
  refine Go_ls2 (ls' := [(0, gR 98), (1, gI _), (2, gI _)]) rfl ?_
  refine Go_o 98 ?_
  have loop_12 : ∀ (k : Nat) (i : Nat) (w : Nat → Int), i + k = 60 → rnW (M 99) i = w → Go D ca none (gRm mX1_renew (SH.length - SH.length) (gSz SH - gSz SH)) mX1_renew 12 [(0, gR 98), (3, gI (i : Int))] [] SH (gSet (gSet M 98 (gUp (gUp (M 98) 0 z) 1 n)) 99 w) [] SH (rnM M 98 z n) := by
    intro k
    induction k with
    | zero =>
      intro i w he hx
      have ei : i = 60 := by omega
      subst ei
      refine Go_iload_n 1 rfl rfl dX1_renew_12 ?_
      refine Go_bipush ⟨by decide, by unfold in32; omega⟩ dX1_renew_13 ?_
      refine Go_icmp_ge dX1_renew_15 rfl (fun h15 => ?_) (fun h15 => ?_)
      · skip
        subst hx
        exact Go_ret rfl dX1_renew_31
      · skip
        exact absurd h15 (by omega)
    | succ k ih_12 =>
      intro i w he hx
      refine Go_iload_n 1 rfl rfl dX1_renew_12 ?_
      refine Go_bipush ⟨by decide, by unfold in32; omega⟩ dX1_renew_13 ?_
      refine Go_icmp_ge dX1_renew_15 rfl (fun h15 => ?_) (fun h15 => ?_)
      · skip
        exact absurd h15 (by omega)
      · skip
        refine Go_aload_n 0 rfl rfl dX1_renew_18 ?_
        refine Go_getR (c' := 99) faX1_18 sh_98 (pt_98_2 (M := M) hp) dX1_renew_19 ?_
        refine Go_iload_n 1 rfl rfl dX1_renew_22 ?_
        refine Go_lconst (v := 0) ⟨rfl, by unfold in64; omega⟩ dX1_renew_23 ?_
        refine Go_lastoreS i sh_99 rfl (by omega) dX1_renew_24 ?_
        refine Go_iincn i 1 rfl rfl (by omega) 1 (ls' := [(3, gI _), (0, gR 98)]) rfl dX1_renew_25 (by decide) rfl ?_
        refine Go_goto dX1_renew_28 rfl ?_
        refine Go_pick [1, 0] (ls' := [(0, gR 98), (3, gI _)]) rfl ?_
        exact ih_12 (i + 1) _ (by omega) (by simp only [rnW, hx])
  refine Go_aload_n 0 rfl rfl dX1_renew_0 ?_
  refine Go_iload_n 1 rfl rfl dX1_renew_1 ?_
  refine Go_putIS fpX1_9 sh_98 dX1_renew_2 ?_
  refine Go_aload_n 0 rfl rfl dX1_renew_5 ?_
  refine Go_iload_n 2 rfl rfl dX1_renew_6 ?_
  refine Go_putIS fpX1_15 sh_98 dX1_renew_7 ?_
  refine Go_o 99 ?_
  refine Go_iconst (by unfold in32; omega) dX1_renew_10 ?_
  refine Go_istore_n (ls' := [(3, gI _), (0, gR 98), (1, gI _), (2, gI _)]) rfl dX1_renew_11 (by decide) rfl ?_
  refine Go_pick [1, 0] (ls' := [(0, gR 98), (3, gI _)]) rfl ?_
  exact loop_12 60 0 _ (by omega) rfl
set_option maxHeartbeats 4000000 in
set_option maxRecDepth 100000 in
theorem wr_98 {D : va_G} {ca : Nat → ClassId} {M : gMem} (hp : gPtr M) (i : Nat) (hi : i < 60) (v : Int) : Fn D ca mX1_write [gR 98, gI (i : Int), gJ v] SH M [] SH (wrM M 98 i v) := by
  refine Fn_of okX1_write (Nat.le_of_ble_eq_true rfl) (Or.inl ⟨rfl, rfl⟩) (Nat.le_refl _) (Nat.le_refl _) ?_
  refine Go_ls2 (ls' := [(0, gR 98), (1, gI _), (2, gJ _)]) rfl ?_
  refine Go_aload_n 0 rfl rfl dX1_write_0 ?_
  refine Go_getIv (v := M 98 0) rfl faX1_9 sh_98 dX1_write_1 ?_
  by_cases k0 : M 98 0 = 0
  · refine Go_lookup (off := 28) (tgt := 32) dX1_write_4 (by decide) (by rw [k0]; rfl) rfl ?_
    refine Go_aload_n 0 rfl rfl dX1_write_32 ?_
    refine Go_getR (c' := 99) faX1_18 sh_98 (pt_98_2 (M := M) hp) dX1_write_33 ?_
    refine Go_iload_n 1 rfl rfl dX1_write_36 ?_
    refine Go_lload_n 2 rfl rfl dX1_write_37 ?_
    refine Go_l2i dX1_write_38 ?_
    refine Go_i2b dX1_write_39 ?_
    refine Go_i2l dX1_write_40 ?_
    refine Go_lastore i sh_99 rfl (by omega) dX1_write_41 ?_
    refine Go_M (M2 := wrM M 98 i v) (by unfold wrM; rw [show wrF (M 98 0) v = _ from if_pos k0]) ?_
    refine Go_goto dX1_write_42 rfl ?_
    exact Go_ret rfl dX1_write_64
  by_cases k1 : M 98 0 = 1
  · refine Go_lookup (off := 41) (tgt := 45) dX1_write_4 (by decide) (by rw [k1]; rfl) rfl ?_
    refine Go_aload_n 0 rfl rfl dX1_write_45 ?_
    refine Go_getR (c' := 99) faX1_18 sh_98 (pt_98_2 (M := M) hp) dX1_write_46 ?_
    refine Go_iload_n 1 rfl rfl dX1_write_49 ?_
    refine Go_lload_n 2 rfl rfl dX1_write_50 ?_
    refine Go_l2i dX1_write_51 ?_
    refine Go_i2l dX1_write_52 ?_
    refine Go_lastore i sh_99 rfl (by omega) dX1_write_53 ?_
    refine Go_M (M2 := wrM M 98 i v) (by unfold wrM; rw [show wrF (M 98 0) v = _ from (if_neg k0).trans (if_pos k1)]) ?_
    refine Go_goto dX1_write_54 rfl ?_
    exact Go_ret rfl dX1_write_64
  · refine Go_lookup (off := 53) (tgt := 57) dX1_write_4 (by decide) (by have j1 : ¬ (0 : Int) = M 98 0 := fun q => k0 q.symm; have j4 : ¬ (1 : Int) = M 98 0 := fun q => k1 q.symm; simp [Op.lookupswitch.offset, j1, j4]) rfl ?_
    refine Go_aload_n 0 rfl rfl dX1_write_57 ?_
    refine Go_getR (c' := 99) faX1_18 sh_98 (pt_98_2 (M := M) hp) dX1_write_58 ?_
    refine Go_iload_n 1 rfl rfl dX1_write_61 ?_
    refine Go_lload_n 2 rfl rfl dX1_write_62 ?_
    refine Go_lastore i sh_99 rfl (by omega) dX1_write_63 ?_
    refine Go_M (M2 := wrM M 98 i v) (by unfold wrM; rw [show wrF (M 98 0) v = _ from (if_neg k0).trans (if_neg k1)]) ?_
    exact Go_ret rfl dX1_write_64
set_option maxHeartbeats 4000000 in
set_option maxRecDepth 100000 in
theorem hr_98 {D : va_G} {ca : Nat → ClassId} {M : gMem} (r : Nat) (hr : r < 2147483648) : Fn D ca mX1_holdsRoad [gR 98, gI (r : Int)] SH M [gI (bI (r < 20 ∧ (((r + 1) * 3 : Nat) : Int) ≤ M 98 1))] SH (M) := by
  refine Fn_of okX1_holdsRoad (Nat.le_of_ble_eq_true rfl) (Or.inr (Or.inr (Or.inl ⟨_, rfl, rfl, bI_01 _⟩))) (Nat.le_refl _) (Nat.le_refl _) ?_
  refine Go_ls2 (ls' := [(0, gR 98), (1, gI _)]) rfl ?_
  refine Go_iload_n 1 rfl rfl dX1_holdsRoad_0 ?_
  refine Go_bipush ⟨by decide, by unfold in32; omega⟩ dX1_holdsRoad_1 ?_
  refine Go_icmp_ge dX1_holdsRoad_3 rfl (fun h3 => ?_) (fun h3 => ?_)
  · skip
    refine Go_iconst (by unfold in32; omega) dX1_holdsRoad_22 ?_
    exact Go_ret (by rw [bI_f (by omega)]) dX1_holdsRoad_23
  · skip
    refine Go_iload_n 1 rfl rfl dX1_holdsRoad_6 ?_
    refine Go_iconst (by unfold in32; omega) dX1_holdsRoad_7 ?_
    refine Go_iaddn r 1 rfl rfl (by omega) dX1_holdsRoad_8 ?_
    refine Go_iconst (by unfold in32; omega) dX1_holdsRoad_9 ?_
    refine Go_imuln (r + 1) 3 rfl rfl (by omega) dX1_holdsRoad_10 ?_
    refine Go_aload_n 0 rfl rfl dX1_holdsRoad_11 ?_
    refine Go_getIv (v := M 98 1) rfl faX1_15 sh_98 dX1_holdsRoad_12 ?_
    refine Go_icmp_gt dX1_holdsRoad_15 rfl (fun h15 => ?_) (fun h15 => ?_)
    · skip
      refine Go_iconst (by unfold in32; omega) dX1_holdsRoad_22 ?_
      exact Go_ret (by rw [bI_f (by omega)]) dX1_holdsRoad_23
    · skip
      refine Go_iconst (by unfold in32; omega) dX1_holdsRoad_18 ?_
      refine Go_goto dX1_holdsRoad_19 rfl ?_
      exact Go_ret (by rw [bI_t (by omega)]) dX1_holdsRoad_23
set_option maxHeartbeats 4000000 in
set_option maxRecDepth 100000 in
theorem rt_98 {D : va_G} {ca : Nat → ClassId} {M : gMem} {nv np : Nat} (hC : CS M nv np) (lane : Int) (n : Nat) : Fn D ca mX8_refusalToDraw [gR 0, gR 98, gI lane, gI (n : Int)] SH M [gI (rtF nv M 98 lane n)] SH (M) := by
  refine Fn_of okX8_refusalToDraw (Nat.le_of_ble_eq_true rfl) (Or.inr (Or.inl ⟨_, rfl, rfl⟩)) (Nat.le_refl _) (Nat.le_refl _) ?_
  refine Go_ls2 (ls' := [(0, gR 0), (1, gR 98), (2, gI _), (3, gI _)]) rfl ?_
  have hv12 := hC.2.2.1
  have hn10 := hC.2.2.2.2
  have loop_25 : ∀ (k : Nat) (r : Nat), r + k = 20 → Go D ca none (gRm mX8_refusalToDraw (SH.length - SH.length) (gSz SH - gSz SH)) mX8_refusalToDraw 25 [(0, gR 0), (1, gR 98), (3, gI (n : Int)), (4, gI (r : Int))] [] SH M [gI (rfF nv (M 98 1) (M 99) n k r)] SH (M) := by
    intro k
    induction k with
    | zero =>
      intro r he
      refine Go_iload 3 rfl dX8_refusalToDraw_25 ?_
      refine Go_iload_n 2 rfl rfl dX8_refusalToDraw_27 ?_
      refine Go_icmp_ge dX8_refusalToDraw_28 rfl (fun h28 => ?_) (fun h28 => ?_)
      · skip
        refine Go_iconst (by unfold in32; omega) dX8_refusalToDraw_93 ?_
        exact Go_ret (by first | rw [show rfF nv (M 98 1) (M 99) n 0 r = 0 from if_pos (by omega)] | rw [show rfF nv (M 98 1) (M 99) n (k + 1) r = 0 from if_pos (by omega)]) dX8_refusalToDraw_94
      · skip
        refine Go_aload_n 1 rfl rfl dX8_refusalToDraw_31 ?_
        refine Go_iload 3 rfl dX8_refusalToDraw_32 ?_
        refine Go_callVI (q := vwCl[1]) (hr_98 r (by omega)) cwX8_337 imX1_holdsRoad rfl rfl ⟨Nat.le_of_ble_eq_true rfl, Nat.le_of_ble_eq_true rfl⟩ sh_98 rfl (Nat.le_of_ble_eq_true rfl) sh_rf dX8_refusalToDraw_34 ?_
        refine Go_if_ne dX8_refusalToDraw_37 rfl (fun h37 => ?_) (fun h37 => ?_)
        · skip
          replace h37 := bI_n.mp h37
          exact absurd h37 (by omega)
        · skip
          replace h37 := bI_0.mp h37
          refine Go_bipush ⟨by decide, by unfold in32; omega⟩ dX8_refusalToDraw_40 ?_
          exact Go_ret (by first | rw [show rfF nv (M 98 1) (M 99) n 0 r = -12 from if_neg (by omega)] | rw [show rfF nv (M 98 1) (M 99) n (k + 1) r = -12 from (if_neg (by omega)).trans (if_neg (by omega))]) dX8_refusalToDraw_42
    | succ k ih_25 =>
      intro r he
      refine Go_iload 3 rfl dX8_refusalToDraw_25 ?_
      refine Go_iload_n 2 rfl rfl dX8_refusalToDraw_27 ?_
      refine Go_icmp_ge dX8_refusalToDraw_28 rfl (fun h28 => ?_) (fun h28 => ?_)
      · skip
        refine Go_iconst (by unfold in32; omega) dX8_refusalToDraw_93 ?_
        exact Go_ret (by first | rw [show rfF nv (M 98 1) (M 99) n 0 r = 0 from if_pos (by omega)] | rw [show rfF nv (M 98 1) (M 99) n (k + 1) r = 0 from if_pos (by omega)]) dX8_refusalToDraw_94
      · skip
        refine Go_aload_n 1 rfl rfl dX8_refusalToDraw_31 ?_
        refine Go_iload 3 rfl dX8_refusalToDraw_32 ?_
        refine Go_callVI (q := vwCl[1]) (hr_98 r (by omega)) cwX8_337 imX1_holdsRoad rfl rfl ⟨Nat.le_of_ble_eq_true rfl, Nat.le_of_ble_eq_true rfl⟩ sh_98 rfl (Nat.le_of_ble_eq_true rfl) sh_rf dX8_refusalToDraw_34 ?_
        refine Go_if_ne dX8_refusalToDraw_37 rfl (fun h37 => ?_) (fun h37 => ?_)
        · skip
          replace h37 := bI_n.mp h37
          refine Go_iload 3 rfl dX8_refusalToDraw_43 ?_
          refine Go_iconst (by unfold in32; omega) dX8_refusalToDraw_45 ?_
          refine Go_imuln r 3 rfl rfl (by omega) dX8_refusalToDraw_46 ?_
          refine Go_istore (ls' := [(5, gI _), (0, gR 0), (1, gR 98), (3, gI _), (4, gI _)]) dX8_refusalToDraw_47 (by decide) rfl ?_
          refine Go_aload_n 1 rfl rfl dX8_refusalToDraw_49 ?_
          refine Go_getR (c' := 1) faX8_14 sh_0 (pt_0_0 (M := M) hC.1) dX8_refusalToDraw_50 ?_
          refine Go_aload_n 2 rfl rfl dX8_refusalToDraw_53 ?_
          refine Go_getR (c' := 99) faX8_340 sh_98 (pt_98_2 (M := M) hC.1) dX8_refusalToDraw_54 ?_
          refine Go_iload 0 rfl dX8_refusalToDraw_57 ?_
          refine Go_laloadv (r * 3) (v := M 99 (r * 3)) rfl sh_99 rfl (by omega) dX8_refusalToDraw_59 ?_
          refine Go_aload_n 2 rfl rfl dX8_refusalToDraw_60 ?_
          refine Go_getR (c' := 99) faX8_340 sh_98 (pt_98_2 (M := M) hC.1) dX8_refusalToDraw_61 ?_
          refine Go_iload 0 rfl dX8_refusalToDraw_64 ?_
          refine Go_iconst (by unfold in32; omega) dX8_refusalToDraw_66 ?_
          refine Go_iaddn (r * 3) 1 rfl rfl (by omega) dX8_refusalToDraw_67 ?_
          refine Go_laloadv ((r * 3) + 1) (v := M 99 ((r * 3) + 1)) rfl sh_99 rfl (by omega) dX8_refusalToDraw_68 ?_
          refine Go_aload_n 2 rfl rfl dX8_refusalToDraw_69 ?_
          refine Go_getR (c' := 99) faX8_340 sh_98 (pt_98_2 (M := M) hC.1) dX8_refusalToDraw_70 ?_
          refine Go_iload 0 rfl dX8_refusalToDraw_73 ?_
          refine Go_iconst (by unfold in32; omega) dX8_refusalToDraw_75 ?_
          refine Go_iaddn (r * 3) 2 rfl rfl (by omega) dX8_refusalToDraw_76 ?_
          refine Go_laloadv ((r * 3) + 2) (v := M 99 ((r * 3) + 2)) rfl sh_99 rfl (by omega) dX8_refusalToDraw_77 ?_
          refine Go_callVI (q := vwCl[6]) (fX6_takesRoad hC _ _ _) cwX8_105 imX6_takesRoad rfl rfl ⟨Nat.le_of_ble_eq_true rfl, Nat.le_of_ble_eq_true rfl⟩ sh_1 rfl (Nat.le_of_ble_eq_true rfl) sh_rf dX8_refusalToDraw_78 ?_
          refine Go_if_ne dX8_refusalToDraw_81 rfl (fun h81 => ?_) (fun h81 => ?_)
          · skip
            replace h81 := bI_n.mp h81
            refine Go_iincn r 1 rfl rfl (by omega) 4 (ls' := [(4, gI _), (5, gI _), (0, gR 0), (1, gR 98), (3, gI _)]) rfl dX8_refusalToDraw_87 (by decide) rfl ?_
            refine Go_goto dX8_refusalToDraw_90 rfl ?_
            refine Go_pick [2, 3, 4, 0] (ls' := [(0, gR 0), (1, gR 98), (3, gI _), (4, gI _)]) rfl ?_
            rw [show rfF nv (M 98 1) (M 99) n (k + 1) r = rfF nv (M 98 1) (M 99) n k (r + 1) from (if_neg (by omega)).trans ((if_pos (by omega)).trans (if_pos h81))]
            exact ih_25 (r + 1) (by omega)
          · skip
            replace h81 := bI_0.mp h81
            refine Go_bipush ⟨by decide, by unfold in32; omega⟩ dX8_refusalToDraw_84 ?_
            exact Go_ret (by rw [show rfF nv (M 98 1) (M 99) n (k + 1) r = -21 from (if_neg (by omega)).trans ((if_pos (by omega)).trans (if_neg h81))]) dX8_refusalToDraw_86
        · skip
          replace h37 := bI_0.mp h37
          refine Go_bipush ⟨by decide, by unfold in32; omega⟩ dX8_refusalToDraw_40 ?_
          exact Go_ret (by first | rw [show rfF nv (M 98 1) (M 99) n 0 r = -12 from if_neg (by omega)] | rw [show rfF nv (M 98 1) (M 99) n (k + 1) r = -12 from (if_neg (by omega)).trans (if_neg (by omega))]) dX8_refusalToDraw_42
  refine Go_aload_n 1 rfl rfl dX8_refusalToDraw_0 ?_
  refine Go_getIv (v := M 98 0) rfl faX8_154 sh_98 dX8_refusalToDraw_1 ?_
  refine Go_iconst (by unfold in32; omega) dX8_refusalToDraw_4 ?_
  refine Go_icmp_ne dX8_refusalToDraw_5 rfl (fun h5 => ?_) (fun h5 => ?_)
  · skip
    refine Go_aload_n 1 rfl rfl dX8_refusalToDraw_11 ?_
    refine Go_getIv (v := M 98 0) rfl faX8_154 sh_98 dX8_refusalToDraw_12 ?_
    refine Go_iload_n 2 rfl rfl dX8_refusalToDraw_15 ?_
    refine Go_icmp_eq dX8_refusalToDraw_16 rfl (fun h16 => ?_) (fun h16 => ?_)
    · skip
      refine Go_iconst (by unfold in32; omega) dX8_refusalToDraw_22 ?_
      refine Go_istore (ls' := [(4, gI _), (0, gR 0), (1, gR 98), (2, gI _), (3, gI _)]) dX8_refusalToDraw_23 (by decide) rfl ?_
      refine Go_pick [1, 2, 4, 0] (ls' := [(0, gR 0), (1, gR 98), (3, gI _), (4, gI _)]) rfl ?_
      rw [show rtF nv M 98 lane n = rfF nv (M 98 1) (M 99) n 20 0 from (if_neg h5).trans (if_pos h16)]
      exact loop_25 20 0 (by omega)
    · skip
      refine Go_bipush ⟨by decide, by unfold in32; omega⟩ dX8_refusalToDraw_19 ?_
      exact Go_ret (by unfold rtF; rw [if_neg h5, if_neg h16]) dX8_refusalToDraw_21
  · skip
    refine Go_bipush ⟨by decide, by unfold in32; omega⟩ dX8_refusalToDraw_8 ?_
    exact Go_ret (by unfold rtF; rw [if_pos h5]) dX8_refusalToDraw_10
set_option maxHeartbeats 4000000 in
set_option maxRecDepth 100000 in
theorem pf_98 {D : va_G} {ca : Nat → ClassId} {M : gMem} {nv np : Nat} (hC : CS M nv np) (L : Nat → Int) (n : Nat) (hn : n < 2147483648) (hok : ∀ r, r < n → r < 20 ∧ (((r + 1) * 3 : Nat) : Int) ≤ M 98 1 ∧ tkP nv (M 99) r) : Fn D ca mX8_paveFrom [gR 0, gR 98, gI (n : Int)] SH (gSet M 3 L) [] SH (gSet M 3 (pfS (M 99) L n)) := by
  refine Fn_of okX8_paveFrom (Nat.le_of_ble_eq_true rfl) (Or.inl ⟨rfl, rfl⟩) (Nat.le_refl _) (Nat.le_refl _) ?_
  refine Go_ls2 (ls' := [(0, gR 0), (1, gR 98), (2, gI _)]) rfl ?_
  have hv12 := hC.2.2.1
  have hn10 := hC.2.2.2.2
  have loop_2 : ∀ (k : Nat) (r : Nat) (q : Nat → Int), r + k = n → pfS (M 99) L r = q → Go D ca none (gRm mX8_paveFrom (SH.length - SH.length) (gSz SH - gSz SH)) mX8_paveFrom 2 [(0, gR 0), (1, gR 98), (2, gI (n : Int)), (3, gI (r : Int))] [] SH (gSet M 3 q) [] SH (gSet M 3 (pfS (M 99) L n)) := by
    intro k
    induction k with
    | zero =>
      intro r q he hx
      obtain rfl : n = r := by omega
      refine Go_iload_n 3 rfl rfl dX8_paveFrom_2 ?_
      refine Go_iload_n 2 rfl rfl dX8_paveFrom_3 ?_
      refine Go_icmp_ge dX8_paveFrom_4 rfl (fun h4 => ?_) (fun h4 => ?_)
      · skip
        subst hx
        exact Go_ret rfl dX8_paveFrom_61
      · skip
        first | exact absurd h4 (by omega) | exact absurd ⟨hr1, hr2⟩ h4
    | succ k ih_2 =>
      intro r q he hx
      obtain ⟨hr1, hr2, ⟨hx1, hx2⟩, ⟨hy1, hy2⟩, hxy, hz1, hz2⟩ := hok r (by omega)
      obtain ⟨x, ex⟩ := Int.eq_ofNat_of_zero_le hx1
      obtain ⟨y, ey⟩ := Int.eq_ofNat_of_zero_le hy1
      refine Go_iload_n 3 rfl rfl dX8_paveFrom_2 ?_
      refine Go_iload_n 2 rfl rfl dX8_paveFrom_3 ?_
      refine Go_icmp_ge dX8_paveFrom_4 rfl (fun h4 => ?_) (fun h4 => ?_)
      · skip
        first | exact absurd h4 (by omega) | exact absurd ⟨hr1, hr2⟩ h4
      · skip
        refine Go_aload_n 1 rfl rfl dX8_paveFrom_7 ?_
        refine Go_iload_n 3 rfl rfl dX8_paveFrom_8 ?_
        refine Go_callVI (q := vwCl[1]) (hr_98 (M := gSet M 3 q) r (by omega)) cwX8_337 imX1_holdsRoad rfl rfl ⟨Nat.le_of_ble_eq_true rfl, Nat.le_of_ble_eq_true rfl⟩ sh_98 rfl (Nat.le_of_ble_eq_true rfl) sh_rf dX8_paveFrom_9 ?_
        refine Go_if_eq dX8_paveFrom_12 rfl (fun h12 => ?_) (fun h12 => ?_)
        · skip
          replace h12 := bI_0.mp h12
          first | exact absurd h12 (by omega) | exact absurd ⟨hr1, hr2⟩ h12
        · skip
          replace h12 := bI_n.mp h12
          refine Go_iload_n 3 rfl rfl dX8_paveFrom_15 ?_
          refine Go_iconst (by unfold in32; omega) dX8_paveFrom_16 ?_
          refine Go_imuln r 3 rfl rfl (by omega) dX8_paveFrom_17 ?_
          refine Go_istore (ls' := [(4, gI _), (0, gR 0), (1, gR 98), (2, gI _), (3, gI _)]) dX8_paveFrom_18 (by decide) rfl ?_
          refine Go_aload_n 1 rfl rfl dX8_paveFrom_20 ?_
          refine Go_getR (c' := 1) faX8_14 sh_0 (pt_0_0 (M := M) hC.1) dX8_paveFrom_21 ?_
          refine Go_aload_n 2 rfl rfl dX8_paveFrom_24 ?_
          refine Go_getR (c' := 99) faX8_340 sh_98 (pt_98_2 (M := M) hC.1) dX8_paveFrom_25 ?_
          refine Go_iload 0 rfl dX8_paveFrom_28 ?_
          refine Go_laloadv (r * 3) (v := ((x : Nat) : Int)) ex sh_99 rfl (by omega) dX8_paveFrom_30 ?_
          refine Go_l2ic (by omega) dX8_paveFrom_31 ?_
          refine Go_aload_n 2 rfl rfl dX8_paveFrom_32 ?_
          refine Go_getR (c' := 99) faX8_340 sh_98 (pt_98_2 (M := M) hC.1) dX8_paveFrom_33 ?_
          refine Go_iload 0 rfl dX8_paveFrom_36 ?_
          refine Go_iconst (by unfold in32; omega) dX8_paveFrom_38 ?_
          refine Go_iaddn (r * 3) 1 rfl rfl (by omega) dX8_paveFrom_39 ?_
          refine Go_laloadv ((r * 3) + 1) (v := ((y : Nat) : Int)) ey sh_99 rfl (by omega) dX8_paveFrom_40 ?_
          refine Go_l2ic (by omega) dX8_paveFrom_41 ?_
          refine Go_aload_n 2 rfl rfl dX8_paveFrom_42 ?_
          refine Go_getR (c' := 99) faX8_340 sh_98 (pt_98_2 (M := M) hC.1) dX8_paveFrom_43 ?_
          refine Go_iload 0 rfl dX8_paveFrom_46 ?_
          refine Go_iconst (by unfold in32; omega) dX8_paveFrom_48 ?_
          refine Go_iaddn (r * 3) 2 rfl rfl (by omega) dX8_paveFrom_49 ?_
          refine Go_laloadv ((r * 3) + 2) (v := M 99 (r * 3 + 2)) rfl sh_99 rfl (by omega) dX8_paveFrom_50 ?_
          refine Go_l2ic (by omega) dX8_paveFrom_51 ?_
          refine Go_callV0 (q := vwCl[6]) (fX6_pave hC.1 q x y (by omega) (by omega) _) cwX8_112 imX6_pave rfl rfl ⟨Nat.le_of_ble_eq_true rfl, Nat.le_of_ble_eq_true rfl⟩ sh_1 rfl (Nat.le_of_ble_eq_true rfl) sh_rf dX8_paveFrom_52 ?_
          refine Go_iincn r 1 rfl rfl (by omega) 4 (ls' := [(3, gI _), (4, gI _), (0, gR 0), (1, gR 98), (2, gI _)]) rfl dX8_paveFrom_55 (by decide) rfl ?_
          refine Go_goto dX8_paveFrom_58 rfl ?_
          refine Go_pick [2, 3, 4, 0] (ls' := [(0, gR 0), (1, gR 98), (2, gI _), (3, gI _)]) rfl ?_
          exact ih_2 (r + 1) _ (by omega) (by simp only [pfS, hx, ex, ey, Int.toNat_natCast])
  refine Go_iconst (by unfold in32; omega) dX8_paveFrom_0 ?_
  refine Go_istore_n (ls' := [(3, gI _), (0, gR 0), (1, gR 98), (2, gI _)]) rfl dX8_paveFrom_1 (by decide) rfl ?_
  refine Go_pick [1, 2, 3, 0] (ls' := [(0, gR 0), (1, gR 98), (2, gI _), (3, gI _)]) rfl ?_
  exact loop_2 n 0 _ (by omega) rfl
set_option maxHeartbeats 4000000 in
set_option maxRecDepth 100000 in
theorem rn_100 {D : va_G} {ca : Nat → ClassId} {M : gMem} (hp : gPtr M) (z n : Int) : Fn D ca mX1_renew [gR 100, gI z, gI n] SH M [] SH (rnM M 100 z n) := by
  refine Fn_of okX1_renew (Nat.le_of_ble_eq_true rfl) (Or.inl ⟨rfl, rfl⟩) (Nat.le_refl _) (Nat.le_refl _) ?_
  refine Go_ls2 (ls' := [(0, gR 100), (1, gI _), (2, gI _)]) rfl ?_
  refine Go_o 100 ?_
  have loop_12 : ∀ (k : Nat) (i : Nat) (w : Nat → Int), i + k = 60 → rnW (M 101) i = w → Go D ca none (gRm mX1_renew (SH.length - SH.length) (gSz SH - gSz SH)) mX1_renew 12 [(0, gR 100), (3, gI (i : Int))] [] SH (gSet (gSet M 100 (gUp (gUp (M 100) 0 z) 1 n)) 101 w) [] SH (rnM M 100 z n) := by
    intro k
    induction k with
    | zero =>
      intro i w he hx
      have ei : i = 60 := by omega
      subst ei
      refine Go_iload_n 1 rfl rfl dX1_renew_12 ?_
      refine Go_bipush ⟨by decide, by unfold in32; omega⟩ dX1_renew_13 ?_
      refine Go_icmp_ge dX1_renew_15 rfl (fun h15 => ?_) (fun h15 => ?_)
      · skip
        subst hx
        exact Go_ret rfl dX1_renew_31
      · skip
        exact absurd h15 (by omega)
    | succ k ih_12 =>
      intro i w he hx
      refine Go_iload_n 1 rfl rfl dX1_renew_12 ?_
      refine Go_bipush ⟨by decide, by unfold in32; omega⟩ dX1_renew_13 ?_
      refine Go_icmp_ge dX1_renew_15 rfl (fun h15 => ?_) (fun h15 => ?_)
      · skip
        exact absurd h15 (by omega)
      · skip
        refine Go_aload_n 0 rfl rfl dX1_renew_18 ?_
        refine Go_getR (c' := 101) faX1_18 sh_100 (pt_100_2 (M := M) hp) dX1_renew_19 ?_
        refine Go_iload_n 1 rfl rfl dX1_renew_22 ?_
        refine Go_lconst (v := 0) ⟨rfl, by unfold in64; omega⟩ dX1_renew_23 ?_
        refine Go_lastoreS i sh_101 rfl (by omega) dX1_renew_24 ?_
        refine Go_iincn i 1 rfl rfl (by omega) 1 (ls' := [(3, gI _), (0, gR 100)]) rfl dX1_renew_25 (by decide) rfl ?_
        refine Go_goto dX1_renew_28 rfl ?_
        refine Go_pick [1, 0] (ls' := [(0, gR 100), (3, gI _)]) rfl ?_
        exact ih_12 (i + 1) _ (by omega) (by simp only [rnW, hx])
  refine Go_aload_n 0 rfl rfl dX1_renew_0 ?_
  refine Go_iload_n 1 rfl rfl dX1_renew_1 ?_
  refine Go_putIS fpX1_9 sh_100 dX1_renew_2 ?_
  refine Go_aload_n 0 rfl rfl dX1_renew_5 ?_
  refine Go_iload_n 2 rfl rfl dX1_renew_6 ?_
  refine Go_putIS fpX1_15 sh_100 dX1_renew_7 ?_
  refine Go_o 101 ?_
  refine Go_iconst (by unfold in32; omega) dX1_renew_10 ?_
  refine Go_istore_n (ls' := [(3, gI _), (0, gR 100), (1, gI _), (2, gI _)]) rfl dX1_renew_11 (by decide) rfl ?_
  refine Go_pick [1, 0] (ls' := [(0, gR 100), (3, gI _)]) rfl ?_
  exact loop_12 60 0 _ (by omega) rfl
set_option maxHeartbeats 4000000 in
set_option maxRecDepth 100000 in
theorem wr_100 {D : va_G} {ca : Nat → ClassId} {M : gMem} (hp : gPtr M) (i : Nat) (hi : i < 60) (v : Int) : Fn D ca mX1_write [gR 100, gI (i : Int), gJ v] SH M [] SH (wrM M 100 i v) := by
  refine Fn_of okX1_write (Nat.le_of_ble_eq_true rfl) (Or.inl ⟨rfl, rfl⟩) (Nat.le_refl _) (Nat.le_refl _) ?_
  refine Go_ls2 (ls' := [(0, gR 100), (1, gI _), (2, gJ _)]) rfl ?_
  refine Go_aload_n 0 rfl rfl dX1_write_0 ?_
  refine Go_getIv (v := M 100 0) rfl faX1_9 sh_100 dX1_write_1 ?_
  by_cases k0 : M 100 0 = 0
  · refine Go_lookup (off := 28) (tgt := 32) dX1_write_4 (by decide) (by rw [k0]; rfl) rfl ?_
    refine Go_aload_n 0 rfl rfl dX1_write_32 ?_
    refine Go_getR (c' := 101) faX1_18 sh_100 (pt_100_2 (M := M) hp) dX1_write_33 ?_
    refine Go_iload_n 1 rfl rfl dX1_write_36 ?_
    refine Go_lload_n 2 rfl rfl dX1_write_37 ?_
    refine Go_l2i dX1_write_38 ?_
    refine Go_i2b dX1_write_39 ?_
    refine Go_i2l dX1_write_40 ?_
    refine Go_lastore i sh_101 rfl (by omega) dX1_write_41 ?_
    refine Go_M (M2 := wrM M 100 i v) (by unfold wrM; rw [show wrF (M 100 0) v = _ from if_pos k0]) ?_
    refine Go_goto dX1_write_42 rfl ?_
    exact Go_ret rfl dX1_write_64
  by_cases k1 : M 100 0 = 1
  · refine Go_lookup (off := 41) (tgt := 45) dX1_write_4 (by decide) (by rw [k1]; rfl) rfl ?_
    refine Go_aload_n 0 rfl rfl dX1_write_45 ?_
    refine Go_getR (c' := 101) faX1_18 sh_100 (pt_100_2 (M := M) hp) dX1_write_46 ?_
    refine Go_iload_n 1 rfl rfl dX1_write_49 ?_
    refine Go_lload_n 2 rfl rfl dX1_write_50 ?_
    refine Go_l2i dX1_write_51 ?_
    refine Go_i2l dX1_write_52 ?_
    refine Go_lastore i sh_101 rfl (by omega) dX1_write_53 ?_
    refine Go_M (M2 := wrM M 100 i v) (by unfold wrM; rw [show wrF (M 100 0) v = _ from (if_neg k0).trans (if_pos k1)]) ?_
    refine Go_goto dX1_write_54 rfl ?_
    exact Go_ret rfl dX1_write_64
  · refine Go_lookup (off := 53) (tgt := 57) dX1_write_4 (by decide) (by have j1 : ¬ (0 : Int) = M 100 0 := fun q => k0 q.symm; have j4 : ¬ (1 : Int) = M 100 0 := fun q => k1 q.symm; simp [Op.lookupswitch.offset, j1, j4]) rfl ?_
    refine Go_aload_n 0 rfl rfl dX1_write_57 ?_
    refine Go_getR (c' := 101) faX1_18 sh_100 (pt_100_2 (M := M) hp) dX1_write_58 ?_
    refine Go_iload_n 1 rfl rfl dX1_write_61 ?_
    refine Go_lload_n 2 rfl rfl dX1_write_62 ?_
    refine Go_lastore i sh_101 rfl (by omega) dX1_write_63 ?_
    refine Go_M (M2 := wrM M 100 i v) (by unfold wrM; rw [show wrF (M 100 0) v = _ from (if_neg k0).trans (if_neg k1)]) ?_
    exact Go_ret rfl dX1_write_64
set_option maxHeartbeats 4000000 in
set_option maxRecDepth 100000 in
theorem hr_100 {D : va_G} {ca : Nat → ClassId} {M : gMem} (r : Nat) (hr : r < 2147483648) : Fn D ca mX1_holdsRoad [gR 100, gI (r : Int)] SH M [gI (bI (r < 20 ∧ (((r + 1) * 3 : Nat) : Int) ≤ M 100 1))] SH (M) := by
  refine Fn_of okX1_holdsRoad (Nat.le_of_ble_eq_true rfl) (Or.inr (Or.inr (Or.inl ⟨_, rfl, rfl, bI_01 _⟩))) (Nat.le_refl _) (Nat.le_refl _) ?_
  refine Go_ls2 (ls' := [(0, gR 100), (1, gI _)]) rfl ?_
  refine Go_iload_n 1 rfl rfl dX1_holdsRoad_0 ?_
  refine Go_bipush ⟨by decide, by unfold in32; omega⟩ dX1_holdsRoad_1 ?_
  refine Go_icmp_ge dX1_holdsRoad_3 rfl (fun h3 => ?_) (fun h3 => ?_)
  · skip
    refine Go_iconst (by unfold in32; omega) dX1_holdsRoad_22 ?_
    exact Go_ret (by rw [bI_f (by omega)]) dX1_holdsRoad_23
  · skip
    refine Go_iload_n 1 rfl rfl dX1_holdsRoad_6 ?_
    refine Go_iconst (by unfold in32; omega) dX1_holdsRoad_7 ?_
    refine Go_iaddn r 1 rfl rfl (by omega) dX1_holdsRoad_8 ?_
    refine Go_iconst (by unfold in32; omega) dX1_holdsRoad_9 ?_
    refine Go_imuln (r + 1) 3 rfl rfl (by omega) dX1_holdsRoad_10 ?_
    refine Go_aload_n 0 rfl rfl dX1_holdsRoad_11 ?_
    refine Go_getIv (v := M 100 1) rfl faX1_15 sh_100 dX1_holdsRoad_12 ?_
    refine Go_icmp_gt dX1_holdsRoad_15 rfl (fun h15 => ?_) (fun h15 => ?_)
    · skip
      refine Go_iconst (by unfold in32; omega) dX1_holdsRoad_22 ?_
      exact Go_ret (by rw [bI_f (by omega)]) dX1_holdsRoad_23
    · skip
      refine Go_iconst (by unfold in32; omega) dX1_holdsRoad_18 ?_
      refine Go_goto dX1_holdsRoad_19 rfl ?_
      exact Go_ret (by rw [bI_t (by omega)]) dX1_holdsRoad_23
set_option maxHeartbeats 4000000 in
set_option maxRecDepth 100000 in
theorem rt_100 {D : va_G} {ca : Nat → ClassId} {M : gMem} {nv np : Nat} (hC : CS M nv np) (lane : Int) (n : Nat) : Fn D ca mX8_refusalToDraw [gR 0, gR 100, gI lane, gI (n : Int)] SH M [gI (rtF nv M 100 lane n)] SH (M) := by
  refine Fn_of okX8_refusalToDraw (Nat.le_of_ble_eq_true rfl) (Or.inr (Or.inl ⟨_, rfl, rfl⟩)) (Nat.le_refl _) (Nat.le_refl _) ?_
  refine Go_ls2 (ls' := [(0, gR 0), (1, gR 100), (2, gI _), (3, gI _)]) rfl ?_
  have hv12 := hC.2.2.1
  have hn10 := hC.2.2.2.2
  have loop_25 : ∀ (k : Nat) (r : Nat), r + k = 20 → Go D ca none (gRm mX8_refusalToDraw (SH.length - SH.length) (gSz SH - gSz SH)) mX8_refusalToDraw 25 [(0, gR 0), (1, gR 100), (3, gI (n : Int)), (4, gI (r : Int))] [] SH M [gI (rfF nv (M 100 1) (M 101) n k r)] SH (M) := by
    intro k
    induction k with
    | zero =>
      intro r he
      refine Go_iload 3 rfl dX8_refusalToDraw_25 ?_
      refine Go_iload_n 2 rfl rfl dX8_refusalToDraw_27 ?_
      refine Go_icmp_ge dX8_refusalToDraw_28 rfl (fun h28 => ?_) (fun h28 => ?_)
      · skip
        refine Go_iconst (by unfold in32; omega) dX8_refusalToDraw_93 ?_
        exact Go_ret (by first | rw [show rfF nv (M 100 1) (M 101) n 0 r = 0 from if_pos (by omega)] | rw [show rfF nv (M 100 1) (M 101) n (k + 1) r = 0 from if_pos (by omega)]) dX8_refusalToDraw_94
      · skip
        refine Go_aload_n 1 rfl rfl dX8_refusalToDraw_31 ?_
        refine Go_iload 3 rfl dX8_refusalToDraw_32 ?_
        refine Go_callVI (q := vwCl[1]) (hr_100 r (by omega)) cwX8_337 imX1_holdsRoad rfl rfl ⟨Nat.le_of_ble_eq_true rfl, Nat.le_of_ble_eq_true rfl⟩ sh_100 rfl (Nat.le_of_ble_eq_true rfl) sh_rf dX8_refusalToDraw_34 ?_
        refine Go_if_ne dX8_refusalToDraw_37 rfl (fun h37 => ?_) (fun h37 => ?_)
        · skip
          replace h37 := bI_n.mp h37
          exact absurd h37 (by omega)
        · skip
          replace h37 := bI_0.mp h37
          refine Go_bipush ⟨by decide, by unfold in32; omega⟩ dX8_refusalToDraw_40 ?_
          exact Go_ret (by first | rw [show rfF nv (M 100 1) (M 101) n 0 r = -12 from if_neg (by omega)] | rw [show rfF nv (M 100 1) (M 101) n (k + 1) r = -12 from (if_neg (by omega)).trans (if_neg (by omega))]) dX8_refusalToDraw_42
    | succ k ih_25 =>
      intro r he
      refine Go_iload 3 rfl dX8_refusalToDraw_25 ?_
      refine Go_iload_n 2 rfl rfl dX8_refusalToDraw_27 ?_
      refine Go_icmp_ge dX8_refusalToDraw_28 rfl (fun h28 => ?_) (fun h28 => ?_)
      · skip
        refine Go_iconst (by unfold in32; omega) dX8_refusalToDraw_93 ?_
        exact Go_ret (by first | rw [show rfF nv (M 100 1) (M 101) n 0 r = 0 from if_pos (by omega)] | rw [show rfF nv (M 100 1) (M 101) n (k + 1) r = 0 from if_pos (by omega)]) dX8_refusalToDraw_94
      · skip
        refine Go_aload_n 1 rfl rfl dX8_refusalToDraw_31 ?_
        refine Go_iload 3 rfl dX8_refusalToDraw_32 ?_
        refine Go_callVI (q := vwCl[1]) (hr_100 r (by omega)) cwX8_337 imX1_holdsRoad rfl rfl ⟨Nat.le_of_ble_eq_true rfl, Nat.le_of_ble_eq_true rfl⟩ sh_100 rfl (Nat.le_of_ble_eq_true rfl) sh_rf dX8_refusalToDraw_34 ?_
        refine Go_if_ne dX8_refusalToDraw_37 rfl (fun h37 => ?_) (fun h37 => ?_)
        · skip
          replace h37 := bI_n.mp h37
          refine Go_iload 3 rfl dX8_refusalToDraw_43 ?_
          refine Go_iconst (by unfold in32; omega) dX8_refusalToDraw_45 ?_
          refine Go_imuln r 3 rfl rfl (by omega) dX8_refusalToDraw_46 ?_
          refine Go_istore (ls' := [(5, gI _), (0, gR 0), (1, gR 100), (3, gI _), (4, gI _)]) dX8_refusalToDraw_47 (by decide) rfl ?_
          refine Go_aload_n 1 rfl rfl dX8_refusalToDraw_49 ?_
          refine Go_getR (c' := 1) faX8_14 sh_0 (pt_0_0 (M := M) hC.1) dX8_refusalToDraw_50 ?_
          refine Go_aload_n 2 rfl rfl dX8_refusalToDraw_53 ?_
          refine Go_getR (c' := 101) faX8_340 sh_100 (pt_100_2 (M := M) hC.1) dX8_refusalToDraw_54 ?_
          refine Go_iload 0 rfl dX8_refusalToDraw_57 ?_
          refine Go_laloadv (r * 3) (v := M 101 (r * 3)) rfl sh_101 rfl (by omega) dX8_refusalToDraw_59 ?_
          refine Go_aload_n 2 rfl rfl dX8_refusalToDraw_60 ?_
          refine Go_getR (c' := 101) faX8_340 sh_100 (pt_100_2 (M := M) hC.1) dX8_refusalToDraw_61 ?_
          refine Go_iload 0 rfl dX8_refusalToDraw_64 ?_
          refine Go_iconst (by unfold in32; omega) dX8_refusalToDraw_66 ?_
          refine Go_iaddn (r * 3) 1 rfl rfl (by omega) dX8_refusalToDraw_67 ?_
          refine Go_laloadv ((r * 3) + 1) (v := M 101 ((r * 3) + 1)) rfl sh_101 rfl (by omega) dX8_refusalToDraw_68 ?_
          refine Go_aload_n 2 rfl rfl dX8_refusalToDraw_69 ?_
          refine Go_getR (c' := 101) faX8_340 sh_100 (pt_100_2 (M := M) hC.1) dX8_refusalToDraw_70 ?_
          refine Go_iload 0 rfl dX8_refusalToDraw_73 ?_
          refine Go_iconst (by unfold in32; omega) dX8_refusalToDraw_75 ?_
          refine Go_iaddn (r * 3) 2 rfl rfl (by omega) dX8_refusalToDraw_76 ?_
          refine Go_laloadv ((r * 3) + 2) (v := M 101 ((r * 3) + 2)) rfl sh_101 rfl (by omega) dX8_refusalToDraw_77 ?_
          refine Go_callVI (q := vwCl[6]) (fX6_takesRoad hC _ _ _) cwX8_105 imX6_takesRoad rfl rfl ⟨Nat.le_of_ble_eq_true rfl, Nat.le_of_ble_eq_true rfl⟩ sh_1 rfl (Nat.le_of_ble_eq_true rfl) sh_rf dX8_refusalToDraw_78 ?_
          refine Go_if_ne dX8_refusalToDraw_81 rfl (fun h81 => ?_) (fun h81 => ?_)
          · skip
            replace h81 := bI_n.mp h81
            refine Go_iincn r 1 rfl rfl (by omega) 4 (ls' := [(4, gI _), (5, gI _), (0, gR 0), (1, gR 100), (3, gI _)]) rfl dX8_refusalToDraw_87 (by decide) rfl ?_
            refine Go_goto dX8_refusalToDraw_90 rfl ?_
            refine Go_pick [2, 3, 4, 0] (ls' := [(0, gR 0), (1, gR 100), (3, gI _), (4, gI _)]) rfl ?_
            rw [show rfF nv (M 100 1) (M 101) n (k + 1) r = rfF nv (M 100 1) (M 101) n k (r + 1) from (if_neg (by omega)).trans ((if_pos (by omega)).trans (if_pos h81))]
            exact ih_25 (r + 1) (by omega)
          · skip
            replace h81 := bI_0.mp h81
            refine Go_bipush ⟨by decide, by unfold in32; omega⟩ dX8_refusalToDraw_84 ?_
            exact Go_ret (by rw [show rfF nv (M 100 1) (M 101) n (k + 1) r = -21 from (if_neg (by omega)).trans ((if_pos (by omega)).trans (if_neg h81))]) dX8_refusalToDraw_86
        · skip
          replace h37 := bI_0.mp h37
          refine Go_bipush ⟨by decide, by unfold in32; omega⟩ dX8_refusalToDraw_40 ?_
          exact Go_ret (by first | rw [show rfF nv (M 100 1) (M 101) n 0 r = -12 from if_neg (by omega)] | rw [show rfF nv (M 100 1) (M 101) n (k + 1) r = -12 from (if_neg (by omega)).trans (if_neg (by omega))]) dX8_refusalToDraw_42
  refine Go_aload_n 1 rfl rfl dX8_refusalToDraw_0 ?_
  refine Go_getIv (v := M 100 0) rfl faX8_154 sh_100 dX8_refusalToDraw_1 ?_
  refine Go_iconst (by unfold in32; omega) dX8_refusalToDraw_4 ?_
  refine Go_icmp_ne dX8_refusalToDraw_5 rfl (fun h5 => ?_) (fun h5 => ?_)
  · skip
    refine Go_aload_n 1 rfl rfl dX8_refusalToDraw_11 ?_
    refine Go_getIv (v := M 100 0) rfl faX8_154 sh_100 dX8_refusalToDraw_12 ?_
    refine Go_iload_n 2 rfl rfl dX8_refusalToDraw_15 ?_
    refine Go_icmp_eq dX8_refusalToDraw_16 rfl (fun h16 => ?_) (fun h16 => ?_)
    · skip
      refine Go_iconst (by unfold in32; omega) dX8_refusalToDraw_22 ?_
      refine Go_istore (ls' := [(4, gI _), (0, gR 0), (1, gR 100), (2, gI _), (3, gI _)]) dX8_refusalToDraw_23 (by decide) rfl ?_
      refine Go_pick [1, 2, 4, 0] (ls' := [(0, gR 0), (1, gR 100), (3, gI _), (4, gI _)]) rfl ?_
      rw [show rtF nv M 100 lane n = rfF nv (M 100 1) (M 101) n 20 0 from (if_neg h5).trans (if_pos h16)]
      exact loop_25 20 0 (by omega)
    · skip
      refine Go_bipush ⟨by decide, by unfold in32; omega⟩ dX8_refusalToDraw_19 ?_
      exact Go_ret (by unfold rtF; rw [if_neg h5, if_neg h16]) dX8_refusalToDraw_21
  · skip
    refine Go_bipush ⟨by decide, by unfold in32; omega⟩ dX8_refusalToDraw_8 ?_
    exact Go_ret (by unfold rtF; rw [if_pos h5]) dX8_refusalToDraw_10
set_option maxHeartbeats 4000000 in
set_option maxRecDepth 100000 in
theorem pf_100 {D : va_G} {ca : Nat → ClassId} {M : gMem} {nv np : Nat} (hC : CS M nv np) (L : Nat → Int) (n : Nat) (hn : n < 2147483648) (hok : ∀ r, r < n → r < 20 ∧ (((r + 1) * 3 : Nat) : Int) ≤ M 100 1 ∧ tkP nv (M 101) r) : Fn D ca mX8_paveFrom [gR 0, gR 100, gI (n : Int)] SH (gSet M 3 L) [] SH (gSet M 3 (pfS (M 101) L n)) := by
  refine Fn_of okX8_paveFrom (Nat.le_of_ble_eq_true rfl) (Or.inl ⟨rfl, rfl⟩) (Nat.le_refl _) (Nat.le_refl _) ?_
  refine Go_ls2 (ls' := [(0, gR 0), (1, gR 100), (2, gI _)]) rfl ?_
  have hv12 := hC.2.2.1
  have hn10 := hC.2.2.2.2
  have loop_2 : ∀ (k : Nat) (r : Nat) (q : Nat → Int), r + k = n → pfS (M 101) L r = q → Go D ca none (gRm mX8_paveFrom (SH.length - SH.length) (gSz SH - gSz SH)) mX8_paveFrom 2 [(0, gR 0), (1, gR 100), (2, gI (n : Int)), (3, gI (r : Int))] [] SH (gSet M 3 q) [] SH (gSet M 3 (pfS (M 101) L n)) := by
    intro k
    induction k with
    | zero =>
      intro r q he hx
      obtain rfl : n = r := by omega
      refine Go_iload_n 3 rfl rfl dX8_paveFrom_2 ?_
      refine Go_iload_n 2 rfl rfl dX8_paveFrom_3 ?_
      refine Go_icmp_ge dX8_paveFrom_4 rfl (fun h4 => ?_) (fun h4 => ?_)
      · skip
        subst hx
        exact Go_ret rfl dX8_paveFrom_61
      · skip
        first | exact absurd h4 (by omega) | exact absurd ⟨hr1, hr2⟩ h4
    | succ k ih_2 =>
      intro r q he hx
      obtain ⟨hr1, hr2, ⟨hx1, hx2⟩, ⟨hy1, hy2⟩, hxy, hz1, hz2⟩ := hok r (by omega)
      obtain ⟨x, ex⟩ := Int.eq_ofNat_of_zero_le hx1
      obtain ⟨y, ey⟩ := Int.eq_ofNat_of_zero_le hy1
      refine Go_iload_n 3 rfl rfl dX8_paveFrom_2 ?_
      refine Go_iload_n 2 rfl rfl dX8_paveFrom_3 ?_
      refine Go_icmp_ge dX8_paveFrom_4 rfl (fun h4 => ?_) (fun h4 => ?_)
      · skip
        first | exact absurd h4 (by omega) | exact absurd ⟨hr1, hr2⟩ h4
      · skip
        refine Go_aload_n 1 rfl rfl dX8_paveFrom_7 ?_
        refine Go_iload_n 3 rfl rfl dX8_paveFrom_8 ?_
        refine Go_callVI (q := vwCl[1]) (hr_100 (M := gSet M 3 q) r (by omega)) cwX8_337 imX1_holdsRoad rfl rfl ⟨Nat.le_of_ble_eq_true rfl, Nat.le_of_ble_eq_true rfl⟩ sh_100 rfl (Nat.le_of_ble_eq_true rfl) sh_rf dX8_paveFrom_9 ?_
        refine Go_if_eq dX8_paveFrom_12 rfl (fun h12 => ?_) (fun h12 => ?_)
        · skip
          replace h12 := bI_0.mp h12
          first | exact absurd h12 (by omega) | exact absurd ⟨hr1, hr2⟩ h12
        · skip
          replace h12 := bI_n.mp h12
          refine Go_iload_n 3 rfl rfl dX8_paveFrom_15 ?_
          refine Go_iconst (by unfold in32; omega) dX8_paveFrom_16 ?_
          refine Go_imuln r 3 rfl rfl (by omega) dX8_paveFrom_17 ?_
          refine Go_istore (ls' := [(4, gI _), (0, gR 0), (1, gR 100), (2, gI _), (3, gI _)]) dX8_paveFrom_18 (by decide) rfl ?_
          refine Go_aload_n 1 rfl rfl dX8_paveFrom_20 ?_
          refine Go_getR (c' := 1) faX8_14 sh_0 (pt_0_0 (M := M) hC.1) dX8_paveFrom_21 ?_
          refine Go_aload_n 2 rfl rfl dX8_paveFrom_24 ?_
          refine Go_getR (c' := 101) faX8_340 sh_100 (pt_100_2 (M := M) hC.1) dX8_paveFrom_25 ?_
          refine Go_iload 0 rfl dX8_paveFrom_28 ?_
          refine Go_laloadv (r * 3) (v := ((x : Nat) : Int)) ex sh_101 rfl (by omega) dX8_paveFrom_30 ?_
          refine Go_l2ic (by omega) dX8_paveFrom_31 ?_
          refine Go_aload_n 2 rfl rfl dX8_paveFrom_32 ?_
          refine Go_getR (c' := 101) faX8_340 sh_100 (pt_100_2 (M := M) hC.1) dX8_paveFrom_33 ?_
          refine Go_iload 0 rfl dX8_paveFrom_36 ?_
          refine Go_iconst (by unfold in32; omega) dX8_paveFrom_38 ?_
          refine Go_iaddn (r * 3) 1 rfl rfl (by omega) dX8_paveFrom_39 ?_
          refine Go_laloadv ((r * 3) + 1) (v := ((y : Nat) : Int)) ey sh_101 rfl (by omega) dX8_paveFrom_40 ?_
          refine Go_l2ic (by omega) dX8_paveFrom_41 ?_
          refine Go_aload_n 2 rfl rfl dX8_paveFrom_42 ?_
          refine Go_getR (c' := 101) faX8_340 sh_100 (pt_100_2 (M := M) hC.1) dX8_paveFrom_43 ?_
          refine Go_iload 0 rfl dX8_paveFrom_46 ?_
          refine Go_iconst (by unfold in32; omega) dX8_paveFrom_48 ?_
          refine Go_iaddn (r * 3) 2 rfl rfl (by omega) dX8_paveFrom_49 ?_
          refine Go_laloadv ((r * 3) + 2) (v := M 101 (r * 3 + 2)) rfl sh_101 rfl (by omega) dX8_paveFrom_50 ?_
          refine Go_l2ic (by omega) dX8_paveFrom_51 ?_
          refine Go_callV0 (q := vwCl[6]) (fX6_pave hC.1 q x y (by omega) (by omega) _) cwX8_112 imX6_pave rfl rfl ⟨Nat.le_of_ble_eq_true rfl, Nat.le_of_ble_eq_true rfl⟩ sh_1 rfl (Nat.le_of_ble_eq_true rfl) sh_rf dX8_paveFrom_52 ?_
          refine Go_iincn r 1 rfl rfl (by omega) 4 (ls' := [(3, gI _), (4, gI _), (0, gR 0), (1, gR 100), (2, gI _)]) rfl dX8_paveFrom_55 (by decide) rfl ?_
          refine Go_goto dX8_paveFrom_58 rfl ?_
          refine Go_pick [2, 3, 4, 0] (ls' := [(0, gR 0), (1, gR 100), (2, gI _), (3, gI _)]) rfl ?_
          exact ih_2 (r + 1) _ (by omega) (by simp only [pfS, hx, ex, ey, Int.toNat_natCast])
  refine Go_iconst (by unfold in32; omega) dX8_paveFrom_0 ?_
  refine Go_istore_n (ls' := [(3, gI _), (0, gR 0), (1, gR 100), (2, gI _)]) rfl dX8_paveFrom_1 (by decide) rfl ?_
  refine Go_pick [1, 2, 3, 0] (ls' := [(0, gR 0), (1, gR 100), (2, gI _), (3, gI _)]) rfl ?_
  exact loop_2 n 0 _ (by omega) rfl
set_option maxHeartbeats 4000000 in
set_option maxRecDepth 100000 in
theorem rn_102 {D : va_G} {ca : Nat → ClassId} {M : gMem} (hp : gPtr M) (z n : Int) : Fn D ca mX1_renew [gR 102, gI z, gI n] SH M [] SH (rnM M 102 z n) := by
  refine Fn_of okX1_renew (Nat.le_of_ble_eq_true rfl) (Or.inl ⟨rfl, rfl⟩) (Nat.le_refl _) (Nat.le_refl _) ?_
  refine Go_ls2 (ls' := [(0, gR 102), (1, gI _), (2, gI _)]) rfl ?_
  refine Go_o 102 ?_
  have loop_12 : ∀ (k : Nat) (i : Nat) (w : Nat → Int), i + k = 60 → rnW (M 103) i = w → Go D ca none (gRm mX1_renew (SH.length - SH.length) (gSz SH - gSz SH)) mX1_renew 12 [(0, gR 102), (3, gI (i : Int))] [] SH (gSet (gSet M 102 (gUp (gUp (M 102) 0 z) 1 n)) 103 w) [] SH (rnM M 102 z n) := by
    intro k
    induction k with
    | zero =>
      intro i w he hx
      have ei : i = 60 := by omega
      subst ei
      refine Go_iload_n 1 rfl rfl dX1_renew_12 ?_
      refine Go_bipush ⟨by decide, by unfold in32; omega⟩ dX1_renew_13 ?_
      refine Go_icmp_ge dX1_renew_15 rfl (fun h15 => ?_) (fun h15 => ?_)
      · skip
        subst hx
        exact Go_ret rfl dX1_renew_31
      · skip
        exact absurd h15 (by omega)
    | succ k ih_12 =>
      intro i w he hx
      refine Go_iload_n 1 rfl rfl dX1_renew_12 ?_
      refine Go_bipush ⟨by decide, by unfold in32; omega⟩ dX1_renew_13 ?_
      refine Go_icmp_ge dX1_renew_15 rfl (fun h15 => ?_) (fun h15 => ?_)
      · skip
        exact absurd h15 (by omega)
      · skip
        refine Go_aload_n 0 rfl rfl dX1_renew_18 ?_
        refine Go_getR (c' := 103) faX1_18 sh_102 (pt_102_2 (M := M) hp) dX1_renew_19 ?_
        refine Go_iload_n 1 rfl rfl dX1_renew_22 ?_
        refine Go_lconst (v := 0) ⟨rfl, by unfold in64; omega⟩ dX1_renew_23 ?_
        refine Go_lastoreS i sh_103 rfl (by omega) dX1_renew_24 ?_
        refine Go_iincn i 1 rfl rfl (by omega) 1 (ls' := [(3, gI _), (0, gR 102)]) rfl dX1_renew_25 (by decide) rfl ?_
        refine Go_goto dX1_renew_28 rfl ?_
        refine Go_pick [1, 0] (ls' := [(0, gR 102), (3, gI _)]) rfl ?_
        exact ih_12 (i + 1) _ (by omega) (by simp only [rnW, hx])
  refine Go_aload_n 0 rfl rfl dX1_renew_0 ?_
  refine Go_iload_n 1 rfl rfl dX1_renew_1 ?_
  refine Go_putIS fpX1_9 sh_102 dX1_renew_2 ?_
  refine Go_aload_n 0 rfl rfl dX1_renew_5 ?_
  refine Go_iload_n 2 rfl rfl dX1_renew_6 ?_
  refine Go_putIS fpX1_15 sh_102 dX1_renew_7 ?_
  refine Go_o 103 ?_
  refine Go_iconst (by unfold in32; omega) dX1_renew_10 ?_
  refine Go_istore_n (ls' := [(3, gI _), (0, gR 102), (1, gI _), (2, gI _)]) rfl dX1_renew_11 (by decide) rfl ?_
  refine Go_pick [1, 0] (ls' := [(0, gR 102), (3, gI _)]) rfl ?_
  exact loop_12 60 0 _ (by omega) rfl
set_option maxHeartbeats 4000000 in
set_option maxRecDepth 100000 in
theorem wr_102 {D : va_G} {ca : Nat → ClassId} {M : gMem} (hp : gPtr M) (i : Nat) (hi : i < 60) (v : Int) : Fn D ca mX1_write [gR 102, gI (i : Int), gJ v] SH M [] SH (wrM M 102 i v) := by
  refine Fn_of okX1_write (Nat.le_of_ble_eq_true rfl) (Or.inl ⟨rfl, rfl⟩) (Nat.le_refl _) (Nat.le_refl _) ?_
  refine Go_ls2 (ls' := [(0, gR 102), (1, gI _), (2, gJ _)]) rfl ?_
  refine Go_aload_n 0 rfl rfl dX1_write_0 ?_
  refine Go_getIv (v := M 102 0) rfl faX1_9 sh_102 dX1_write_1 ?_
  by_cases k0 : M 102 0 = 0
  · refine Go_lookup (off := 28) (tgt := 32) dX1_write_4 (by decide) (by rw [k0]; rfl) rfl ?_
    refine Go_aload_n 0 rfl rfl dX1_write_32 ?_
    refine Go_getR (c' := 103) faX1_18 sh_102 (pt_102_2 (M := M) hp) dX1_write_33 ?_
    refine Go_iload_n 1 rfl rfl dX1_write_36 ?_
    refine Go_lload_n 2 rfl rfl dX1_write_37 ?_
    refine Go_l2i dX1_write_38 ?_
    refine Go_i2b dX1_write_39 ?_
    refine Go_i2l dX1_write_40 ?_
    refine Go_lastore i sh_103 rfl (by omega) dX1_write_41 ?_
    refine Go_M (M2 := wrM M 102 i v) (by unfold wrM; rw [show wrF (M 102 0) v = _ from if_pos k0]) ?_
    refine Go_goto dX1_write_42 rfl ?_
    exact Go_ret rfl dX1_write_64
  by_cases k1 : M 102 0 = 1
  · refine Go_lookup (off := 41) (tgt := 45) dX1_write_4 (by decide) (by rw [k1]; rfl) rfl ?_
    refine Go_aload_n 0 rfl rfl dX1_write_45 ?_
    refine Go_getR (c' := 103) faX1_18 sh_102 (pt_102_2 (M := M) hp) dX1_write_46 ?_
    refine Go_iload_n 1 rfl rfl dX1_write_49 ?_
    refine Go_lload_n 2 rfl rfl dX1_write_50 ?_
    refine Go_l2i dX1_write_51 ?_
    refine Go_i2l dX1_write_52 ?_
    refine Go_lastore i sh_103 rfl (by omega) dX1_write_53 ?_
    refine Go_M (M2 := wrM M 102 i v) (by unfold wrM; rw [show wrF (M 102 0) v = _ from (if_neg k0).trans (if_pos k1)]) ?_
    refine Go_goto dX1_write_54 rfl ?_
    exact Go_ret rfl dX1_write_64
  · refine Go_lookup (off := 53) (tgt := 57) dX1_write_4 (by decide) (by have j1 : ¬ (0 : Int) = M 102 0 := fun q => k0 q.symm; have j4 : ¬ (1 : Int) = M 102 0 := fun q => k1 q.symm; simp [Op.lookupswitch.offset, j1, j4]) rfl ?_
    refine Go_aload_n 0 rfl rfl dX1_write_57 ?_
    refine Go_getR (c' := 103) faX1_18 sh_102 (pt_102_2 (M := M) hp) dX1_write_58 ?_
    refine Go_iload_n 1 rfl rfl dX1_write_61 ?_
    refine Go_lload_n 2 rfl rfl dX1_write_62 ?_
    refine Go_lastore i sh_103 rfl (by omega) dX1_write_63 ?_
    refine Go_M (M2 := wrM M 102 i v) (by unfold wrM; rw [show wrF (M 102 0) v = _ from (if_neg k0).trans (if_neg k1)]) ?_
    exact Go_ret rfl dX1_write_64
set_option maxHeartbeats 4000000 in
set_option maxRecDepth 100000 in
theorem hr_102 {D : va_G} {ca : Nat → ClassId} {M : gMem} (r : Nat) (hr : r < 2147483648) : Fn D ca mX1_holdsRoad [gR 102, gI (r : Int)] SH M [gI (bI (r < 20 ∧ (((r + 1) * 3 : Nat) : Int) ≤ M 102 1))] SH (M) := by
  refine Fn_of okX1_holdsRoad (Nat.le_of_ble_eq_true rfl) (Or.inr (Or.inr (Or.inl ⟨_, rfl, rfl, bI_01 _⟩))) (Nat.le_refl _) (Nat.le_refl _) ?_
  refine Go_ls2 (ls' := [(0, gR 102), (1, gI _)]) rfl ?_
  refine Go_iload_n 1 rfl rfl dX1_holdsRoad_0 ?_
  refine Go_bipush ⟨by decide, by unfold in32; omega⟩ dX1_holdsRoad_1 ?_
  refine Go_icmp_ge dX1_holdsRoad_3 rfl (fun h3 => ?_) (fun h3 => ?_)
  · skip
    refine Go_iconst (by unfold in32; omega) dX1_holdsRoad_22 ?_
    exact Go_ret (by rw [bI_f (by omega)]) dX1_holdsRoad_23
  · skip
    refine Go_iload_n 1 rfl rfl dX1_holdsRoad_6 ?_
    refine Go_iconst (by unfold in32; omega) dX1_holdsRoad_7 ?_
    refine Go_iaddn r 1 rfl rfl (by omega) dX1_holdsRoad_8 ?_
    refine Go_iconst (by unfold in32; omega) dX1_holdsRoad_9 ?_
    refine Go_imuln (r + 1) 3 rfl rfl (by omega) dX1_holdsRoad_10 ?_
    refine Go_aload_n 0 rfl rfl dX1_holdsRoad_11 ?_
    refine Go_getIv (v := M 102 1) rfl faX1_15 sh_102 dX1_holdsRoad_12 ?_
    refine Go_icmp_gt dX1_holdsRoad_15 rfl (fun h15 => ?_) (fun h15 => ?_)
    · skip
      refine Go_iconst (by unfold in32; omega) dX1_holdsRoad_22 ?_
      exact Go_ret (by rw [bI_f (by omega)]) dX1_holdsRoad_23
    · skip
      refine Go_iconst (by unfold in32; omega) dX1_holdsRoad_18 ?_
      refine Go_goto dX1_holdsRoad_19 rfl ?_
      exact Go_ret (by rw [bI_t (by omega)]) dX1_holdsRoad_23
set_option maxHeartbeats 4000000 in
set_option maxRecDepth 100000 in
theorem rt_102 {D : va_G} {ca : Nat → ClassId} {M : gMem} {nv np : Nat} (hC : CS M nv np) (lane : Int) (n : Nat) : Fn D ca mX8_refusalToDraw [gR 0, gR 102, gI lane, gI (n : Int)] SH M [gI (rtF nv M 102 lane n)] SH (M) := by
  refine Fn_of okX8_refusalToDraw (Nat.le_of_ble_eq_true rfl) (Or.inr (Or.inl ⟨_, rfl, rfl⟩)) (Nat.le_refl _) (Nat.le_refl _) ?_
  refine Go_ls2 (ls' := [(0, gR 0), (1, gR 102), (2, gI _), (3, gI _)]) rfl ?_
  have hv12 := hC.2.2.1
  have hn10 := hC.2.2.2.2
  have loop_25 : ∀ (k : Nat) (r : Nat), r + k = 20 → Go D ca none (gRm mX8_refusalToDraw (SH.length - SH.length) (gSz SH - gSz SH)) mX8_refusalToDraw 25 [(0, gR 0), (1, gR 102), (3, gI (n : Int)), (4, gI (r : Int))] [] SH M [gI (rfF nv (M 102 1) (M 103) n k r)] SH (M) := by
    intro k
    induction k with
    | zero =>
      intro r he
      refine Go_iload 3 rfl dX8_refusalToDraw_25 ?_
      refine Go_iload_n 2 rfl rfl dX8_refusalToDraw_27 ?_
      refine Go_icmp_ge dX8_refusalToDraw_28 rfl (fun h28 => ?_) (fun h28 => ?_)
      · skip
        refine Go_iconst (by unfold in32; omega) dX8_refusalToDraw_93 ?_
        exact Go_ret (by first | rw [show rfF nv (M 102 1) (M 103) n 0 r = 0 from if_pos (by omega)] | rw [show rfF nv (M 102 1) (M 103) n (k + 1) r = 0 from if_pos (by omega)]) dX8_refusalToDraw_94
      · skip
        refine Go_aload_n 1 rfl rfl dX8_refusalToDraw_31 ?_
        refine Go_iload 3 rfl dX8_refusalToDraw_32 ?_
        refine Go_callVI (q := vwCl[1]) (hr_102 r (by omega)) cwX8_337 imX1_holdsRoad rfl rfl ⟨Nat.le_of_ble_eq_true rfl, Nat.le_of_ble_eq_true rfl⟩ sh_102 rfl (Nat.le_of_ble_eq_true rfl) sh_rf dX8_refusalToDraw_34 ?_
        refine Go_if_ne dX8_refusalToDraw_37 rfl (fun h37 => ?_) (fun h37 => ?_)
        · skip
          replace h37 := bI_n.mp h37
          exact absurd h37 (by omega)
        · skip
          replace h37 := bI_0.mp h37
          refine Go_bipush ⟨by decide, by unfold in32; omega⟩ dX8_refusalToDraw_40 ?_
          exact Go_ret (by first | rw [show rfF nv (M 102 1) (M 103) n 0 r = -12 from if_neg (by omega)] | rw [show rfF nv (M 102 1) (M 103) n (k + 1) r = -12 from (if_neg (by omega)).trans (if_neg (by omega))]) dX8_refusalToDraw_42
    | succ k ih_25 =>
      intro r he
      refine Go_iload 3 rfl dX8_refusalToDraw_25 ?_
      refine Go_iload_n 2 rfl rfl dX8_refusalToDraw_27 ?_
      refine Go_icmp_ge dX8_refusalToDraw_28 rfl (fun h28 => ?_) (fun h28 => ?_)
      · skip
        refine Go_iconst (by unfold in32; omega) dX8_refusalToDraw_93 ?_
        exact Go_ret (by first | rw [show rfF nv (M 102 1) (M 103) n 0 r = 0 from if_pos (by omega)] | rw [show rfF nv (M 102 1) (M 103) n (k + 1) r = 0 from if_pos (by omega)]) dX8_refusalToDraw_94
      · skip
        refine Go_aload_n 1 rfl rfl dX8_refusalToDraw_31 ?_
        refine Go_iload 3 rfl dX8_refusalToDraw_32 ?_
        refine Go_callVI (q := vwCl[1]) (hr_102 r (by omega)) cwX8_337 imX1_holdsRoad rfl rfl ⟨Nat.le_of_ble_eq_true rfl, Nat.le_of_ble_eq_true rfl⟩ sh_102 rfl (Nat.le_of_ble_eq_true rfl) sh_rf dX8_refusalToDraw_34 ?_
        refine Go_if_ne dX8_refusalToDraw_37 rfl (fun h37 => ?_) (fun h37 => ?_)
        · skip
          replace h37 := bI_n.mp h37
          refine Go_iload 3 rfl dX8_refusalToDraw_43 ?_
          refine Go_iconst (by unfold in32; omega) dX8_refusalToDraw_45 ?_
          refine Go_imuln r 3 rfl rfl (by omega) dX8_refusalToDraw_46 ?_
          refine Go_istore (ls' := [(5, gI _), (0, gR 0), (1, gR 102), (3, gI _), (4, gI _)]) dX8_refusalToDraw_47 (by decide) rfl ?_
          refine Go_aload_n 1 rfl rfl dX8_refusalToDraw_49 ?_
          refine Go_getR (c' := 1) faX8_14 sh_0 (pt_0_0 (M := M) hC.1) dX8_refusalToDraw_50 ?_
          refine Go_aload_n 2 rfl rfl dX8_refusalToDraw_53 ?_
          refine Go_getR (c' := 103) faX8_340 sh_102 (pt_102_2 (M := M) hC.1) dX8_refusalToDraw_54 ?_
          refine Go_iload 0 rfl dX8_refusalToDraw_57 ?_
          refine Go_laloadv (r * 3) (v := M 103 (r * 3)) rfl sh_103 rfl (by omega) dX8_refusalToDraw_59 ?_
          refine Go_aload_n 2 rfl rfl dX8_refusalToDraw_60 ?_
          refine Go_getR (c' := 103) faX8_340 sh_102 (pt_102_2 (M := M) hC.1) dX8_refusalToDraw_61 ?_
          refine Go_iload 0 rfl dX8_refusalToDraw_64 ?_
          refine Go_iconst (by unfold in32; omega) dX8_refusalToDraw_66 ?_
          refine Go_iaddn (r * 3) 1 rfl rfl (by omega) dX8_refusalToDraw_67 ?_
          refine Go_laloadv ((r * 3) + 1) (v := M 103 ((r * 3) + 1)) rfl sh_103 rfl (by omega) dX8_refusalToDraw_68 ?_
          refine Go_aload_n 2 rfl rfl dX8_refusalToDraw_69 ?_
          refine Go_getR (c' := 103) faX8_340 sh_102 (pt_102_2 (M := M) hC.1) dX8_refusalToDraw_70 ?_
          refine Go_iload 0 rfl dX8_refusalToDraw_73 ?_
          refine Go_iconst (by unfold in32; omega) dX8_refusalToDraw_75 ?_
          refine Go_iaddn (r * 3) 2 rfl rfl (by omega) dX8_refusalToDraw_76 ?_
          refine Go_laloadv ((r * 3) + 2) (v := M 103 ((r * 3) + 2)) rfl sh_103 rfl (by omega) dX8_refusalToDraw_77 ?_
          refine Go_callVI (q := vwCl[6]) (fX6_takesRoad hC _ _ _) cwX8_105 imX6_takesRoad rfl rfl ⟨Nat.le_of_ble_eq_true rfl, Nat.le_of_ble_eq_true rfl⟩ sh_1 rfl (Nat.le_of_ble_eq_true rfl) sh_rf dX8_refusalToDraw_78 ?_
          refine Go_if_ne dX8_refusalToDraw_81 rfl (fun h81 => ?_) (fun h81 => ?_)
          · skip
            replace h81 := bI_n.mp h81
            refine Go_iincn r 1 rfl rfl (by omega) 4 (ls' := [(4, gI _), (5, gI _), (0, gR 0), (1, gR 102), (3, gI _)]) rfl dX8_refusalToDraw_87 (by decide) rfl ?_
            refine Go_goto dX8_refusalToDraw_90 rfl ?_
            refine Go_pick [2, 3, 4, 0] (ls' := [(0, gR 0), (1, gR 102), (3, gI _), (4, gI _)]) rfl ?_
            rw [show rfF nv (M 102 1) (M 103) n (k + 1) r = rfF nv (M 102 1) (M 103) n k (r + 1) from (if_neg (by omega)).trans ((if_pos (by omega)).trans (if_pos h81))]
            exact ih_25 (r + 1) (by omega)
          · skip
            replace h81 := bI_0.mp h81
            refine Go_bipush ⟨by decide, by unfold in32; omega⟩ dX8_refusalToDraw_84 ?_
            exact Go_ret (by rw [show rfF nv (M 102 1) (M 103) n (k + 1) r = -21 from (if_neg (by omega)).trans ((if_pos (by omega)).trans (if_neg h81))]) dX8_refusalToDraw_86
        · skip
          replace h37 := bI_0.mp h37
          refine Go_bipush ⟨by decide, by unfold in32; omega⟩ dX8_refusalToDraw_40 ?_
          exact Go_ret (by first | rw [show rfF nv (M 102 1) (M 103) n 0 r = -12 from if_neg (by omega)] | rw [show rfF nv (M 102 1) (M 103) n (k + 1) r = -12 from (if_neg (by omega)).trans (if_neg (by omega))]) dX8_refusalToDraw_42
  refine Go_aload_n 1 rfl rfl dX8_refusalToDraw_0 ?_
  refine Go_getIv (v := M 102 0) rfl faX8_154 sh_102 dX8_refusalToDraw_1 ?_
  refine Go_iconst (by unfold in32; omega) dX8_refusalToDraw_4 ?_
  refine Go_icmp_ne dX8_refusalToDraw_5 rfl (fun h5 => ?_) (fun h5 => ?_)
  · skip
    refine Go_aload_n 1 rfl rfl dX8_refusalToDraw_11 ?_
    refine Go_getIv (v := M 102 0) rfl faX8_154 sh_102 dX8_refusalToDraw_12 ?_
    refine Go_iload_n 2 rfl rfl dX8_refusalToDraw_15 ?_
    refine Go_icmp_eq dX8_refusalToDraw_16 rfl (fun h16 => ?_) (fun h16 => ?_)
    · skip
      refine Go_iconst (by unfold in32; omega) dX8_refusalToDraw_22 ?_
      refine Go_istore (ls' := [(4, gI _), (0, gR 0), (1, gR 102), (2, gI _), (3, gI _)]) dX8_refusalToDraw_23 (by decide) rfl ?_
      refine Go_pick [1, 2, 4, 0] (ls' := [(0, gR 0), (1, gR 102), (3, gI _), (4, gI _)]) rfl ?_
      rw [show rtF nv M 102 lane n = rfF nv (M 102 1) (M 103) n 20 0 from (if_neg h5).trans (if_pos h16)]
      exact loop_25 20 0 (by omega)
    · skip
      refine Go_bipush ⟨by decide, by unfold in32; omega⟩ dX8_refusalToDraw_19 ?_
      exact Go_ret (by unfold rtF; rw [if_neg h5, if_neg h16]) dX8_refusalToDraw_21
  · skip
    refine Go_bipush ⟨by decide, by unfold in32; omega⟩ dX8_refusalToDraw_8 ?_
    exact Go_ret (by unfold rtF; rw [if_pos h5]) dX8_refusalToDraw_10
set_option maxHeartbeats 4000000 in
set_option maxRecDepth 100000 in
theorem pf_102 {D : va_G} {ca : Nat → ClassId} {M : gMem} {nv np : Nat} (hC : CS M nv np) (L : Nat → Int) (n : Nat) (hn : n < 2147483648) (hok : ∀ r, r < n → r < 20 ∧ (((r + 1) * 3 : Nat) : Int) ≤ M 102 1 ∧ tkP nv (M 103) r) : Fn D ca mX8_paveFrom [gR 0, gR 102, gI (n : Int)] SH (gSet M 3 L) [] SH (gSet M 3 (pfS (M 103) L n)) := by
  refine Fn_of okX8_paveFrom (Nat.le_of_ble_eq_true rfl) (Or.inl ⟨rfl, rfl⟩) (Nat.le_refl _) (Nat.le_refl _) ?_
  refine Go_ls2 (ls' := [(0, gR 0), (1, gR 102), (2, gI _)]) rfl ?_
  have hv12 := hC.2.2.1
  have hn10 := hC.2.2.2.2
  have loop_2 : ∀ (k : Nat) (r : Nat) (q : Nat → Int), r + k = n → pfS (M 103) L r = q → Go D ca none (gRm mX8_paveFrom (SH.length - SH.length) (gSz SH - gSz SH)) mX8_paveFrom 2 [(0, gR 0), (1, gR 102), (2, gI (n : Int)), (3, gI (r : Int))] [] SH (gSet M 3 q) [] SH (gSet M 3 (pfS (M 103) L n)) := by
    intro k
    induction k with
    | zero =>
      intro r q he hx
      obtain rfl : n = r := by omega
      refine Go_iload_n 3 rfl rfl dX8_paveFrom_2 ?_
      refine Go_iload_n 2 rfl rfl dX8_paveFrom_3 ?_
      refine Go_icmp_ge dX8_paveFrom_4 rfl (fun h4 => ?_) (fun h4 => ?_)
      · skip
        subst hx
        exact Go_ret rfl dX8_paveFrom_61
      · skip
        first | exact absurd h4 (by omega) | exact absurd ⟨hr1, hr2⟩ h4
    | succ k ih_2 =>
      intro r q he hx
      obtain ⟨hr1, hr2, ⟨hx1, hx2⟩, ⟨hy1, hy2⟩, hxy, hz1, hz2⟩ := hok r (by omega)
      obtain ⟨x, ex⟩ := Int.eq_ofNat_of_zero_le hx1
      obtain ⟨y, ey⟩ := Int.eq_ofNat_of_zero_le hy1
      refine Go_iload_n 3 rfl rfl dX8_paveFrom_2 ?_
      refine Go_iload_n 2 rfl rfl dX8_paveFrom_3 ?_
      refine Go_icmp_ge dX8_paveFrom_4 rfl (fun h4 => ?_) (fun h4 => ?_)
      · skip
        first | exact absurd h4 (by omega) | exact absurd ⟨hr1, hr2⟩ h4
      · skip
        refine Go_aload_n 1 rfl rfl dX8_paveFrom_7 ?_
        refine Go_iload_n 3 rfl rfl dX8_paveFrom_8 ?_
        refine Go_callVI (q := vwCl[1]) (hr_102 (M := gSet M 3 q) r (by omega)) cwX8_337 imX1_holdsRoad rfl rfl ⟨Nat.le_of_ble_eq_true rfl, Nat.le_of_ble_eq_true rfl⟩ sh_102 rfl (Nat.le_of_ble_eq_true rfl) sh_rf dX8_paveFrom_9 ?_
        refine Go_if_eq dX8_paveFrom_12 rfl (fun h12 => ?_) (fun h12 => ?_)
        · skip
          replace h12 := bI_0.mp h12
          first | exact absurd h12 (by omega) | exact absurd ⟨hr1, hr2⟩ h12
        · skip
          replace h12 := bI_n.mp h12
          refine Go_iload_n 3 rfl rfl dX8_paveFrom_15 ?_
          refine Go_iconst (by unfold in32; omega) dX8_paveFrom_16 ?_
          refine Go_imuln r 3 rfl rfl (by omega) dX8_paveFrom_17 ?_
          refine Go_istore (ls' := [(4, gI _), (0, gR 0), (1, gR 102), (2, gI _), (3, gI _)]) dX8_paveFrom_18 (by decide) rfl ?_
          refine Go_aload_n 1 rfl rfl dX8_paveFrom_20 ?_
          refine Go_getR (c' := 1) faX8_14 sh_0 (pt_0_0 (M := M) hC.1) dX8_paveFrom_21 ?_
          refine Go_aload_n 2 rfl rfl dX8_paveFrom_24 ?_
          refine Go_getR (c' := 103) faX8_340 sh_102 (pt_102_2 (M := M) hC.1) dX8_paveFrom_25 ?_
          refine Go_iload 0 rfl dX8_paveFrom_28 ?_
          refine Go_laloadv (r * 3) (v := ((x : Nat) : Int)) ex sh_103 rfl (by omega) dX8_paveFrom_30 ?_
          refine Go_l2ic (by omega) dX8_paveFrom_31 ?_
          refine Go_aload_n 2 rfl rfl dX8_paveFrom_32 ?_
          refine Go_getR (c' := 103) faX8_340 sh_102 (pt_102_2 (M := M) hC.1) dX8_paveFrom_33 ?_
          refine Go_iload 0 rfl dX8_paveFrom_36 ?_
          refine Go_iconst (by unfold in32; omega) dX8_paveFrom_38 ?_
          refine Go_iaddn (r * 3) 1 rfl rfl (by omega) dX8_paveFrom_39 ?_
          refine Go_laloadv ((r * 3) + 1) (v := ((y : Nat) : Int)) ey sh_103 rfl (by omega) dX8_paveFrom_40 ?_
          refine Go_l2ic (by omega) dX8_paveFrom_41 ?_
          refine Go_aload_n 2 rfl rfl dX8_paveFrom_42 ?_
          refine Go_getR (c' := 103) faX8_340 sh_102 (pt_102_2 (M := M) hC.1) dX8_paveFrom_43 ?_
          refine Go_iload 0 rfl dX8_paveFrom_46 ?_
          refine Go_iconst (by unfold in32; omega) dX8_paveFrom_48 ?_
          refine Go_iaddn (r * 3) 2 rfl rfl (by omega) dX8_paveFrom_49 ?_
          refine Go_laloadv ((r * 3) + 2) (v := M 103 (r * 3 + 2)) rfl sh_103 rfl (by omega) dX8_paveFrom_50 ?_
          refine Go_l2ic (by omega) dX8_paveFrom_51 ?_
          refine Go_callV0 (q := vwCl[6]) (fX6_pave hC.1 q x y (by omega) (by omega) _) cwX8_112 imX6_pave rfl rfl ⟨Nat.le_of_ble_eq_true rfl, Nat.le_of_ble_eq_true rfl⟩ sh_1 rfl (Nat.le_of_ble_eq_true rfl) sh_rf dX8_paveFrom_52 ?_
          refine Go_iincn r 1 rfl rfl (by omega) 4 (ls' := [(3, gI _), (4, gI _), (0, gR 0), (1, gR 102), (2, gI _)]) rfl dX8_paveFrom_55 (by decide) rfl ?_
          refine Go_goto dX8_paveFrom_58 rfl ?_
          refine Go_pick [2, 3, 4, 0] (ls' := [(0, gR 0), (1, gR 102), (2, gI _), (3, gI _)]) rfl ?_
          exact ih_2 (r + 1) _ (by omega) (by simp only [pfS, hx, ex, ey, Int.toNat_natCast])
  refine Go_iconst (by unfold in32; omega) dX8_paveFrom_0 ?_
  refine Go_istore_n (ls' := [(3, gI _), (0, gR 0), (1, gR 102), (2, gI _)]) rfl dX8_paveFrom_1 (by decide) rfl ?_
  refine Go_pick [1, 2, 3, 0] (ls' := [(0, gR 0), (1, gR 102), (2, gI _), (3, gI _)]) rfl ?_
  exact loop_2 n 0 _ (by omega) rfl
set_option maxHeartbeats 4000000 in
set_option maxRecDepth 100000 in
theorem rn_104 {D : va_G} {ca : Nat → ClassId} {M : gMem} (hp : gPtr M) (z n : Int) : Fn D ca mX1_renew [gR 104, gI z, gI n] SH M [] SH (rnM M 104 z n) := by
  refine Fn_of okX1_renew (Nat.le_of_ble_eq_true rfl) (Or.inl ⟨rfl, rfl⟩) (Nat.le_refl _) (Nat.le_refl _) ?_
  refine Go_ls2 (ls' := [(0, gR 104), (1, gI _), (2, gI _)]) rfl ?_
  refine Go_o 104 ?_
  have loop_12 : ∀ (k : Nat) (i : Nat) (w : Nat → Int), i + k = 60 → rnW (M 105) i = w → Go D ca none (gRm mX1_renew (SH.length - SH.length) (gSz SH - gSz SH)) mX1_renew 12 [(0, gR 104), (3, gI (i : Int))] [] SH (gSet (gSet M 104 (gUp (gUp (M 104) 0 z) 1 n)) 105 w) [] SH (rnM M 104 z n) := by
    intro k
    induction k with
    | zero =>
      intro i w he hx
      have ei : i = 60 := by omega
      subst ei
      refine Go_iload_n 1 rfl rfl dX1_renew_12 ?_
      refine Go_bipush ⟨by decide, by unfold in32; omega⟩ dX1_renew_13 ?_
      refine Go_icmp_ge dX1_renew_15 rfl (fun h15 => ?_) (fun h15 => ?_)
      · skip
        subst hx
        exact Go_ret rfl dX1_renew_31
      · skip
        exact absurd h15 (by omega)
    | succ k ih_12 =>
      intro i w he hx
      refine Go_iload_n 1 rfl rfl dX1_renew_12 ?_
      refine Go_bipush ⟨by decide, by unfold in32; omega⟩ dX1_renew_13 ?_
      refine Go_icmp_ge dX1_renew_15 rfl (fun h15 => ?_) (fun h15 => ?_)
      · skip
        exact absurd h15 (by omega)
      · skip
        refine Go_aload_n 0 rfl rfl dX1_renew_18 ?_
        refine Go_getR (c' := 105) faX1_18 sh_104 (pt_104_2 (M := M) hp) dX1_renew_19 ?_
        refine Go_iload_n 1 rfl rfl dX1_renew_22 ?_
        refine Go_lconst (v := 0) ⟨rfl, by unfold in64; omega⟩ dX1_renew_23 ?_
        refine Go_lastoreS i sh_105 rfl (by omega) dX1_renew_24 ?_
        refine Go_iincn i 1 rfl rfl (by omega) 1 (ls' := [(3, gI _), (0, gR 104)]) rfl dX1_renew_25 (by decide) rfl ?_
        refine Go_goto dX1_renew_28 rfl ?_
        refine Go_pick [1, 0] (ls' := [(0, gR 104), (3, gI _)]) rfl ?_
        exact ih_12 (i + 1) _ (by omega) (by simp only [rnW, hx])
  refine Go_aload_n 0 rfl rfl dX1_renew_0 ?_
  refine Go_iload_n 1 rfl rfl dX1_renew_1 ?_
  refine Go_putIS fpX1_9 sh_104 dX1_renew_2 ?_
  refine Go_aload_n 0 rfl rfl dX1_renew_5 ?_
  refine Go_iload_n 2 rfl rfl dX1_renew_6 ?_
  refine Go_putIS fpX1_15 sh_104 dX1_renew_7 ?_
  refine Go_o 105 ?_
  refine Go_iconst (by unfold in32; omega) dX1_renew_10 ?_
  refine Go_istore_n (ls' := [(3, gI _), (0, gR 104), (1, gI _), (2, gI _)]) rfl dX1_renew_11 (by decide) rfl ?_
  refine Go_pick [1, 0] (ls' := [(0, gR 104), (3, gI _)]) rfl ?_
  exact loop_12 60 0 _ (by omega) rfl
set_option maxHeartbeats 4000000 in
set_option maxRecDepth 100000 in
theorem wr_104 {D : va_G} {ca : Nat → ClassId} {M : gMem} (hp : gPtr M) (i : Nat) (hi : i < 60) (v : Int) : Fn D ca mX1_write [gR 104, gI (i : Int), gJ v] SH M [] SH (wrM M 104 i v) := by
  refine Fn_of okX1_write (Nat.le_of_ble_eq_true rfl) (Or.inl ⟨rfl, rfl⟩) (Nat.le_refl _) (Nat.le_refl _) ?_
  refine Go_ls2 (ls' := [(0, gR 104), (1, gI _), (2, gJ _)]) rfl ?_
  refine Go_aload_n 0 rfl rfl dX1_write_0 ?_
  refine Go_getIv (v := M 104 0) rfl faX1_9 sh_104 dX1_write_1 ?_
  by_cases k0 : M 104 0 = 0
  · refine Go_lookup (off := 28) (tgt := 32) dX1_write_4 (by decide) (by rw [k0]; rfl) rfl ?_
    refine Go_aload_n 0 rfl rfl dX1_write_32 ?_
    refine Go_getR (c' := 105) faX1_18 sh_104 (pt_104_2 (M := M) hp) dX1_write_33 ?_
    refine Go_iload_n 1 rfl rfl dX1_write_36 ?_
    refine Go_lload_n 2 rfl rfl dX1_write_37 ?_
    refine Go_l2i dX1_write_38 ?_
    refine Go_i2b dX1_write_39 ?_
    refine Go_i2l dX1_write_40 ?_
    refine Go_lastore i sh_105 rfl (by omega) dX1_write_41 ?_
    refine Go_M (M2 := wrM M 104 i v) (by unfold wrM; rw [show wrF (M 104 0) v = _ from if_pos k0]) ?_
    refine Go_goto dX1_write_42 rfl ?_
    exact Go_ret rfl dX1_write_64
  by_cases k1 : M 104 0 = 1
  · refine Go_lookup (off := 41) (tgt := 45) dX1_write_4 (by decide) (by rw [k1]; rfl) rfl ?_
    refine Go_aload_n 0 rfl rfl dX1_write_45 ?_
    refine Go_getR (c' := 105) faX1_18 sh_104 (pt_104_2 (M := M) hp) dX1_write_46 ?_
    refine Go_iload_n 1 rfl rfl dX1_write_49 ?_
    refine Go_lload_n 2 rfl rfl dX1_write_50 ?_
    refine Go_l2i dX1_write_51 ?_
    refine Go_i2l dX1_write_52 ?_
    refine Go_lastore i sh_105 rfl (by omega) dX1_write_53 ?_
    refine Go_M (M2 := wrM M 104 i v) (by unfold wrM; rw [show wrF (M 104 0) v = _ from (if_neg k0).trans (if_pos k1)]) ?_
    refine Go_goto dX1_write_54 rfl ?_
    exact Go_ret rfl dX1_write_64
  · refine Go_lookup (off := 53) (tgt := 57) dX1_write_4 (by decide) (by have j1 : ¬ (0 : Int) = M 104 0 := fun q => k0 q.symm; have j4 : ¬ (1 : Int) = M 104 0 := fun q => k1 q.symm; simp [Op.lookupswitch.offset, j1, j4]) rfl ?_
    refine Go_aload_n 0 rfl rfl dX1_write_57 ?_
    refine Go_getR (c' := 105) faX1_18 sh_104 (pt_104_2 (M := M) hp) dX1_write_58 ?_
    refine Go_iload_n 1 rfl rfl dX1_write_61 ?_
    refine Go_lload_n 2 rfl rfl dX1_write_62 ?_
    refine Go_lastore i sh_105 rfl (by omega) dX1_write_63 ?_
    refine Go_M (M2 := wrM M 104 i v) (by unfold wrM; rw [show wrF (M 104 0) v = _ from (if_neg k0).trans (if_neg k1)]) ?_
    exact Go_ret rfl dX1_write_64
set_option maxHeartbeats 4000000 in
set_option maxRecDepth 100000 in
theorem hr_104 {D : va_G} {ca : Nat → ClassId} {M : gMem} (r : Nat) (hr : r < 2147483648) : Fn D ca mX1_holdsRoad [gR 104, gI (r : Int)] SH M [gI (bI (r < 20 ∧ (((r + 1) * 3 : Nat) : Int) ≤ M 104 1))] SH (M) := by
  refine Fn_of okX1_holdsRoad (Nat.le_of_ble_eq_true rfl) (Or.inr (Or.inr (Or.inl ⟨_, rfl, rfl, bI_01 _⟩))) (Nat.le_refl _) (Nat.le_refl _) ?_
  refine Go_ls2 (ls' := [(0, gR 104), (1, gI _)]) rfl ?_
  refine Go_iload_n 1 rfl rfl dX1_holdsRoad_0 ?_
  refine Go_bipush ⟨by decide, by unfold in32; omega⟩ dX1_holdsRoad_1 ?_
  refine Go_icmp_ge dX1_holdsRoad_3 rfl (fun h3 => ?_) (fun h3 => ?_)
  · skip
    refine Go_iconst (by unfold in32; omega) dX1_holdsRoad_22 ?_
    exact Go_ret (by rw [bI_f (by omega)]) dX1_holdsRoad_23
  · skip
    refine Go_iload_n 1 rfl rfl dX1_holdsRoad_6 ?_
    refine Go_iconst (by unfold in32; omega) dX1_holdsRoad_7 ?_
    refine Go_iaddn r 1 rfl rfl (by omega) dX1_holdsRoad_8 ?_
    refine Go_iconst (by unfold in32; omega) dX1_holdsRoad_9 ?_
    refine Go_imuln (r + 1) 3 rfl rfl (by omega) dX1_holdsRoad_10 ?_
    refine Go_aload_n 0 rfl rfl dX1_holdsRoad_11 ?_
    refine Go_getIv (v := M 104 1) rfl faX1_15 sh_104 dX1_holdsRoad_12 ?_
    refine Go_icmp_gt dX1_holdsRoad_15 rfl (fun h15 => ?_) (fun h15 => ?_)
    · skip
      refine Go_iconst (by unfold in32; omega) dX1_holdsRoad_22 ?_
      exact Go_ret (by rw [bI_f (by omega)]) dX1_holdsRoad_23
    · skip
      refine Go_iconst (by unfold in32; omega) dX1_holdsRoad_18 ?_
      refine Go_goto dX1_holdsRoad_19 rfl ?_
      exact Go_ret (by rw [bI_t (by omega)]) dX1_holdsRoad_23
set_option maxHeartbeats 4000000 in
set_option maxRecDepth 100000 in
theorem rt_104 {D : va_G} {ca : Nat → ClassId} {M : gMem} {nv np : Nat} (hC : CS M nv np) (lane : Int) (n : Nat) : Fn D ca mX8_refusalToDraw [gR 0, gR 104, gI lane, gI (n : Int)] SH M [gI (rtF nv M 104 lane n)] SH (M) := by
  refine Fn_of okX8_refusalToDraw (Nat.le_of_ble_eq_true rfl) (Or.inr (Or.inl ⟨_, rfl, rfl⟩)) (Nat.le_refl _) (Nat.le_refl _) ?_
  refine Go_ls2 (ls' := [(0, gR 0), (1, gR 104), (2, gI _), (3, gI _)]) rfl ?_
  have hv12 := hC.2.2.1
  have hn10 := hC.2.2.2.2
  have loop_25 : ∀ (k : Nat) (r : Nat), r + k = 20 → Go D ca none (gRm mX8_refusalToDraw (SH.length - SH.length) (gSz SH - gSz SH)) mX8_refusalToDraw 25 [(0, gR 0), (1, gR 104), (3, gI (n : Int)), (4, gI (r : Int))] [] SH M [gI (rfF nv (M 104 1) (M 105) n k r)] SH (M) := by
    intro k
    induction k with
    | zero =>
      intro r he
      refine Go_iload 3 rfl dX8_refusalToDraw_25 ?_
      refine Go_iload_n 2 rfl rfl dX8_refusalToDraw_27 ?_
      refine Go_icmp_ge dX8_refusalToDraw_28 rfl (fun h28 => ?_) (fun h28 => ?_)
      · skip
        refine Go_iconst (by unfold in32; omega) dX8_refusalToDraw_93 ?_
        exact Go_ret (by first | rw [show rfF nv (M 104 1) (M 105) n 0 r = 0 from if_pos (by omega)] | rw [show rfF nv (M 104 1) (M 105) n (k + 1) r = 0 from if_pos (by omega)]) dX8_refusalToDraw_94
      · skip
        refine Go_aload_n 1 rfl rfl dX8_refusalToDraw_31 ?_
        refine Go_iload 3 rfl dX8_refusalToDraw_32 ?_
        refine Go_callVI (q := vwCl[1]) (hr_104 r (by omega)) cwX8_337 imX1_holdsRoad rfl rfl ⟨Nat.le_of_ble_eq_true rfl, Nat.le_of_ble_eq_true rfl⟩ sh_104 rfl (Nat.le_of_ble_eq_true rfl) sh_rf dX8_refusalToDraw_34 ?_
        refine Go_if_ne dX8_refusalToDraw_37 rfl (fun h37 => ?_) (fun h37 => ?_)
        · skip
          replace h37 := bI_n.mp h37
          exact absurd h37 (by omega)
        · skip
          replace h37 := bI_0.mp h37
          refine Go_bipush ⟨by decide, by unfold in32; omega⟩ dX8_refusalToDraw_40 ?_
          exact Go_ret (by first | rw [show rfF nv (M 104 1) (M 105) n 0 r = -12 from if_neg (by omega)] | rw [show rfF nv (M 104 1) (M 105) n (k + 1) r = -12 from (if_neg (by omega)).trans (if_neg (by omega))]) dX8_refusalToDraw_42
    | succ k ih_25 =>
      intro r he
      refine Go_iload 3 rfl dX8_refusalToDraw_25 ?_
      refine Go_iload_n 2 rfl rfl dX8_refusalToDraw_27 ?_
      refine Go_icmp_ge dX8_refusalToDraw_28 rfl (fun h28 => ?_) (fun h28 => ?_)
      · skip
        refine Go_iconst (by unfold in32; omega) dX8_refusalToDraw_93 ?_
        exact Go_ret (by first | rw [show rfF nv (M 104 1) (M 105) n 0 r = 0 from if_pos (by omega)] | rw [show rfF nv (M 104 1) (M 105) n (k + 1) r = 0 from if_pos (by omega)]) dX8_refusalToDraw_94
      · skip
        refine Go_aload_n 1 rfl rfl dX8_refusalToDraw_31 ?_
        refine Go_iload 3 rfl dX8_refusalToDraw_32 ?_
        refine Go_callVI (q := vwCl[1]) (hr_104 r (by omega)) cwX8_337 imX1_holdsRoad rfl rfl ⟨Nat.le_of_ble_eq_true rfl, Nat.le_of_ble_eq_true rfl⟩ sh_104 rfl (Nat.le_of_ble_eq_true rfl) sh_rf dX8_refusalToDraw_34 ?_
        refine Go_if_ne dX8_refusalToDraw_37 rfl (fun h37 => ?_) (fun h37 => ?_)
        · skip
          replace h37 := bI_n.mp h37
          refine Go_iload 3 rfl dX8_refusalToDraw_43 ?_
          refine Go_iconst (by unfold in32; omega) dX8_refusalToDraw_45 ?_
          refine Go_imuln r 3 rfl rfl (by omega) dX8_refusalToDraw_46 ?_
          refine Go_istore (ls' := [(5, gI _), (0, gR 0), (1, gR 104), (3, gI _), (4, gI _)]) dX8_refusalToDraw_47 (by decide) rfl ?_
          refine Go_aload_n 1 rfl rfl dX8_refusalToDraw_49 ?_
          refine Go_getR (c' := 1) faX8_14 sh_0 (pt_0_0 (M := M) hC.1) dX8_refusalToDraw_50 ?_
          refine Go_aload_n 2 rfl rfl dX8_refusalToDraw_53 ?_
          refine Go_getR (c' := 105) faX8_340 sh_104 (pt_104_2 (M := M) hC.1) dX8_refusalToDraw_54 ?_
          refine Go_iload 0 rfl dX8_refusalToDraw_57 ?_
          refine Go_laloadv (r * 3) (v := M 105 (r * 3)) rfl sh_105 rfl (by omega) dX8_refusalToDraw_59 ?_
          refine Go_aload_n 2 rfl rfl dX8_refusalToDraw_60 ?_
          refine Go_getR (c' := 105) faX8_340 sh_104 (pt_104_2 (M := M) hC.1) dX8_refusalToDraw_61 ?_
          refine Go_iload 0 rfl dX8_refusalToDraw_64 ?_
          refine Go_iconst (by unfold in32; omega) dX8_refusalToDraw_66 ?_
          refine Go_iaddn (r * 3) 1 rfl rfl (by omega) dX8_refusalToDraw_67 ?_
          refine Go_laloadv ((r * 3) + 1) (v := M 105 ((r * 3) + 1)) rfl sh_105 rfl (by omega) dX8_refusalToDraw_68 ?_
          refine Go_aload_n 2 rfl rfl dX8_refusalToDraw_69 ?_
          refine Go_getR (c' := 105) faX8_340 sh_104 (pt_104_2 (M := M) hC.1) dX8_refusalToDraw_70 ?_
          refine Go_iload 0 rfl dX8_refusalToDraw_73 ?_
          refine Go_iconst (by unfold in32; omega) dX8_refusalToDraw_75 ?_
          refine Go_iaddn (r * 3) 2 rfl rfl (by omega) dX8_refusalToDraw_76 ?_
          refine Go_laloadv ((r * 3) + 2) (v := M 105 ((r * 3) + 2)) rfl sh_105 rfl (by omega) dX8_refusalToDraw_77 ?_
          refine Go_callVI (q := vwCl[6]) (fX6_takesRoad hC _ _ _) cwX8_105 imX6_takesRoad rfl rfl ⟨Nat.le_of_ble_eq_true rfl, Nat.le_of_ble_eq_true rfl⟩ sh_1 rfl (Nat.le_of_ble_eq_true rfl) sh_rf dX8_refusalToDraw_78 ?_
          refine Go_if_ne dX8_refusalToDraw_81 rfl (fun h81 => ?_) (fun h81 => ?_)
          · skip
            replace h81 := bI_n.mp h81
            refine Go_iincn r 1 rfl rfl (by omega) 4 (ls' := [(4, gI _), (5, gI _), (0, gR 0), (1, gR 104), (3, gI _)]) rfl dX8_refusalToDraw_87 (by decide) rfl ?_
            refine Go_goto dX8_refusalToDraw_90 rfl ?_
            refine Go_pick [2, 3, 4, 0] (ls' := [(0, gR 0), (1, gR 104), (3, gI _), (4, gI _)]) rfl ?_
            rw [show rfF nv (M 104 1) (M 105) n (k + 1) r = rfF nv (M 104 1) (M 105) n k (r + 1) from (if_neg (by omega)).trans ((if_pos (by omega)).trans (if_pos h81))]
            exact ih_25 (r + 1) (by omega)
          · skip
            replace h81 := bI_0.mp h81
            refine Go_bipush ⟨by decide, by unfold in32; omega⟩ dX8_refusalToDraw_84 ?_
            exact Go_ret (by rw [show rfF nv (M 104 1) (M 105) n (k + 1) r = -21 from (if_neg (by omega)).trans ((if_pos (by omega)).trans (if_neg h81))]) dX8_refusalToDraw_86
        · skip
          replace h37 := bI_0.mp h37
          refine Go_bipush ⟨by decide, by unfold in32; omega⟩ dX8_refusalToDraw_40 ?_
          exact Go_ret (by first | rw [show rfF nv (M 104 1) (M 105) n 0 r = -12 from if_neg (by omega)] | rw [show rfF nv (M 104 1) (M 105) n (k + 1) r = -12 from (if_neg (by omega)).trans (if_neg (by omega))]) dX8_refusalToDraw_42
  refine Go_aload_n 1 rfl rfl dX8_refusalToDraw_0 ?_
  refine Go_getIv (v := M 104 0) rfl faX8_154 sh_104 dX8_refusalToDraw_1 ?_
  refine Go_iconst (by unfold in32; omega) dX8_refusalToDraw_4 ?_
  refine Go_icmp_ne dX8_refusalToDraw_5 rfl (fun h5 => ?_) (fun h5 => ?_)
  · skip
    refine Go_aload_n 1 rfl rfl dX8_refusalToDraw_11 ?_
    refine Go_getIv (v := M 104 0) rfl faX8_154 sh_104 dX8_refusalToDraw_12 ?_
    refine Go_iload_n 2 rfl rfl dX8_refusalToDraw_15 ?_
    refine Go_icmp_eq dX8_refusalToDraw_16 rfl (fun h16 => ?_) (fun h16 => ?_)
    · skip
      refine Go_iconst (by unfold in32; omega) dX8_refusalToDraw_22 ?_
      refine Go_istore (ls' := [(4, gI _), (0, gR 0), (1, gR 104), (2, gI _), (3, gI _)]) dX8_refusalToDraw_23 (by decide) rfl ?_
      refine Go_pick [1, 2, 4, 0] (ls' := [(0, gR 0), (1, gR 104), (3, gI _), (4, gI _)]) rfl ?_
      rw [show rtF nv M 104 lane n = rfF nv (M 104 1) (M 105) n 20 0 from (if_neg h5).trans (if_pos h16)]
      exact loop_25 20 0 (by omega)
    · skip
      refine Go_bipush ⟨by decide, by unfold in32; omega⟩ dX8_refusalToDraw_19 ?_
      exact Go_ret (by unfold rtF; rw [if_neg h5, if_neg h16]) dX8_refusalToDraw_21
  · skip
    refine Go_bipush ⟨by decide, by unfold in32; omega⟩ dX8_refusalToDraw_8 ?_
    exact Go_ret (by unfold rtF; rw [if_pos h5]) dX8_refusalToDraw_10
set_option maxHeartbeats 4000000 in
set_option maxRecDepth 100000 in
theorem pf_104 {D : va_G} {ca : Nat → ClassId} {M : gMem} {nv np : Nat} (hC : CS M nv np) (L : Nat → Int) (n : Nat) (hn : n < 2147483648) (hok : ∀ r, r < n → r < 20 ∧ (((r + 1) * 3 : Nat) : Int) ≤ M 104 1 ∧ tkP nv (M 105) r) : Fn D ca mX8_paveFrom [gR 0, gR 104, gI (n : Int)] SH (gSet M 3 L) [] SH (gSet M 3 (pfS (M 105) L n)) := by
  refine Fn_of okX8_paveFrom (Nat.le_of_ble_eq_true rfl) (Or.inl ⟨rfl, rfl⟩) (Nat.le_refl _) (Nat.le_refl _) ?_
  refine Go_ls2 (ls' := [(0, gR 0), (1, gR 104), (2, gI _)]) rfl ?_
  have hv12 := hC.2.2.1
  have hn10 := hC.2.2.2.2
  have loop_2 : ∀ (k : Nat) (r : Nat) (q : Nat → Int), r + k = n → pfS (M 105) L r = q → Go D ca none (gRm mX8_paveFrom (SH.length - SH.length) (gSz SH - gSz SH)) mX8_paveFrom 2 [(0, gR 0), (1, gR 104), (2, gI (n : Int)), (3, gI (r : Int))] [] SH (gSet M 3 q) [] SH (gSet M 3 (pfS (M 105) L n)) := by
    intro k
    induction k with
    | zero =>
      intro r q he hx
      obtain rfl : n = r := by omega
      refine Go_iload_n 3 rfl rfl dX8_paveFrom_2 ?_
      refine Go_iload_n 2 rfl rfl dX8_paveFrom_3 ?_
      refine Go_icmp_ge dX8_paveFrom_4 rfl (fun h4 => ?_) (fun h4 => ?_)
      · skip
        subst hx
        exact Go_ret rfl dX8_paveFrom_61
      · skip
        first | exact absurd h4 (by omega) | exact absurd ⟨hr1, hr2⟩ h4
    | succ k ih_2 =>
      intro r q he hx
      obtain ⟨hr1, hr2, ⟨hx1, hx2⟩, ⟨hy1, hy2⟩, hxy, hz1, hz2⟩ := hok r (by omega)
      obtain ⟨x, ex⟩ := Int.eq_ofNat_of_zero_le hx1
      obtain ⟨y, ey⟩ := Int.eq_ofNat_of_zero_le hy1
      refine Go_iload_n 3 rfl rfl dX8_paveFrom_2 ?_
      refine Go_iload_n 2 rfl rfl dX8_paveFrom_3 ?_
      refine Go_icmp_ge dX8_paveFrom_4 rfl (fun h4 => ?_) (fun h4 => ?_)
      · skip
        first | exact absurd h4 (by omega) | exact absurd ⟨hr1, hr2⟩ h4
      · skip
        refine Go_aload_n 1 rfl rfl dX8_paveFrom_7 ?_
        refine Go_iload_n 3 rfl rfl dX8_paveFrom_8 ?_
        refine Go_callVI (q := vwCl[1]) (hr_104 (M := gSet M 3 q) r (by omega)) cwX8_337 imX1_holdsRoad rfl rfl ⟨Nat.le_of_ble_eq_true rfl, Nat.le_of_ble_eq_true rfl⟩ sh_104 rfl (Nat.le_of_ble_eq_true rfl) sh_rf dX8_paveFrom_9 ?_
        refine Go_if_eq dX8_paveFrom_12 rfl (fun h12 => ?_) (fun h12 => ?_)
        · skip
          replace h12 := bI_0.mp h12
          first | exact absurd h12 (by omega) | exact absurd ⟨hr1, hr2⟩ h12
        · skip
          replace h12 := bI_n.mp h12
          refine Go_iload_n 3 rfl rfl dX8_paveFrom_15 ?_
          refine Go_iconst (by unfold in32; omega) dX8_paveFrom_16 ?_
          refine Go_imuln r 3 rfl rfl (by omega) dX8_paveFrom_17 ?_
          refine Go_istore (ls' := [(4, gI _), (0, gR 0), (1, gR 104), (2, gI _), (3, gI _)]) dX8_paveFrom_18 (by decide) rfl ?_
          refine Go_aload_n 1 rfl rfl dX8_paveFrom_20 ?_
          refine Go_getR (c' := 1) faX8_14 sh_0 (pt_0_0 (M := M) hC.1) dX8_paveFrom_21 ?_
          refine Go_aload_n 2 rfl rfl dX8_paveFrom_24 ?_
          refine Go_getR (c' := 105) faX8_340 sh_104 (pt_104_2 (M := M) hC.1) dX8_paveFrom_25 ?_
          refine Go_iload 0 rfl dX8_paveFrom_28 ?_
          refine Go_laloadv (r * 3) (v := ((x : Nat) : Int)) ex sh_105 rfl (by omega) dX8_paveFrom_30 ?_
          refine Go_l2ic (by omega) dX8_paveFrom_31 ?_
          refine Go_aload_n 2 rfl rfl dX8_paveFrom_32 ?_
          refine Go_getR (c' := 105) faX8_340 sh_104 (pt_104_2 (M := M) hC.1) dX8_paveFrom_33 ?_
          refine Go_iload 0 rfl dX8_paveFrom_36 ?_
          refine Go_iconst (by unfold in32; omega) dX8_paveFrom_38 ?_
          refine Go_iaddn (r * 3) 1 rfl rfl (by omega) dX8_paveFrom_39 ?_
          refine Go_laloadv ((r * 3) + 1) (v := ((y : Nat) : Int)) ey sh_105 rfl (by omega) dX8_paveFrom_40 ?_
          refine Go_l2ic (by omega) dX8_paveFrom_41 ?_
          refine Go_aload_n 2 rfl rfl dX8_paveFrom_42 ?_
          refine Go_getR (c' := 105) faX8_340 sh_104 (pt_104_2 (M := M) hC.1) dX8_paveFrom_43 ?_
          refine Go_iload 0 rfl dX8_paveFrom_46 ?_
          refine Go_iconst (by unfold in32; omega) dX8_paveFrom_48 ?_
          refine Go_iaddn (r * 3) 2 rfl rfl (by omega) dX8_paveFrom_49 ?_
          refine Go_laloadv ((r * 3) + 2) (v := M 105 (r * 3 + 2)) rfl sh_105 rfl (by omega) dX8_paveFrom_50 ?_
          refine Go_l2ic (by omega) dX8_paveFrom_51 ?_
          refine Go_callV0 (q := vwCl[6]) (fX6_pave hC.1 q x y (by omega) (by omega) _) cwX8_112 imX6_pave rfl rfl ⟨Nat.le_of_ble_eq_true rfl, Nat.le_of_ble_eq_true rfl⟩ sh_1 rfl (Nat.le_of_ble_eq_true rfl) sh_rf dX8_paveFrom_52 ?_
          refine Go_iincn r 1 rfl rfl (by omega) 4 (ls' := [(3, gI _), (4, gI _), (0, gR 0), (1, gR 104), (2, gI _)]) rfl dX8_paveFrom_55 (by decide) rfl ?_
          refine Go_goto dX8_paveFrom_58 rfl ?_
          refine Go_pick [2, 3, 4, 0] (ls' := [(0, gR 0), (1, gR 104), (2, gI _), (3, gI _)]) rfl ?_
          exact ih_2 (r + 1) _ (by omega) (by simp only [pfS, hx, ex, ey, Int.toNat_natCast])
  refine Go_iconst (by unfold in32; omega) dX8_paveFrom_0 ?_
  refine Go_istore_n (ls' := [(3, gI _), (0, gR 0), (1, gR 104), (2, gI _)]) rfl dX8_paveFrom_1 (by decide) rfl ?_
  refine Go_pick [1, 2, 3, 0] (ls' := [(0, gR 0), (1, gR 104), (2, gI _), (3, gI _)]) rfl ?_
  exact loop_2 n 0 _ (by omega) rfl
theorem rnP {D : va_G} {ca : Nat → ClassId} {M : gMem} (hp : gPtr M) (k : Nat) (hk : k < 4) (z n : Int) : Fn D ca mX1_renew [gR (98 + 2 * k), gI z, gI n] SH M [] SH (rnM M (98 + 2 * k) z n) := by
  match k, hk with
  | 0, _ => exact rn_98 hp z n
  | 1, _ => exact rn_100 hp z n
  | 2, _ => exact rn_102 hp z n
  | 3, _ => exact rn_104 hp z n
  | k + 4, hk => omega
theorem wrP {D : va_G} {ca : Nat → ClassId} {M : gMem} (hp : gPtr M) (k : Nat) (hk : k < 4) (i : Nat) (hi : i < 60) (v : Int) : Fn D ca mX1_write [gR (98 + 2 * k), gI (i : Int), gJ v] SH M [] SH (wrM M (98 + 2 * k) i v) := by
  match k, hk with
  | 0, _ => exact wr_98 hp i hi v
  | 1, _ => exact wr_100 hp i hi v
  | 2, _ => exact wr_102 hp i hi v
  | 3, _ => exact wr_104 hp i hi v
  | k + 4, hk => omega
theorem rtP {D : va_G} {ca : Nat → ClassId} {M : gMem} {nv np : Nat} (hC : CS M nv np) (k : Nat) (hk : k < 4) (lane : Int) (n : Nat) : Fn D ca mX8_refusalToDraw [gR 0, gR (98 + 2 * k), gI lane, gI (n : Int)] SH M [gI (rtF nv M (98 + 2 * k) lane n)] SH M := by
  match k, hk with
  | 0, _ => exact rt_98 hC lane n
  | 1, _ => exact rt_100 hC lane n
  | 2, _ => exact rt_102 hC lane n
  | 3, _ => exact rt_104 hC lane n
  | k + 4, hk => omega
theorem pfP {D : va_G} {ca : Nat → ClassId} {M : gMem} {nv np : Nat} (hC : CS M nv np) (k : Nat) (hk : k < 4) (L : Nat → Int) (n : Nat) (hn : n < 2147483648) (hok : ∀ r, r < n → r < 20 ∧ (((r + 1) * 3 : Nat) : Int) ≤ M (98 + 2 * k) 1 ∧ tkP nv (M (98 + 2 * k + 1)) r) : Fn D ca mX8_paveFrom [gR 0, gR (98 + 2 * k), gI (n : Int)] SH (gSet M 3 L) [] SH (gSet M 3 (pfS (M (98 + 2 * k + 1)) L n)) := by
  match k, hk with
  | 0, _ => exact pf_98 hC L n hn hok
  | 1, _ => exact pf_100 hC L n hn hok
  | 2, _ => exact pf_102 hC L n hn hok
  | 3, _ => exact pf_104 hC L n hn hok
  | k + 4, hk => omega
theorem sh_ch {k : Nat} (hk : k < 4) : SH[98 + 2 * k]? = some (0, 1) := by
  match k, hk with
  | 0, _ => rfl
  | 1, _ => rfl
  | 2, _ => rfl
  | 3, _ => rfl
  | k + 4, hk => omega
theorem pt_ch {M : gMem} (hp : gPtr M) {k : Nat} (hk : k < 4) : M 87 k = ((98 + 2 * k : Nat) : Int) + 1 := by
  match k, hk with
  | 0, _ => exact pt_87_0 hp
  | 1, _ => exact pt_87_1 hp
  | 2, _ => exact pt_87_2 hp
  | 3, _ => exact pt_87_3 hp
  | k + 4, hk => omega
