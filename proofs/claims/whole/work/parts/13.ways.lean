/-! the ways of the class, as its loops work them out -/
def trI (L : Nat → Int) (a : Nat) (r : Nat → Int) : Nat → (Nat → Int)
  | 0 => r
  | b + 1 => gUp (trI L a r b) (a * 12 + b) (if 0 < L (a * 12 + b) then L (a * 12 + b) else 1000000)
def trO (L : Nat → Int) (nv : Nat) (r : Nat → Int) : Nat → (Nat → Int)
  | 0 => r
  | a + 1 => gUp (trI L a (trO L nv r a) nv) (a * 12 + a) 0
def shI (f : Int) (w a : Nat) (r : Nat → Int) : Nat → (Nat → Int)
  | 0 => r
  | b + 1 => if w32 (f + shI f w a r b (w * 12 + b)) < shI f w a r b (a * 12 + b) then gUp (shI f w a r b) (a * 12 + b) (w32 (f + shI f w a r b (w * 12 + b))) else shI f w a r b
def shF (a w nv : Nat) (r : Nat → Int) : Nat → Int := if r (a * 12 + w) = 1000000 then r else shI (r (a * 12 + w)) w a r nv
def meI (w nv : Nat) (r : Nat → Int) : Nat → (Nat → Int)
  | 0 => r
  | a + 1 => shF a w nv (meI w nv r a)
def meO (nv : Nat) (r : Nat → Int) : Nat → (Nat → Int)
  | 0 => r
  | w + 1 => meI w nv (meO nv r w) nv
set_option maxHeartbeats 4000000 in
set_option maxRecDepth 100000 in
theorem fX7_takeRoads {D : va_G} {ca : Nat → ClassId} {M : gMem} {nv np : Nat} (hC : CS M nv np) : Fn D ca mX7_takeRoads [gR 88, gR 1] SH M [] SH (gSet M 89 (trO (M 3) nv (M 89) nv)) := by
  refine Fn_of okX7_takeRoads (Nat.le_of_ble_eq_true rfl) (Or.inl ⟨rfl, rfl⟩) (Nat.le_refl _) (Nat.le_refl _) ?_
  refine Go_ls2 (ls' := [(0, gR 88), (1, gR 1)]) rfl ?_
  have hv12 := hC.2.2.1
  have hn10 := hC.2.2.2.2
  refine Go_o 89 ?_
  have loop_2 : ∀ (k : Nat) (a : Nat) (r : Nat → Int), a + k = nv → trO (M 3) nv (M 89) a = r → Go D ca none (gRm mX7_takeRoads (SH.length - SH.length) (gSz SH - gSz SH)) mX7_takeRoads 2 [(0, gR 88), (1, gR 1), (2, gI (a : Int))] [] SH (gSet M 89 r) [] SH (gSet M 89 (trO (M 3) nv (M 89) nv)) := by
    intro k
    induction k with
    | zero =>
      intro a r ha hr
      obtain rfl : nv = a := by omega
      refine Go_iload_n 2 rfl rfl dX7_takeRoads_2 ?_
      refine Go_aload_n 1 rfl rfl dX7_takeRoads_3 ?_
      refine Go_getIv (v := (nv : Int)) hC.2.1 faX7_19 sh_1 dX7_takeRoads_4 ?_
      refine Go_icmp_ge dX7_takeRoads_7 rfl (fun h7 => ?_) (fun h7 => ?_)
      · skip
        subst hr
        exact Go_ret rfl dX7_takeRoads_75
      · skip
        exact absurd h7 (by omega)
    | succ k ih_2 =>
      intro a r ha hr
      have loop_12 : ∀ (k : Nat) (b : Nat) (q : Nat → Int), b + k = nv → trI (M 3) a r b = q → Go D ca none (gRm mX7_takeRoads (SH.length - SH.length) (gSz SH - gSz SH)) mX7_takeRoads 12 [(0, gR 88), (1, gR 1), (2, gI (a : Int)), (3, gI (b : Int))] [] SH (gSet M 89 q) [] SH (gSet M 89 (trO (M 3) nv (M 89) nv)) := by
        intro k
        induction k with
        | zero =>
          intro b q hb hq
          obtain rfl : nv = b := by omega
          refine Go_iload_n 3 rfl rfl dX7_takeRoads_12 ?_
          refine Go_aload_n 1 rfl rfl dX7_takeRoads_13 ?_
          refine Go_getIv (v := (nv : Int)) hC.2.1 faX7_19 sh_1 dX7_takeRoads_14 ?_
          refine Go_icmp_ge dX7_takeRoads_17 rfl (fun h17 => ?_) (fun h17 => ?_)
          · skip
            refine Go_aload_n 0 rfl rfl dX7_takeRoads_57 ?_
            refine Go_getR (c' := 89) faX7_9 sh_88 (pt_88_0 (M := M) hC.1) dX7_takeRoads_58 ?_
            refine Go_iload_n 2 rfl rfl dX7_takeRoads_61 ?_
            refine Go_bipush ⟨by decide, by unfold in32; omega⟩ dX7_takeRoads_62 ?_
            refine Go_imuln a 12 rfl rfl (by omega) dX7_takeRoads_64 ?_
            refine Go_iload_n 2 rfl rfl dX7_takeRoads_65 ?_
            refine Go_iaddn (a * 12) a rfl rfl (by omega) dX7_takeRoads_66 ?_
            refine Go_iconst (by unfold in32; omega) dX7_takeRoads_67 ?_
            refine Go_iastoreS ((a * 12) + a) sh_89 rfl (by omega) dX7_takeRoads_68 ?_
            refine Go_iincn a 1 rfl rfl (by omega) 2 (ls' := [(2, gI _), (0, gR 88), (1, gR 1), (3, gI _)]) rfl dX7_takeRoads_69 (by decide) rfl ?_
            refine Go_goto dX7_takeRoads_72 rfl ?_
            refine Go_pick [1, 2, 0] (ls' := [(0, gR 88), (1, gR 1), (2, gI _)]) rfl ?_
            exact ih_2 (a + 1) _ (by omega) (by simp only [trO, hr, hq])
          · skip
            exact absurd h17 (by omega)
        | succ k ih_12 =>
          intro b q hb hq
          refine Go_iload_n 3 rfl rfl dX7_takeRoads_12 ?_
          refine Go_aload_n 1 rfl rfl dX7_takeRoads_13 ?_
          refine Go_getIv (v := (nv : Int)) hC.2.1 faX7_19 sh_1 dX7_takeRoads_14 ?_
          refine Go_icmp_ge dX7_takeRoads_17 rfl (fun h17 => ?_) (fun h17 => ?_)
          · skip
            exact absurd h17 (by omega)
          · skip
            refine Go_aload_n 1 rfl rfl dX7_takeRoads_20 ?_
            refine Go_iload_n 2 rfl rfl dX7_takeRoads_21 ?_
            refine Go_iload_n 3 rfl rfl dX7_takeRoads_22 ?_
            refine Go_callVI (q := vwCl[6]) (fX6_lengthOf ((CS_row hC rfl)).1 a b (by omega) (by omega) (v := M 3 (a * 12 + b)) rfl) cwX7_29 imX6_lengthOf rfl rfl ⟨Nat.le_of_ble_eq_true rfl, Nat.le_of_ble_eq_true rfl⟩ sh_1 rfl (Nat.le_of_ble_eq_true rfl) sh_rf dX7_takeRoads_23 ?_
            refine Go_istore (ls' := [(4, gI _), (0, gR 88), (1, gR 1), (2, gI _), (3, gI _)]) dX7_takeRoads_26 (by decide) rfl ?_
            refine Go_aload_n 1 rfl rfl dX7_takeRoads_28 ?_
            refine Go_getR (c' := 89) faX7_9 sh_88 (pt_88_0 (M := M) hC.1) dX7_takeRoads_29 ?_
            refine Go_iload_n 3 rfl rfl dX7_takeRoads_32 ?_
            refine Go_bipush ⟨by decide, by unfold in32; omega⟩ dX7_takeRoads_33 ?_
            refine Go_imuln a 12 rfl rfl (by omega) dX7_takeRoads_35 ?_
            refine Go_iload_n 4 rfl rfl dX7_takeRoads_36 ?_
            refine Go_iaddn (a * 12) b rfl rfl (by omega) dX7_takeRoads_37 ?_
            refine Go_iload 0 rfl dX7_takeRoads_38 ?_
            refine Go_if_le dX7_takeRoads_40 rfl (fun h40 => ?_) (fun h40 => ?_)
            · skip
              refine Go_ldc kcX7_33 (by unfold in32; omega) dX7_takeRoads_48 ?_
              refine Go_iastoreS ((a * 12) + b) sh_89 rfl (by omega) dX7_takeRoads_50 ?_
              refine Go_iincn b 1 rfl rfl (by omega) 4 (ls' := [(3, gI _), (4, gI _), (0, gR 88), (1, gR 1), (2, gI _)]) rfl dX7_takeRoads_51 (by decide) rfl ?_
              refine Go_goto dX7_takeRoads_54 rfl ?_
              refine Go_pick [2, 3, 4, 0] (ls' := [(0, gR 88), (1, gR 1), (2, gI _), (3, gI _)]) rfl ?_
              exact ih_12 (b + 1) _ (by omega) (by simp only [trI, hq]; repeat (first | rw [if_pos (by omega)] | rw [if_neg (by omega)]))
            · skip
              refine Go_iload 0 rfl dX7_takeRoads_43 ?_
              refine Go_goto dX7_takeRoads_45 rfl ?_
              refine Go_iastoreS ((a * 12) + b) sh_89 rfl (by omega) dX7_takeRoads_50 ?_
              refine Go_iincn b 1 rfl rfl (by omega) 4 (ls' := [(3, gI _), (4, gI _), (0, gR 88), (1, gR 1), (2, gI _)]) rfl dX7_takeRoads_51 (by decide) rfl ?_
              refine Go_goto dX7_takeRoads_54 rfl ?_
              refine Go_pick [2, 3, 4, 0] (ls' := [(0, gR 88), (1, gR 1), (2, gI _), (3, gI _)]) rfl ?_
              exact ih_12 (b + 1) _ (by omega) (by simp only [trI, hq]; repeat (first | rw [if_pos (by omega)] | rw [if_neg (by omega)]))
      refine Go_iload_n 2 rfl rfl dX7_takeRoads_2 ?_
      refine Go_aload_n 1 rfl rfl dX7_takeRoads_3 ?_
      refine Go_getIv (v := (nv : Int)) hC.2.1 faX7_19 sh_1 dX7_takeRoads_4 ?_
      refine Go_icmp_ge dX7_takeRoads_7 rfl (fun h7 => ?_) (fun h7 => ?_)
      · skip
        exact absurd h7 (by omega)
      · skip
        refine Go_iconst (by unfold in32; omega) dX7_takeRoads_10 ?_
        refine Go_istore_n (ls' := [(3, gI _), (0, gR 88), (1, gR 1), (2, gI _)]) rfl dX7_takeRoads_11 (by decide) rfl ?_
        refine Go_pick [1, 2, 3, 0] (ls' := [(0, gR 88), (1, gR 1), (2, gI _), (3, gI _)]) rfl ?_
        exact loop_12 nv 0 _ (by omega) rfl
  refine Go_iconst (by unfold in32; omega) dX7_takeRoads_0 ?_
  refine Go_istore_n (ls' := [(2, gI _), (0, gR 88), (1, gR 1)]) rfl dX7_takeRoads_1 (by decide) rfl ?_
  refine Go_pick [1, 2, 0] (ls' := [(0, gR 88), (1, gR 1), (2, gI _)]) rfl ?_
  exact loop_2 nv 0 _ (by omega) rfl
set_option maxHeartbeats 4000000 in
set_option maxRecDepth 100000 in
theorem fX7_shorten {D : va_G} {ca : Nat → ClassId} {M : gMem} {nv np : Nat} (hC : CS M nv np) (r : Nat → Int) (a w n : Nat) (ha : a < 12) (hw : w < 12) (hn : n ≤ 12) : Fn D ca mX7_shorten [gR 88, gI (a : Int), gI (w : Int), gI (n : Int)] SH (gSet M 89 r) [] SH (gSet M 89 (shF a w n r)) := by
  refine Fn_of okX7_shorten (Nat.le_of_ble_eq_true rfl) (Or.inl ⟨rfl, rfl⟩) (Nat.le_refl _) (Nat.le_refl _) ?_
  refine Go_ls2 (ls' := [(0, gR 88), (1, gI _), (2, gI _), (3, gI _)]) rfl ?_
  have loop_19 : r (a * 12 + w) ≠ 1000000 → ∀ (k : Nat) (b : Nat) (q : Nat → Int), b + k = n → shI (r (a * 12 + w)) w a r b = q → Go D ca none (gRm mX7_shorten (SH.length - SH.length) (gSz SH - gSz SH)) mX7_shorten 19 [(0, gR 88), (1, gI (a : Int)), (2, gI (w : Int)), (3, gI (n : Int)), (4, gI (r (a * 12 + w))), (5, gI (b : Int))] [] SH (gSet M 89 q) [] SH (gSet M 89 (shF a w n r)) := by
    intro hf k
    induction k with
    | zero =>
      intro b q hb hq
      obtain rfl : n = b := by omega
      refine Go_iload 5 rfl dX7_shorten_19 ?_
      refine Go_iload_n 3 rfl rfl dX7_shorten_21 ?_
      refine Go_icmp_ge dX7_shorten_22 rfl (fun h22 => ?_) (fun h22 => ?_)
      · skip
        subst hq
        rw [show shF a w n r = shI (r (a * 12 + w)) w a r n from if_neg hf]
        exact Go_ret rfl dX7_shorten_69
      · skip
        exact absurd h22 (by omega)
    | succ k ih_19 =>
      intro b q hb hq
      refine Go_iload 5 rfl dX7_shorten_19 ?_
      refine Go_iload_n 3 rfl rfl dX7_shorten_21 ?_
      refine Go_icmp_ge dX7_shorten_22 rfl (fun h22 => ?_) (fun h22 => ?_)
      · skip
        exact absurd h22 (by omega)
      · skip
        refine Go_iload 4 rfl dX7_shorten_25 ?_
        refine Go_aload_n 0 rfl rfl dX7_shorten_27 ?_
        refine Go_iload_n 2 rfl rfl dX7_shorten_28 ?_
        refine Go_iload 5 rfl dX7_shorten_29 ?_
        refine Go_callVI (q := vwCl[7]) (fX7_between ((CS_row hC rfl)).1 w b (by omega) (by omega) (v := q (w * 12 + b)) rfl) cwX7_34 imX7_between rfl rfl ⟨Nat.le_of_ble_eq_true rfl, Nat.le_of_ble_eq_true rfl⟩ sh_88 rfl (Nat.le_of_ble_eq_true rfl) sh_rf dX7_shorten_31 ?_
        refine Go_iadd dX7_shorten_34 ?_
        refine Go_istore (ls' := [(6, gI _), (0, gR 88), (1, gI _), (2, gI _), (3, gI _), (4, gI _), (5, gI _)]) dX7_shorten_35 (by decide) rfl ?_
        refine Go_iload 0 rfl dX7_shorten_37 ?_
        refine Go_aload_n 1 rfl rfl dX7_shorten_39 ?_
        refine Go_iload_n 2 rfl rfl dX7_shorten_40 ?_
        refine Go_iload 6 rfl dX7_shorten_41 ?_
        refine Go_callVI (q := vwCl[7]) (fX7_between ((CS_row hC rfl)).1 a b (by omega) (by omega) (v := q (a * 12 + b)) rfl) cwX7_34 imX7_between rfl rfl ⟨Nat.le_of_ble_eq_true rfl, Nat.le_of_ble_eq_true rfl⟩ sh_88 rfl (Nat.le_of_ble_eq_true rfl) sh_rf dX7_shorten_43 ?_
        refine Go_icmp_ge dX7_shorten_46 rfl (fun h46 => ?_) (fun h46 => ?_)
        · skip
          refine Go_iincn b 1 rfl rfl (by omega) 6 (ls' := [(5, gI _), (6, gI _), (0, gR 88), (1, gI _), (2, gI _), (3, gI _), (4, gI _)]) rfl dX7_shorten_63 (by decide) rfl ?_
          refine Go_goto dX7_shorten_66 rfl ?_
          refine Go_pick [2, 3, 4, 5, 6, 0] (ls' := [(0, gR 88), (1, gI _), (2, gI _), (3, gI _), (4, gI _), (5, gI _)]) rfl ?_
          exact ih_19 (b + 1) _ (by omega) (by simp only [shI, hq]; repeat (first | rw [if_pos (by omega)] | rw [if_neg (by omega)]))
        · skip
          refine Go_aload_n 1 rfl rfl dX7_shorten_49 ?_
          refine Go_getR (c' := 89) faX7_9 sh_88 (pt_88_0 (M := M) hC.1) dX7_shorten_50 ?_
          refine Go_iload_n 2 rfl rfl dX7_shorten_53 ?_
          refine Go_bipush ⟨by decide, by unfold in32; omega⟩ dX7_shorten_54 ?_
          refine Go_imuln a 12 rfl rfl (by omega) dX7_shorten_56 ?_
          refine Go_iload 6 rfl dX7_shorten_57 ?_
          refine Go_iaddn (a * 12) b rfl rfl (by omega) dX7_shorten_59 ?_
          refine Go_iload 0 rfl dX7_shorten_60 ?_
          refine Go_iastoreS ((a * 12) + b) sh_89 rfl (by omega) dX7_shorten_62 ?_
          refine Go_iincn b 1 rfl rfl (by omega) 6 (ls' := [(5, gI _), (6, gI _), (0, gR 88), (1, gI _), (2, gI _), (3, gI _), (4, gI _)]) rfl dX7_shorten_63 (by decide) rfl ?_
          refine Go_goto dX7_shorten_66 rfl ?_
          refine Go_pick [2, 3, 4, 5, 6, 0] (ls' := [(0, gR 88), (1, gI _), (2, gI _), (3, gI _), (4, gI _), (5, gI _)]) rfl ?_
          exact ih_19 (b + 1) _ (by omega) (by simp only [shI, hq]; repeat (first | rw [if_pos (by omega)] | rw [if_neg (by omega)]))
  refine Go_aload_n 0 rfl rfl dX7_shorten_0 ?_
  refine Go_iload_n 1 rfl rfl dX7_shorten_1 ?_
  refine Go_iload_n 2 rfl rfl dX7_shorten_2 ?_
  refine Go_callVI (q := vwCl[7]) (fX7_between ((CS_row hC rfl)).1 a w (by omega) (by omega) (v := r (a * 12 + w)) rfl) cwX7_34 imX7_between rfl rfl ⟨Nat.le_of_ble_eq_true rfl, Nat.le_of_ble_eq_true rfl⟩ sh_88 rfl (Nat.le_of_ble_eq_true rfl) sh_rf dX7_shorten_3 ?_
  refine Go_istore (ls' := [(4, gI _), (0, gR 88), (1, gI _), (2, gI _), (3, gI _)]) dX7_shorten_6 (by decide) rfl ?_
  refine Go_iload 0 rfl dX7_shorten_8 ?_
  refine Go_ldc kcX7_33 (by unfold in32; omega) dX7_shorten_10 ?_
  refine Go_icmp_ne dX7_shorten_12 rfl (fun h12 => ?_) (fun h12 => ?_)
  · skip
    refine Go_iconst (by unfold in32; omega) dX7_shorten_16 ?_
    refine Go_istore (ls' := [(5, gI _), (4, gI _), (0, gR 88), (1, gI _), (2, gI _), (3, gI _)]) dX7_shorten_17 (by decide) rfl ?_
    refine Go_pick [2, 3, 4, 5, 1, 0] (ls' := [(0, gR 88), (1, gI _), (2, gI _), (3, gI _), (4, gI _), (5, gI _)]) rfl ?_
    exact loop_19 h12 n 0 _ (by omega) rfl
  · skip
    have e0 : shF a w n r = r := if_pos h12
    rw [e0]
    exact Go_ret rfl dX7_shorten_15
set_option maxHeartbeats 4000000 in
set_option maxRecDepth 100000 in
theorem fX7_measure {D : va_G} {ca : Nat → ClassId} {M : gMem} {nv np : Nat} (hC : CS M nv np) : Fn D ca mX7_measure [gR 88, gR 1] SH M [] SH (gSet M 89 (meO nv (trO (M 3) nv (M 89) nv) nv)) := by
  refine Fn_of okX7_measure (Nat.le_of_ble_eq_true rfl) (Or.inl ⟨rfl, rfl⟩) (Nat.le_refl _) (Nat.le_refl _) ?_
  refine Go_ls2 (ls' := [(0, gR 88), (1, gR 1)]) rfl ?_
  have hv12 := hC.2.2.1
  have hn10 := hC.2.2.2.2
  have loop_7 : ∀ (k : Nat) (w : Nat) (r : Nat → Int), w + k = nv → meO nv (trO (M 3) nv (M 89) nv) w = r → Go D ca none (gRm mX7_measure (SH.length - SH.length) (gSz SH - gSz SH)) mX7_measure 7 [(0, gR 88), (1, gR 1), (2, gI (w : Int))] [] SH (gSet M 89 r) [] SH (gSet M 89 (meO nv (trO (M 3) nv (M 89) nv) nv)) := by
    intro k
    induction k with
    | zero =>
      intro w r hw hr
      obtain rfl : nv = w := by omega
      refine Go_iload_n 2 rfl rfl dX7_measure_7 ?_
      refine Go_aload_n 1 rfl rfl dX7_measure_8 ?_
      refine Go_getIv (v := (nv : Int)) hC.2.1 faX7_19 sh_1 dX7_measure_9 ?_
      refine Go_icmp_ge dX7_measure_12 rfl (fun h12 => ?_) (fun h12 => ?_)
      · skip
        subst hr
        exact Go_ret rfl dX7_measure_47
      · skip
        exact absurd h12 (by omega)
    | succ k ih_7 =>
      intro w r hw hr
      have loop_17 : ∀ (k : Nat) (a : Nat) (q : Nat → Int), a + k = nv → meI w nv r a = q → Go D ca none (gRm mX7_measure (SH.length - SH.length) (gSz SH - gSz SH)) mX7_measure 17 [(0, gR 88), (1, gR 1), (2, gI (w : Int)), (3, gI (a : Int))] [] SH (gSet M 89 q) [] SH (gSet M 89 (meO nv (trO (M 3) nv (M 89) nv) nv)) := by
        intro k
        induction k with
        | zero =>
          intro a q ha hq
          obtain rfl : nv = a := by omega
          refine Go_iload_n 3 rfl rfl dX7_measure_17 ?_
          refine Go_aload_n 1 rfl rfl dX7_measure_18 ?_
          refine Go_getIv (v := (nv : Int)) hC.2.1 faX7_19 sh_1 dX7_measure_19 ?_
          refine Go_icmp_ge dX7_measure_22 rfl (fun h22 => ?_) (fun h22 => ?_)
          · skip
            refine Go_iincn w 1 rfl rfl (by omega) 2 (ls' := [(2, gI _), (0, gR 88), (1, gR 1), (3, gI _)]) rfl dX7_measure_41 (by decide) rfl ?_
            refine Go_goto dX7_measure_44 rfl ?_
            refine Go_pick [1, 2, 0] (ls' := [(0, gR 88), (1, gR 1), (2, gI _)]) rfl ?_
            exact ih_7 (w + 1) _ (by omega) (by simp only [meO, hr, hq])
          · skip
            exact absurd h22 (by omega)
        | succ k ih_17 =>
          intro a q ha hq
          refine Go_iload_n 3 rfl rfl dX7_measure_17 ?_
          refine Go_aload_n 1 rfl rfl dX7_measure_18 ?_
          refine Go_getIv (v := (nv : Int)) hC.2.1 faX7_19 sh_1 dX7_measure_19 ?_
          refine Go_icmp_ge dX7_measure_22 rfl (fun h22 => ?_) (fun h22 => ?_)
          · skip
            exact absurd h22 (by omega)
          · skip
            refine Go_aload_n 0 rfl rfl dX7_measure_25 ?_
            refine Go_iload_n 3 rfl rfl dX7_measure_26 ?_
            refine Go_iload_n 2 rfl rfl dX7_measure_27 ?_
            refine Go_aload_n 1 rfl rfl dX7_measure_28 ?_
            refine Go_getIv (v := (nv : Int)) hC.2.1 faX7_19 sh_1 dX7_measure_29 ?_
            refine Go_callV0 (q := vwCl[7]) (fX7_shorten hC _ a w nv (by omega) (by omega) (by omega)) cwX7_25 imX7_shorten rfl rfl ⟨Nat.le_of_ble_eq_true rfl, Nat.le_of_ble_eq_true rfl⟩ sh_88 rfl (Nat.le_of_ble_eq_true rfl) sh_rf dX7_measure_32 ?_
            refine Go_iincn a 1 rfl rfl (by omega) 3 (ls' := [(3, gI _), (0, gR 88), (1, gR 1), (2, gI _)]) rfl dX7_measure_35 (by decide) rfl ?_
            refine Go_goto dX7_measure_38 rfl ?_
            refine Go_pick [1, 2, 3, 0] (ls' := [(0, gR 88), (1, gR 1), (2, gI _), (3, gI _)]) rfl ?_
            exact ih_17 (a + 1) _ (by omega) (by simp only [meI, hq])
      refine Go_iload_n 2 rfl rfl dX7_measure_7 ?_
      refine Go_aload_n 1 rfl rfl dX7_measure_8 ?_
      refine Go_getIv (v := (nv : Int)) hC.2.1 faX7_19 sh_1 dX7_measure_9 ?_
      refine Go_icmp_ge dX7_measure_12 rfl (fun h12 => ?_) (fun h12 => ?_)
      · skip
        exact absurd h12 (by omega)
      · skip
        refine Go_iconst (by unfold in32; omega) dX7_measure_15 ?_
        refine Go_istore_n (ls' := [(3, gI _), (0, gR 88), (1, gR 1), (2, gI _)]) rfl dX7_measure_16 (by decide) rfl ?_
        refine Go_pick [1, 2, 3, 0] (ls' := [(0, gR 88), (1, gR 1), (2, gI _), (3, gI _)]) rfl ?_
        exact loop_17 nv 0 _ (by omega) rfl
  refine Go_aload_n 0 rfl rfl dX7_measure_0 ?_
  refine Go_aload_n 1 rfl rfl dX7_measure_1 ?_
  refine Go_callV0 (q := vwCl[7]) (fX7_takeRoads hC) cwX7_15 imX7_takeRoads rfl rfl ⟨Nat.le_of_ble_eq_true rfl, Nat.le_of_ble_eq_true rfl⟩ sh_88 rfl (Nat.le_of_ble_eq_true rfl) sh_rf dX7_measure_2 ?_
  refine Go_iconst (by unfold in32; omega) dX7_measure_5 ?_
  refine Go_istore_n (ls' := [(2, gI _), (0, gR 88), (1, gR 1)]) rfl dX7_measure_6 (by decide) rfl ?_
  refine Go_pick [1, 2, 0] (ls' := [(0, gR 88), (1, gR 1), (2, gI _)]) rfl ?_
  exact loop_7 nv 0 _ (by omega) rfl
def nxF (L S : Nat → Int) (h t : Nat) : Nat → Nat → Int
  | 0, _ => -4
  | k + 1, v => if 0 < L (h * 12 + v) ∧ w32 (L (h * 12 + v) + S (v * 12 + t)) = S (h * 12 + t) then (v : Int) else nxF L S h t k (v + 1)
theorem nxF_nat (L S : Nat → Int) (h t : Nat) : ∀ (k v : Nat), nxF L S h t k v ≠ -4 → ∃ q : Nat, q < v + k ∧ nxF L S h t k v = (q : Int)
  | 0, v, hn => absurd rfl hn
  | k + 1, v, hn => by
    simp only [nxF] at hn ⊢
    split
    · exact ⟨v, by omega, rfl⟩
    · rename_i h1
      rw [if_neg h1] at hn
      obtain ⟨q, h2, h3⟩ := nxF_nat L S h t k (v + 1) hn
      exact ⟨q, by omega, h3⟩
def vaF (L S : Nat → Int) (nv t : Nat) : Nat → Nat → Int
  | 0, h => (h : Int)
  | k + 1, h => if h = t then -4 else if nxF L S h t nv 0 = -4 then -4 else vaF L S nv t k (nxF L S h t nv 0).toNat
set_option maxHeartbeats 4000000 in
set_option maxRecDepth 100000 in
theorem fX7_nextOf {D : va_G} {ca : Nat → ClassId} {M : gMem} {nv np : Nat} (hC : CS M nv np) (h t : Nat) (hh : h < 12) (ht : t < 12) : Fn D ca mX7_nextOf [gR 88, gR 1, gI (h : Int), gI (t : Int)] SH M [gI (nxF (M 3) (M 89) h t nv 0)] SH (M) := by
  refine Fn_of okX7_nextOf (Nat.le_of_ble_eq_true rfl) (Or.inr (Or.inl ⟨_, rfl, rfl⟩)) (Nat.le_refl _) (Nat.le_refl _) ?_
  refine Go_ls2 (ls' := [(0, gR 88), (1, gR 1), (2, gI _), (3, gI _)]) rfl ?_
  have hv12 := hC.2.2.1
  have hn10 := hC.2.2.2.2
  have loop_3 : ∀ (k : Nat) (v : Nat), v + k = nv → Go D ca none (gRm mX7_nextOf (SH.length - SH.length) (gSz SH - gSz SH)) mX7_nextOf 3 [(0, gR 88), (1, gR 1), (2, gI (h : Int)), (3, gI (t : Int)), (4, gI (v : Int))] [] SH M [gI (nxF (M 3) (M 89) h t k v)] SH (M) := by
    intro k
    induction k with
    | zero =>
      intro v hv
      refine Go_iload 4 rfl dX7_nextOf_3 ?_
      refine Go_aload_n 1 rfl rfl dX7_nextOf_5 ?_
      refine Go_getIv (v := (nv : Int)) hC.2.1 faX7_19 sh_1 dX7_nextOf_6 ?_
      refine Go_icmp_ge dX7_nextOf_9 rfl (fun h9 => ?_) (fun h9 => ?_)
      · skip
        refine Go_bipush ⟨by decide, by unfold in32; omega⟩ dX7_nextOf_54 ?_
        exact Go_ret rfl dX7_nextOf_56
      · skip
        exact absurd h9 (by omega)
    | succ k ih_3 =>
      intro v hv
      refine Go_iload 4 rfl dX7_nextOf_3 ?_
      refine Go_aload_n 1 rfl rfl dX7_nextOf_5 ?_
      refine Go_getIv (v := (nv : Int)) hC.2.1 faX7_19 sh_1 dX7_nextOf_6 ?_
      refine Go_icmp_ge dX7_nextOf_9 rfl (fun h9 => ?_) (fun h9 => ?_)
      · skip
        exact absurd h9 (by omega)
      · skip
        refine Go_aload_n 1 rfl rfl dX7_nextOf_12 ?_
        refine Go_iload_n 2 rfl rfl dX7_nextOf_13 ?_
        refine Go_iload 4 rfl dX7_nextOf_14 ?_
        refine Go_callVI (q := vwCl[6]) (fX6_lengthOf hC.1 h v (by omega) (by omega) (v := M 3 (h * 12 + v)) rfl) cwX7_29 imX6_lengthOf rfl rfl ⟨Nat.le_of_ble_eq_true rfl, Nat.le_of_ble_eq_true rfl⟩ sh_1 rfl (Nat.le_of_ble_eq_true rfl) sh_rf dX7_nextOf_16 ?_
        refine Go_istore (ls' := [(5, gI _), (0, gR 88), (1, gR 1), (2, gI _), (3, gI _), (4, gI _)]) dX7_nextOf_19 (by decide) rfl ?_
        refine Go_iload 0 rfl dX7_nextOf_21 ?_
        refine Go_if_le dX7_nextOf_23 rfl (fun h23 => ?_) (fun h23 => ?_)
        · skip
          refine Go_iincn v 1 rfl rfl (by omega) 5 (ls' := [(4, gI _), (5, gI _), (0, gR 88), (1, gR 1), (2, gI _), (3, gI _)]) rfl dX7_nextOf_48 (by decide) rfl ?_
          refine Go_goto dX7_nextOf_51 rfl ?_
          refine Go_pick [2, 3, 4, 5, 0] (ls' := [(0, gR 88), (1, gR 1), (2, gI _), (3, gI _), (4, gI _)]) rfl ?_
          rw [show nxF (M 3) (M 89) h t (k + 1) v = nxF (M 3) (M 89) h t k (v + 1) from if_neg (fun q => by first | exact absurd q.1 (by omega) | exact h42 q.2)]
          exact ih_3 (v + 1) (by omega)
        · skip
          refine Go_iload 0 rfl dX7_nextOf_26 ?_
          refine Go_aload_n 1 rfl rfl dX7_nextOf_28 ?_
          refine Go_iload 5 rfl dX7_nextOf_29 ?_
          refine Go_iload_n 4 rfl rfl dX7_nextOf_31 ?_
          refine Go_callVI (q := vwCl[7]) (fX7_between hC.1 v t (by omega) (by omega) (v := M 89 (v * 12 + t)) rfl) cwX7_34 imX7_between rfl rfl ⟨Nat.le_of_ble_eq_true rfl, Nat.le_of_ble_eq_true rfl⟩ sh_88 rfl (Nat.le_of_ble_eq_true rfl) sh_rf dX7_nextOf_32 ?_
          refine Go_iadd dX7_nextOf_35 ?_
          refine Go_aload_n 1 rfl rfl dX7_nextOf_36 ?_
          refine Go_iload_n 3 rfl rfl dX7_nextOf_37 ?_
          refine Go_iload_n 4 rfl rfl dX7_nextOf_38 ?_
          refine Go_callVI (q := vwCl[7]) (fX7_between hC.1 h t (by omega) (by omega) (v := M 89 (h * 12 + t)) rfl) cwX7_34 imX7_between rfl rfl ⟨Nat.le_of_ble_eq_true rfl, Nat.le_of_ble_eq_true rfl⟩ sh_88 rfl (Nat.le_of_ble_eq_true rfl) sh_rf dX7_nextOf_39 ?_
          refine Go_icmp_ne dX7_nextOf_42 rfl (fun h42 => ?_) (fun h42 => ?_)
          · skip
            refine Go_iincn v 1 rfl rfl (by omega) 5 (ls' := [(4, gI _), (5, gI _), (0, gR 88), (1, gR 1), (2, gI _), (3, gI _)]) rfl dX7_nextOf_48 (by decide) rfl ?_
            refine Go_goto dX7_nextOf_51 rfl ?_
            refine Go_pick [2, 3, 4, 5, 0] (ls' := [(0, gR 88), (1, gR 1), (2, gI _), (3, gI _), (4, gI _)]) rfl ?_
            rw [show nxF (M 3) (M 89) h t (k + 1) v = nxF (M 3) (M 89) h t k (v + 1) from if_neg (fun q => by first | exact absurd q.1 (by omega) | exact h42 q.2)]
            exact ih_3 (v + 1) (by omega)
          · skip
            refine Go_iload 5 rfl dX7_nextOf_45 ?_
            rw [show nxF (M 3) (M 89) h t (k + 1) v = (v : Int) from if_pos ⟨by omega, h42⟩]
            exact Go_ret rfl dX7_nextOf_47
  refine Go_iconst (by unfold in32; omega) dX7_nextOf_0 ?_
  refine Go_istore (ls' := [(4, gI _), (0, gR 88), (1, gR 1), (2, gI _), (3, gI _)]) dX7_nextOf_1 (by decide) rfl ?_
  refine Go_pick [1, 2, 3, 4, 0] (ls' := [(0, gR 88), (1, gR 1), (2, gI _), (3, gI _), (4, gI _)]) rfl ?_
  exact loop_3 nv 0 (by omega)
set_option maxHeartbeats 4000000 in
set_option maxRecDepth 100000 in
theorem fX7_villageAt {D : va_G} {ca : Nat → ClassId} {M : gMem} {nv np : Nat} (hC : CS M nv np) (f t i : Nat) (hf : f < nv) (ht : t < nv) : Fn D ca mX7_villageAt [gR 88, gR 1, gI (f : Int), gI (t : Int), gI (i : Int)] SH M [gI (vaF (M 3) (M 89) nv t (min i 12) f)] SH (M) := by
  refine Fn_of okX7_villageAt (Nat.le_of_ble_eq_true rfl) (Or.inr (Or.inl ⟨_, rfl, rfl⟩)) (Nat.le_refl _) (Nat.le_refl _) ?_
  refine Go_ls2 (ls' := [(0, gR 88), (1, gR 1), (2, gI _), (3, gI _), (4, gI _)]) rfl ?_
  have hv12 := hC.2.2.1
  have hn10 := hC.2.2.2.2
  have loop_6 : ∀ (k : Nat) (s h : Nat), s + k = min i 12 → h < nv → Go D ca none (gRm mX7_villageAt (SH.length - SH.length) (gSz SH - gSz SH)) mX7_villageAt 6 [(0, gR 88), (1, gR 1), (3, gI (t : Int)), (4, gI (i : Int)), (5, gI (h : Int)), (6, gI (s : Int))] [] SH M [gI (vaF (M 3) (M 89) nv t k h)] SH (M) := by
    intro k
    induction k with
    | zero =>
      intro s h hs hh
      refine Go_iload 5 rfl dX7_villageAt_6 ?_
      refine Go_iload 3 rfl dX7_villageAt_8 ?_
      refine Go_icmp_ge dX7_villageAt_10 rfl (fun h10 => ?_) (fun h10 => ?_)
      · skip
        refine Go_iload 4 rfl dX7_villageAt_57 ?_
        exact Go_ret rfl dX7_villageAt_59
      · skip
        refine Go_iload 5 rfl dX7_villageAt_13 ?_
        refine Go_bipush ⟨by decide, by unfold in32; omega⟩ dX7_villageAt_15 ?_
        refine Go_icmp_ge dX7_villageAt_17 rfl (fun h17 => ?_) (fun h17 => ?_)
        · skip
          refine Go_iload 4 rfl dX7_villageAt_57 ?_
          exact Go_ret rfl dX7_villageAt_59
        · skip
          exact absurd h17 (by omega)
    | succ k ih_6 =>
      intro s h hs hh
      refine Go_iload 5 rfl dX7_villageAt_6 ?_
      refine Go_iload 3 rfl dX7_villageAt_8 ?_
      refine Go_icmp_ge dX7_villageAt_10 rfl (fun h10 => ?_) (fun h10 => ?_)
      · skip
        exact absurd h10 (by omega)
      · skip
        refine Go_iload 5 rfl dX7_villageAt_13 ?_
        refine Go_bipush ⟨by decide, by unfold in32; omega⟩ dX7_villageAt_15 ?_
        refine Go_icmp_ge dX7_villageAt_17 rfl (fun h17 => ?_) (fun h17 => ?_)
        · skip
          exact absurd h17 (by omega)
        · skip
          refine Go_iload 4 rfl dX7_villageAt_20 ?_
          refine Go_iload_n 2 rfl rfl dX7_villageAt_22 ?_
          refine Go_icmp_ne dX7_villageAt_23 rfl (fun h23 => ?_) (fun h23 => ?_)
          · skip
            have hne : ¬ (h = t) := by omega
            refine Go_aload_n 0 rfl rfl dX7_villageAt_31 ?_
            refine Go_aload_n 1 rfl rfl dX7_villageAt_32 ?_
            refine Go_iload 4 rfl dX7_villageAt_33 ?_
            refine Go_iload_n 2 rfl rfl dX7_villageAt_35 ?_
            refine Go_callVI (q := vwCl[7]) (fX7_nextOf hC h t (by omega) (by omega)) cwX7_37 imX7_nextOf rfl rfl ⟨Nat.le_of_ble_eq_true rfl, Nat.le_of_ble_eq_true rfl⟩ sh_88 rfl (Nat.le_of_ble_eq_true rfl) sh_rf dX7_villageAt_36 ?_
            refine Go_istore (ls' := [(5, gI _), (0, gR 88), (1, gR 1), (3, gI _), (4, gI _), (6, gI _)]) dX7_villageAt_39 (by decide) rfl ?_
            refine Go_iload 0 rfl dX7_villageAt_41 ?_
            refine Go_bipush ⟨by decide, by unfold in32; omega⟩ dX7_villageAt_43 ?_
            refine Go_icmp_ne dX7_villageAt_45 rfl (fun h45 => ?_) (fun h45 => ?_)
            · skip
              obtain ⟨z, hz, ez⟩ := nxF_nat (M 3) (M 89) h t nv 0 h45
              rw [ez]
              refine Go_iincn s 1 rfl rfl (by omega) 5 (ls' := [(6, gI _), (5, gI _), (0, gR 88), (1, gR 1), (3, gI _), (4, gI _)]) rfl dX7_villageAt_51 (by decide) rfl ?_
              refine Go_goto dX7_villageAt_54 rfl ?_
              refine Go_pick [2, 3, 4, 5, 1, 0] (ls' := [(0, gR 88), (1, gR 1), (3, gI _), (4, gI _), (5, gI _), (6, gI _)]) rfl ?_
              rw [show vaF (M 3) (M 89) nv t (k + 1) h = vaF (M 3) (M 89) nv t k z from by simp only [vaF]; rw [if_neg (by omega), if_neg (by omega), ez, Int.toNat_natCast]]
              exact ih_6 (s + 1) z (by omega) (by omega)
            · skip
              refine Go_bipush ⟨by decide, by unfold in32; omega⟩ dX7_villageAt_48 ?_
              rw [show vaF (M 3) (M 89) nv t (k + 1) h = -4 from by simp only [vaF]; first | rw [if_pos (by omega)] | rw [if_neg (by omega), if_pos (by omega)]]
              exact Go_ret rfl dX7_villageAt_50
          · skip
            refine Go_bipush ⟨by decide, by unfold in32; omega⟩ dX7_villageAt_26 ?_
            refine Go_goto dX7_villageAt_28 rfl ?_
            refine Go_istore (ls' := [(5, gI _), (0, gR 88), (1, gR 1), (3, gI _), (4, gI _), (6, gI _)]) dX7_villageAt_39 (by decide) rfl ?_
            refine Go_iload 0 rfl dX7_villageAt_41 ?_
            refine Go_bipush ⟨by decide, by unfold in32; omega⟩ dX7_villageAt_43 ?_
            refine Go_icmp_ne dX7_villageAt_45 rfl (fun h45 => ?_) (fun h45 => ?_)
            · skip
              exact absurd rfl h45
            · skip
              refine Go_bipush ⟨by decide, by unfold in32; omega⟩ dX7_villageAt_48 ?_
              rw [show vaF (M 3) (M 89) nv t (k + 1) h = -4 from by simp only [vaF]; first | rw [if_pos (by omega)] | rw [if_neg (by omega), if_pos (by omega)]]
              exact Go_ret rfl dX7_villageAt_50
  refine Go_iload_n 2 rfl rfl dX7_villageAt_0 ?_
  refine Go_istore (ls' := [(5, gI _), (0, gR 88), (1, gR 1), (2, gI _), (3, gI _), (4, gI _)]) dX7_villageAt_1 (by decide) rfl ?_
  refine Go_iconst (by unfold in32; omega) dX7_villageAt_3 ?_
  refine Go_istore (ls' := [(6, gI _), (5, gI _), (0, gR 88), (1, gR 1), (2, gI _), (3, gI _), (4, gI _)]) dX7_villageAt_4 (by decide) rfl ?_
  refine Go_pick [2, 3, 5, 6, 1, 0] (ls' := [(0, gR 88), (1, gR 1), (3, gI _), (4, gI _), (5, gI _), (6, gI _)]) rfl ?_
  exact loop_6 (min i 12) 0 f (by omega) hf
