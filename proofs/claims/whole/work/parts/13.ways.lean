/-! the ways of the class, as its loops work them out -/
def trI (L : Nat → Int) (a : Nat) (r : Nat → Int) : Nat → (Nat → Int)
  | 0 => r
  | b + 1 => gUp (trI L a r b) (a * 12 + b) (if 0 < L (a * 12 + b) then L (a * 12 + b) else 1000000)
def trO (L : Nat → Int) (nv : Nat) (r : Nat → Int) : Nat → (Nat → Int)
  | 0 => r
  | a + 1 => gUp (trI L a (trO L nv r a) nv) (a * 12 + a) 0
def shI (f : Int) (w a : Nat) (r : Nat → Int) : Nat → (Nat → Int)
  | 0 => r
  | b + 1 => if w32 (f + shI f w a r b (w * 12 + b)) < shI f w a r b (a * 12 + b) then gUp (shI f w a r b) (a * 12 + b) (w32 (f + shI f w a r b (w * 12 + b))) else shI f w a r b
def shF (a w nv : Nat) (r : Nat → Int) : Nat → Int := if r (a * 12 + w) = 1000000 then r else shI (r (a * 12 + w)) w a r nv
def meI (w nv : Nat) (r : Nat → Int) : Nat → (Nat → Int)
  | 0 => r
  | a + 1 => shF a w nv (meI w nv r a)
def meO (nv : Nat) (r : Nat → Int) : Nat → (Nat → Int)
  | 0 => r
  | w + 1 => meI w nv (meO nv r w) nv
set_option maxHeartbeats 4000000 in
set_option maxRecDepth 100000 in
theorem fX7_takeRoads {D : va_G} {ca : Nat → ClassId} {M : gMem} {nv np : Nat} (hC : CS M nv np) : Fn D ca mX7_takeRoads [gR 88, gR 1] SH M [] SH (gSet M 89 (trO (M 3) nv (M 89) nv)) := by
  refine Fn_of okX7_takeRoads (Nat.le_of_ble_eq_true rfl) (Or.inl ⟨rfl, rfl⟩) (Nat.le_refl _) (Nat.le_refl _) ?_
  refine Go_ls2 (ls' := [(0, gR 88), (1, gR 1)]) rfl ?_
  have hv12 := hC.2.2.1
  have hn10 := hC.2.2.2.2
  refine Go_o 89 ?_
  have loop_2 : ∀ (k : Nat) (a : Nat) (r : Nat → Int), a + k = nv → trO (M 3) nv (M 89) a = r → Go D ca none (gRm mX7_takeRoads (SH.length - SH.length) (gSz SH - gSz SH)) mX7_takeRoads 2 [(0, gR 88), (1, gR 1), (2, gI (a : Int))] [] SH (gSet M 89 r) [] SH (gSet M 89 (trO (M 3) nv (M 89) nv)) := by
    intro k
    induction k with
    | zero =>
      intro a r ha hr
      obtain rfl : nv = a := by omega
      refine Go_iload_n 2 rfl rfl dX7_takeRoads_2 ?_
      refine Go_aload_n 1 rfl rfl dX7_takeRoads_3 ?_
      refine Go_getIv (v := (nv : Int)) hC.2.1 faX7_19 sh_1 dX7_takeRoads_4 ?_
      refine Go_icmp_ge dX7_takeRoads_7 rfl (fun h7 => ?_) (fun h7 => ?_)
      · skip
        subst hr
        exact Go_ret rfl dX7_takeRoads_75
      · skip
        exact absurd h7 (by omega)
    | succ k ih_2 =>
      intro a r ha hr
      have loop_12 : ∀ (k : Nat) (b : Nat) (q : Nat → Int), b + k = nv → trI (M 3) a r b = q → Go D ca none (gRm mX7_takeRoads (SH.length - SH.length) (gSz SH - gSz SH)) mX7_takeRoads 12 [(0, gR 88), (1, gR 1), (2, gI (a : Int)), (3, gI (b : Int))] [] SH (gSet M 89 q) [] SH (gSet M 89 (trO (M 3) nv (M 89) nv)) := by
        intro k
        induction k with
        | zero =>
          intro b q hb hq
          obtain rfl : nv = b := by omega
          refine Go_iload_n 3 rfl rfl dX7_takeRoads_12 ?_
          refine Go_aload_n 1 rfl rfl dX7_takeRoads_13 ?_
          refine Go_getIv (v := (nv : Int)) hC.2.1 faX7_19 sh_1 dX7_takeRoads_14 ?_
          refine Go_icmp_ge dX7_takeRoads_17 rfl (fun h17 => ?_) (fun h17 => ?_)
          · skip
            refine Go_aload_n 0 rfl rfl dX7_takeRoads_57 ?_
            refine Go_getR (c' := 89) faX7_9 sh_88 (pt_88_0 (M := M) hC.1) dX7_takeRoads_58 ?_
            refine Go_iload_n 2 rfl rfl dX7_takeRoads_61 ?_
            refine Go_bipush ⟨by decide, by unfold in32; omega⟩ dX7_takeRoads_62 ?_
            refine Go_imuln a 12 rfl rfl (by omega) dX7_takeRoads_64 ?_
            refine Go_iload_n 2 rfl rfl dX7_takeRoads_65 ?_
            refine Go_iaddn (a * 12) a rfl rfl (by omega) dX7_takeRoads_66 ?_
            refine Go_iconst (by unfold in32; omega) dX7_takeRoads_67 ?_
            refine Go_iastoreS ((a * 12) + a) sh_89 rfl (by omega) dX7_takeRoads_68 ?_
            refine Go_iincn a 1 rfl rfl (by omega) 2 (ls' := [(2, gI _), (0, gR 88), (1, gR 1), (3, gI _)]) rfl dX7_takeRoads_69 (by decide) rfl ?_
            refine Go_goto dX7_takeRoads_72 rfl ?_
            refine Go_pick [1, 2, 0] (ls' := [(0, gR 88), (1, gR 1), (2, gI _)]) rfl ?_
            exact ih_2 (a + 1) _ (by omega) (by simp only [trO, hr, hq])
          · skip
            exact absurd h17 (by omega)
        | succ k ih_12 =>
          intro b q hb hq
          refine Go_iload_n 3 rfl rfl dX7_takeRoads_12 ?_
          refine Go_aload_n 1 rfl rfl dX7_takeRoads_13 ?_
          refine Go_getIv (v := (nv : Int)) hC.2.1 faX7_19 sh_1 dX7_takeRoads_14 ?_
          refine Go_icmp_ge dX7_takeRoads_17 rfl (fun h17 => ?_) (fun h17 => ?_)
          · skip
            exact absurd h17 (by omega)
          · skip
            refine Go_aload_n 1 rfl rfl dX7_takeRoads_20 ?_
            refine Go_iload_n 2 rfl rfl dX7_takeRoads_21 ?_
            refine Go_iload_n 3 rfl rfl dX7_takeRoads_22 ?_
            refine Go_callVI (q := vwCl[6]) (fX6_lengthOf ((CS_row hC rfl)).1 a b (by omega) (by omega) (v := M 3 (a * 12 + b)) rfl) cwX7_29 imX6_lengthOf rfl rfl ⟨Nat.le_of_ble_eq_true rfl, Nat.le_of_ble_eq_true rfl⟩ sh_1 rfl (Nat.le_of_ble_eq_true rfl) sh_rf dX7_takeRoads_23 ?_
            refine Go_istore (ls' := [(4, gI _), (0, gR 88), (1, gR 1), (2, gI _), (3, gI _)]) dX7_takeRoads_26 (by decide) rfl ?_
            refine Go_aload_n 1 rfl rfl dX7_takeRoads_28 ?_
            refine Go_getR (c' := 89) faX7_9 sh_88 (pt_88_0 (M := M) hC.1) dX7_takeRoads_29 ?_
            refine Go_iload_n 3 rfl rfl dX7_takeRoads_32 ?_
            refine Go_bipush ⟨by decide, by unfold in32; omega⟩ dX7_takeRoads_33 ?_
            refine Go_imuln a 12 rfl rfl (by omega) dX7_takeRoads_35 ?_
            refine Go_iload_n 4 rfl rfl dX7_takeRoads_36 ?_
            refine Go_iaddn (a * 12) b rfl rfl (by omega) dX7_takeRoads_37 ?_
            refine Go_iload 0 rfl dX7_takeRoads_38 ?_
            refine Go_if_le dX7_takeRoads_40 rfl (fun h40 => ?_) (fun h40 => ?_)
            · skip
              refine Go_ldc kcX7_33 (by unfold in32; omega) dX7_takeRoads_48 ?_
              refine Go_iastoreS ((a * 12) + b) sh_89 rfl (by omega) dX7_takeRoads_50 ?_
              refine Go_iincn b 1 rfl rfl (by omega) 4 (ls' := [(3, gI _), (4, gI _), (0, gR 88), (1, gR 1), (2, gI _)]) rfl dX7_takeRoads_51 (by decide) rfl ?_
              refine Go_goto dX7_takeRoads_54 rfl ?_
              refine Go_pick [2, 3, 4, 0] (ls' := [(0, gR 88), (1, gR 1), (2, gI _), (3, gI _)]) rfl ?_
              exact ih_12 (b + 1) _ (by omega) (by simp only [trI, hq]; repeat (first | rw [if_pos (by omega)] | rw [if_neg (by omega)]))
            · skip
              refine Go_iload 0 rfl dX7_takeRoads_43 ?_
              refine Go_goto dX7_takeRoads_45 rfl ?_
              refine Go_iastoreS ((a * 12) + b) sh_89 rfl (by omega) dX7_takeRoads_50 ?_
              refine Go_iincn b 1 rfl rfl (by omega) 4 (ls' := [(3, gI _), (4, gI _), (0, gR 88), (1, gR 1), (2, gI _)]) rfl dX7_takeRoads_51 (by decide) rfl ?_
              refine Go_goto dX7_takeRoads_54 rfl ?_
              refine Go_pick [2, 3, 4, 0] (ls' := [(0, gR 88), (1, gR 1), (2, gI _), (3, gI _)]) rfl ?_
              exact ih_12 (b + 1) _ (by omega) (by simp only [trI, hq]; repeat (first | rw [if_pos (by omega)] | rw [if_neg (by omega)]))
      refine Go_iload_n 2 rfl rfl dX7_takeRoads_2 ?_
      refine Go_aload_n 1 rfl rfl dX7_takeRoads_3 ?_
      refine Go_getIv (v := (nv : Int)) hC.2.1 faX7_19 sh_1 dX7_takeRoads_4 ?_
      refine Go_icmp_ge dX7_takeRoads_7 rfl (fun h7 => ?_) (fun h7 => ?_)
      · skip
        exact absurd h7 (by omega)
      · skip
        refine Go_iconst (by unfold in32; omega) dX7_takeRoads_10 ?_
        refine Go_istore_n (ls' := [(3, gI _), (0, gR 88), (1, gR 1), (2, gI _)]) rfl dX7_takeRoads_11 (by decide) rfl ?_
        refine Go_pick [1, 2, 3, 0] (ls' := [(0, gR 88), (1, gR 1), (2, gI _), (3, gI _)]) rfl ?_
        exact loop_12 nv 0 _ (by omega) rfl
  refine Go_iconst (by unfold in32; omega) dX7_takeRoads_0 ?_
  refine Go_istore_n (ls' := [(2, gI _), (0, gR 88), (1, gR 1)]) rfl dX7_takeRoads_1 (by decide) rfl ?_
  refine Go_pick [1, 2, 0] (ls' := [(0, gR 88), (1, gR 1), (2, gI _)]) rfl ?_
  exact loop_2 nv 0 _ (by omega) rfl
