def bcR (x : Int) : Int :=
  let a := w32 (x - a32 (u32 x 1) 1431655765)
  let b := w32 (a32 a 858993459 + a32 (u32 a 2) 858993459)
  let c := a32 (w32 (b + u32 b 4)) 252645135
  let d := w32 (c + u32 c 8)
  let e := w32 (d + u32 d 16)
  a32 e 63
set_option maxHeartbeats 4000000 in
set_option maxRecDepth 100000 in
theorem fJ6_bitCount {D : va_G} {ca : Nat → ClassId} {M : gMem} (x : Int) : Fn D ca mJ6_bitCount_0f7a4 [gI x] SH M [gI (bcR x)] SH (M) := by
  refine Fn_of okJ6_bitCount_0f7a4 (Nat.le_of_ble_eq_true rfl) (Or.inr (Or.inl ⟨_, rfl, rfl⟩)) (Nat.le_refl _) (Nat.le_refl _) ?_
  refine Go_ls2 (ls' := [(0, gI _)]) rfl ?_
  refine Go_iload_n 0 rfl rfl dJ6_bitCount_0f7a4_0 ?_
  refine Go_iload_n 0 rfl rfl dJ6_bitCount_0f7a4_1 ?_
  refine Go_iconst (by unfold in32; omega) dJ6_bitCount_0f7a4_2 ?_
  refine Go_iushr dJ6_bitCount_0f7a4_3 ?_
  refine Go_ldcw kcJ6_265 (by unfold in32; omega) dJ6_bitCount_0f7a4_4 ?_
  refine Go_iand dJ6_bitCount_0f7a4_7 ?_
  refine Go_isub dJ6_bitCount_0f7a4_8 ?_
  refine Go_istore_n (ls' := [(0, gI _)]) rfl dJ6_bitCount_0f7a4_9 (by decide) rfl ?_
  refine Go_iload_n 0 rfl rfl dJ6_bitCount_0f7a4_10 ?_
  refine Go_ldcw kcJ6_266 (by unfold in32; omega) dJ6_bitCount_0f7a4_11 ?_
  refine Go_iand dJ6_bitCount_0f7a4_14 ?_
  refine Go_iload_n 0 rfl rfl dJ6_bitCount_0f7a4_15 ?_
  refine Go_iconst (by unfold in32; omega) dJ6_bitCount_0f7a4_16 ?_
  refine Go_iushr dJ6_bitCount_0f7a4_17 ?_
  refine Go_ldcw kcJ6_266 (by unfold in32; omega) dJ6_bitCount_0f7a4_18 ?_
  refine Go_iand dJ6_bitCount_0f7a4_21 ?_
  refine Go_iadd dJ6_bitCount_0f7a4_22 ?_
  refine Go_istore_n (ls' := [(0, gI _)]) rfl dJ6_bitCount_0f7a4_23 (by decide) rfl ?_
  refine Go_iload_n 0 rfl rfl dJ6_bitCount_0f7a4_24 ?_
  refine Go_iload_n 0 rfl rfl dJ6_bitCount_0f7a4_25 ?_
  refine Go_iconst (by unfold in32; omega) dJ6_bitCount_0f7a4_26 ?_
  refine Go_iushr dJ6_bitCount_0f7a4_27 ?_
  refine Go_iadd dJ6_bitCount_0f7a4_28 ?_
  refine Go_ldcw kcJ6_267 (by unfold in32; omega) dJ6_bitCount_0f7a4_29 ?_
  refine Go_iand dJ6_bitCount_0f7a4_32 ?_
  refine Go_istore_n (ls' := [(0, gI _)]) rfl dJ6_bitCount_0f7a4_33 (by decide) rfl ?_
  refine Go_iload_n 0 rfl rfl dJ6_bitCount_0f7a4_34 ?_
  refine Go_iload_n 0 rfl rfl dJ6_bitCount_0f7a4_35 ?_
  refine Go_bipush ⟨by decide, by unfold in32; omega⟩ dJ6_bitCount_0f7a4_36 ?_
  refine Go_iushr dJ6_bitCount_0f7a4_38 ?_
  refine Go_iadd dJ6_bitCount_0f7a4_39 ?_
  refine Go_istore_n (ls' := [(0, gI _)]) rfl dJ6_bitCount_0f7a4_40 (by decide) rfl ?_
  refine Go_iload_n 0 rfl rfl dJ6_bitCount_0f7a4_41 ?_
  refine Go_iload_n 0 rfl rfl dJ6_bitCount_0f7a4_42 ?_
  refine Go_bipush ⟨by decide, by unfold in32; omega⟩ dJ6_bitCount_0f7a4_43 ?_
  refine Go_iushr dJ6_bitCount_0f7a4_45 ?_
  refine Go_iadd dJ6_bitCount_0f7a4_46 ?_
  refine Go_istore_n (ls' := [(0, gI _)]) rfl dJ6_bitCount_0f7a4_47 (by decide) rfl ?_
  refine Go_iload_n 0 rfl rfl dJ6_bitCount_0f7a4_48 ?_
  refine Go_bipush ⟨by decide, by unfold in32; omega⟩ dJ6_bitCount_0f7a4_49 ?_
  refine Go_iand dJ6_bitCount_0f7a4_51 ?_
  exact Go_ret rfl dJ6_bitCount_0f7a4_52
def pkF (K : Nat → Int) (z : Int) : Nat → Int
  | 0 => 0
  | p + 1 => r32 (pkF K z p) (if K p = z then l32 1 (p : Int) else 0)
set_option maxHeartbeats 4000000 in
set_option maxRecDepth 100000 in
theorem fX6_placesOfKind {D : va_G} {ca : Nat → ClassId} {M : gMem} {nv np : Nat} (hC : CS M nv np) (z : Int) : Fn D ca mX6_placesOfKind [gR 1, gI z] SH M [gI (pkF (M 5) z np)] SH (M) := by
  refine Fn_of okX6_placesOfKind (Nat.le_of_ble_eq_true rfl) (Or.inr (Or.inl ⟨_, rfl, rfl⟩)) (Nat.le_refl _) (Nat.le_refl _) ?_
  refine Go_ls2 (ls' := [(0, gR 1), (1, gI _)]) rfl ?_
  have hv12 := hC.2.2.1
  have hn10 := hC.2.2.2.2
  have loop_4 : ∀ (k : Nat) (p : Nat) (x : Int), p + k = np → pkF (M 5) z p = x → Go D ca none (gRm mX6_placesOfKind (SH.length - SH.length) (gSz SH - gSz SH)) mX6_placesOfKind 4 [(0, gR 1), (1, gI z), (2, gI x), (3, gI (p : Int))] [] SH M [gI (pkF (M 5) z np)] SH (M) := by
    intro k
    induction k with
    | zero =>
      intro p x he hx
      obtain rfl : np = p := by omega
      refine Go_iload_n 3 rfl rfl dX6_placesOfKind_4 ?_
      refine Go_aload_n 0 rfl rfl dX6_placesOfKind_5 ?_
      refine Go_getIv (v := (np : Int)) hC.2.2.2.1 faX6_15 sh_1 dX6_placesOfKind_6 ?_
      refine Go_icmp_ge dX6_placesOfKind_9 rfl (fun h9 => ?_) (fun h9 => ?_)
      · skip
        refine Go_iload_n 2 rfl rfl dX6_placesOfKind_38 ?_
        subst hx
        exact Go_ret rfl dX6_placesOfKind_39
      · skip
        exact absurd h9 (by omega)
    | succ k ih_4 =>
      intro p x he hx
      refine Go_iload_n 3 rfl rfl dX6_placesOfKind_4 ?_
      refine Go_aload_n 0 rfl rfl dX6_placesOfKind_5 ?_
      refine Go_getIv (v := (np : Int)) hC.2.2.2.1 faX6_15 sh_1 dX6_placesOfKind_6 ?_
      refine Go_icmp_ge dX6_placesOfKind_9 rfl (fun h9 => ?_) (fun h9 => ?_)
      · skip
        exact absurd h9 (by omega)
      · skip
        refine Go_iload_n 2 rfl rfl dX6_placesOfKind_12 ?_
        refine Go_aload_n 0 rfl rfl dX6_placesOfKind_13 ?_
        refine Go_getR (c' := 5) faX6_31 sh_1 (pt_1_6 (M := M) hC.1) dX6_placesOfKind_14 ?_
        refine Go_iload_n 3 rfl rfl dX6_placesOfKind_17 ?_
        refine Go_ialoadv p (v := M 5 (p)) rfl sh_5 rfl (by omega) dX6_placesOfKind_18 ?_
        refine Go_iload_n 1 rfl rfl dX6_placesOfKind_19 ?_
        refine Go_icmp_ne dX6_placesOfKind_20 rfl (fun h20 => ?_) (fun h20 => ?_)
        · skip
          refine Go_iconst (by unfold in32; omega) dX6_placesOfKind_29 ?_
          refine Go_ior dX6_placesOfKind_30 ?_
          refine Go_istore_n (ls' := [(2, gI _), (0, gR 1), (1, gI _), (3, gI _)]) rfl dX6_placesOfKind_31 (by decide) rfl ?_
          refine Go_iincn p 1 rfl rfl (by omega) 3 (ls' := [(3, gI _), (2, gI _), (0, gR 1), (1, gI _)]) rfl dX6_placesOfKind_32 (by decide) rfl ?_
          refine Go_goto dX6_placesOfKind_35 rfl ?_
          refine Go_pick [2, 3, 1, 0] (ls' := [(0, gR 1), (1, gI _), (2, gI _), (3, gI _)]) rfl ?_
          exact ih_4 (p + 1) _ (by omega) (by simp only [pkF, hx]; repeat (first | rw [if_pos (by omega)] | rw [if_neg (by omega)]))
        · skip
          refine Go_iconst (by unfold in32; omega) dX6_placesOfKind_23 ?_
          refine Go_iload_n 3 rfl rfl dX6_placesOfKind_24 ?_
          refine Go_ishl dX6_placesOfKind_25 ?_
          refine Go_goto dX6_placesOfKind_26 rfl ?_
          refine Go_ior dX6_placesOfKind_30 ?_
          refine Go_istore_n (ls' := [(2, gI _), (0, gR 1), (1, gI _), (3, gI _)]) rfl dX6_placesOfKind_31 (by decide) rfl ?_
          refine Go_iincn p 1 rfl rfl (by omega) 3 (ls' := [(3, gI _), (2, gI _), (0, gR 1), (1, gI _)]) rfl dX6_placesOfKind_32 (by decide) rfl ?_
          refine Go_goto dX6_placesOfKind_35 rfl ?_
          refine Go_pick [2, 3, 1, 0] (ls' := [(0, gR 1), (1, gI _), (2, gI _), (3, gI _)]) rfl ?_
          exact ih_4 (p + 1) _ (by omega) (by simp only [pkF, hx]; repeat (first | rw [if_pos (by omega)] | rw [if_neg (by omega)]))
  refine Go_iconst (by unfold in32; omega) dX6_placesOfKind_0 ?_
  refine Go_istore_n (ls' := [(2, gI _), (0, gR 1), (1, gI _)]) rfl dX6_placesOfKind_1 (by decide) rfl ?_
  refine Go_iconst (by unfold in32; omega) dX6_placesOfKind_2 ?_
  refine Go_istore_n (ls' := [(3, gI _), (2, gI _), (0, gR 1), (1, gI _)]) rfl dX6_placesOfKind_3 (by decide) rfl ?_
  refine Go_pick [2, 3, 1, 0] (ls' := [(0, gR 1), (1, gI _), (2, gI _), (3, gI _)]) rfl ?_
  exact loop_4 np 0 _ (by omega) rfl
def cvF (K Q : Nat → Int) (p : Nat) (w : Int) : Int := if w = 1000000 then 1000000 else if K p = 1 then d32 (w32 (w + 1)) 2 else if K p = 4 then (if Q p < w then 1000000 else w) else w
set_option maxHeartbeats 4000000 in
set_option maxRecDepth 100000 in
theorem fX3_carriedOver {D : va_G} {ca : Nat → ClassId} {M : gMem} {nv np : Nat} (hC : CS M nv np) (p : Nat) (hp : p < 10) (w : Int) : Fn D ca mX3_carriedOver [gR 90, gI (p : Int), gI w] SH M [gI (cvF (M 5) (M 7) p w)] SH (M) := by
  refine Fn_of okX3_carriedOver (Nat.le_of_ble_eq_true rfl) (Or.inr (Or.inl ⟨_, rfl, rfl⟩)) (Nat.le_refl _) (Nat.le_refl _) ?_
  refine Go_ls2 (ls' := [(0, gR 90), (1, gI _), (2, gI _)]) rfl ?_
  have hv12 := hC.2.2.1
  refine Go_iload_n 2 rfl rfl dX3_carriedOver_0 ?_
  refine Go_ldc kcX3_50 (by unfold in32; omega) dX3_carriedOver_1 ?_
  refine Go_icmp_ne dX3_carriedOver_3 rfl (fun h3 => ?_) (fun h3 => ?_)
  · skip
    refine Go_aload_n 0 rfl rfl dX3_carriedOver_9 ?_
    refine Go_getR (c' := 1) faX3_22 sh_90 (pt_90_0 (M := M) hC.1) dX3_carriedOver_10 ?_
    refine Go_getR (c' := 5) faX3_51 sh_1 (pt_1_6 (M := M) hC.1) dX3_carriedOver_13 ?_
    refine Go_iload_n 1 rfl rfl dX3_carriedOver_16 ?_
    refine Go_ialoadv p (v := M 5 (p)) rfl sh_5 rfl (by omega) dX3_carriedOver_17 ?_
    by_cases k1 : M 5 p = 1
    · refine Go_lookup (off := 26) (tgt := 44) dX3_carriedOver_18 (by decide) (by rw [k1]; rfl) rfl ?_
      refine Go_iload_n 2 rfl rfl dX3_carriedOver_44 ?_
      refine Go_iconst (by unfold in32; omega) dX3_carriedOver_45 ?_
      refine Go_iadd dX3_carriedOver_46 ?_
      refine Go_iconst (by unfold in32; omega) dX3_carriedOver_47 ?_
      refine Go_idiv (by omega) dX3_carriedOver_48 ?_
      exact Go_ret (by unfold cvF; rw [if_neg h3, if_pos k1]) dX3_carriedOver_49
    by_cases k4 : M 5 p = 4
    · refine Go_lookup (off := 32) (tgt := 50) dX3_carriedOver_18 (by decide) (by rw [k4]; rfl) rfl ?_
      refine Go_iload_n 2 rfl rfl dX3_carriedOver_50 ?_
      refine Go_aload_n 0 rfl rfl dX3_carriedOver_51 ?_
      refine Go_getR (c' := 1) faX3_22 sh_90 (pt_90_0 (M := M) hC.1) dX3_carriedOver_52 ?_
      refine Go_getR (c' := 7) faX3_54 sh_1 (pt_1_8 (M := M) hC.1) dX3_carriedOver_55 ?_
      refine Go_iload_n 1 rfl rfl dX3_carriedOver_58 ?_
      refine Go_ialoadv p (v := M 7 (p)) rfl sh_7 rfl (by omega) dX3_carriedOver_59 ?_
      refine Go_icmp_le dX3_carriedOver_60 rfl (fun h60 => ?_) (fun h60 => ?_)
      · skip
        refine Go_iload_n 2 rfl rfl dX3_carriedOver_68 ?_
        exact Go_ret (by unfold cvF; rw [if_neg h3, if_neg k1, if_pos k4]; rw [if_neg (by omega)]) dX3_carriedOver_69
      · skip
        refine Go_ldc kcX3_50 (by unfold in32; omega) dX3_carriedOver_63 ?_
        refine Go_goto dX3_carriedOver_65 rfl ?_
        exact Go_ret (by unfold cvF; rw [if_neg h3, if_neg k1, if_pos k4]; rw [if_pos (by omega)]) dX3_carriedOver_69
    · refine Go_lookup (off := 52) (tgt := 70) dX3_carriedOver_18 (by decide) (by have j1 : ¬ (1 : Int) = M 5 p := fun q => k1 q.symm; have j4 : ¬ (4 : Int) = M 5 p := fun q => k4 q.symm; simp [Op.lookupswitch.offset, j1, j4]) rfl ?_
      refine Go_iload_n 2 rfl rfl dX3_carriedOver_70 ?_
      exact Go_ret (by unfold cvF; rw [if_neg h3, if_neg k1, if_neg k4]) dX3_carriedOver_71
  · skip
    refine Go_ldc kcX3_50 (by unfold in32; omega) dX3_carriedOver_6 ?_
    exact Go_ret (by unfold cvF; rw [if_pos h3]) dX3_carriedOver_8
set_option maxHeartbeats 4000000 in
set_option maxRecDepth 100000 in
theorem fX3_isChoice {D : va_G} {ca : Nat → ClassId} {M : gMem} {nv np : Nat} (hC : CS M nv np) (x : Int) : Fn D ca mX3_isChoice [gR 90, gI x] SH M [gI (bI (u32 x (np : Int) = 0))] SH (M) := by
  refine Fn_of okX3_isChoice (Nat.le_of_ble_eq_true rfl) (Or.inr (Or.inr (Or.inl ⟨_, rfl, rfl, bI_01 _⟩))) (Nat.le_refl _) (Nat.le_refl _) ?_
  refine Go_ls2 (ls' := [(0, gR 90), (1, gI _)]) rfl ?_
  have hv12 := hC.2.2.1
  have hn10 := hC.2.2.2.2
  refine Go_iload_n 1 rfl rfl dX3_isChoice_0 ?_
  refine Go_aload_n 0 rfl rfl dX3_isChoice_1 ?_
  refine Go_getR (c' := 1) faX3_22 sh_90 (pt_90_0 (M := M) hC.1) dX3_isChoice_2 ?_
  refine Go_getIv (v := (np : Int)) hC.2.2.2.1 faX3_32 sh_1 dX3_isChoice_5 ?_
  refine Go_iushr dX3_isChoice_8 ?_
  refine Go_if_ne dX3_isChoice_9 rfl (fun h9 => ?_) (fun h9 => ?_)
  · skip
    refine Go_iconst (by unfold in32; omega) dX3_isChoice_16 ?_
    exact Go_ret (by rw [bI_f (by exact h9)]) dX3_isChoice_17
  · skip
    refine Go_iconst (by unfold in32; omega) dX3_isChoice_12 ?_
    refine Go_goto dX3_isChoice_13 rfl ?_
    exact Go_ret (by rw [bI_t (by exact h9)]) dX3_isChoice_17
/-- whether a choice may stand: shrines s, big ones b, the number n -/
def msB (s b n : Int) (c : Int) : Bool := decide (a32 c s = s) && decide (w32 (bcR c + bcR (a32 c b)) ≤ n)
theorem msB_t {s b n c : Int} (h1 : a32 c s = s) (h2 : w32 (bcR c + bcR (a32 c b)) ≤ n) : msB s b n c = true := by unfold msB; rw [decide_eq_true h1, decide_eq_true h2]; rfl
theorem msB_f {s b n c : Int} (h : ¬ (a32 c s = s ∧ w32 (bcR c + bcR (a32 c b)) ≤ n)) : ¬ msB s b n c = true := by
  unfold msB
  intro h1
  rw [Bool.and_eq_true, decide_eq_true_eq, decide_eq_true_eq] at h1
  exact h h1
set_option maxHeartbeats 4000000 in
set_option maxRecDepth 100000 in
theorem fX3_mayStand {D : va_G} {ca : Nat → ClassId} {M : gMem} {nv np : Nat} (hC : CS M nv np) {s b n : Int} (hs : M 90 2 = s) (hb : M 90 3 = b) (hn : M 1 2 = n) (x : Int) : Fn D ca mX3_mayStand [gR 90, gI x] SH M [gI (bI (msB s b n x = true))] SH (M) := by
  refine Fn_of okX3_mayStand (Nat.le_of_ble_eq_true rfl) (Or.inr (Or.inr (Or.inl ⟨_, rfl, rfl, bI_01 _⟩))) (Nat.le_refl _) (Nat.le_refl _) ?_
  refine Go_ls2 (ls' := [(0, gR 90), (1, gI _)]) rfl ?_
  have hv12 := hC.2.2.1
  have hn10 := hC.2.2.2.2
  refine Go_iload_n 1 rfl rfl dX3_mayStand_0 ?_
  refine Go_aload_n 0 rfl rfl dX3_mayStand_1 ?_
  refine Go_getIv (v := s) hs faX3_15 sh_90 dX3_mayStand_2 ?_
  refine Go_iand dX3_mayStand_5 ?_
  refine Go_aload_n 0 rfl rfl dX3_mayStand_6 ?_
  refine Go_getIv (v := s) hs faX3_15 sh_90 dX3_mayStand_7 ?_
  refine Go_icmp_ne dX3_mayStand_10 rfl (fun h10 => ?_) (fun h10 => ?_)
  · skip
    refine Go_iconst (by unfold in32; omega) dX3_mayStand_41 ?_
    exact Go_ret (by rw [bI_f (msB_f (fun q => by first | exact h10 q.1 | exact absurd q.2 (by omega)))]) dX3_mayStand_42
  · skip
    refine Go_iload_n 1 rfl rfl dX3_mayStand_13 ?_
    refine Go_callSI (fJ6_bitCount _) cwX3_57 smJ6_bitCount_0f7a4 ⟨Nat.le_of_ble_eq_true rfl, Nat.le_of_ble_eq_true rfl⟩ rfl (Nat.le_of_ble_eq_true rfl) sh_rf dX3_mayStand_14 ?_
    refine Go_iload_n 1 rfl rfl dX3_mayStand_17 ?_
    refine Go_aload_n 0 rfl rfl dX3_mayStand_18 ?_
    refine Go_getIv (v := b) hb faX3_19 sh_90 dX3_mayStand_19 ?_
    refine Go_iand dX3_mayStand_22 ?_
    refine Go_callSI (fJ6_bitCount _) cwX3_57 smJ6_bitCount_0f7a4 ⟨Nat.le_of_ble_eq_true rfl, Nat.le_of_ble_eq_true rfl⟩ rfl (Nat.le_of_ble_eq_true rfl) sh_rf dX3_mayStand_23 ?_
    refine Go_iadd dX3_mayStand_26 ?_
    refine Go_aload_n 0 rfl rfl dX3_mayStand_27 ?_
    refine Go_getR (c' := 1) faX3_22 sh_90 (pt_90_0 (M := M) hC.1) dX3_mayStand_28 ?_
    refine Go_getIv (v := n) hn faX3_62 sh_1 dX3_mayStand_31 ?_
    refine Go_icmp_gt dX3_mayStand_34 rfl (fun h34 => ?_) (fun h34 => ?_)
    · skip
      refine Go_iconst (by unfold in32; omega) dX3_mayStand_41 ?_
      exact Go_ret (by rw [bI_f (msB_f (fun q => by first | exact h10 q.1 | exact absurd q.2 (by omega)))]) dX3_mayStand_42
    · skip
      refine Go_iconst (by unfold in32; omega) dX3_mayStand_37 ?_
      refine Go_goto dX3_mayStand_38 rfl ?_
      exact Go_ret (by rw [bI_t (msB_t h10 (by omega))]) dX3_mayStand_42
def caI (K Q H S : Nat → Int) (p : Nat) (r : Nat → Int) : Nat → (Nat → Int)
  | 0 => r
  | v + 1 => gUp (caI K Q H S p r v) (p * 12 + v) (cvF K Q p (S ((H p).toNat * 12 + v)))
def caO (K Q H S : Nat → Int) (nv : Nat) (r : Nat → Int) : Nat → (Nat → Int)
  | 0 => r
  | p + 1 => caI K Q H S p (caO K Q H S nv r p) nv
set_option maxHeartbeats 4000000 in
set_option maxRecDepth 100000 in
theorem fX3_carry {D : va_G} {ca : Nat → ClassId} {M : gMem} {nv np : Nat} (hC : CS M nv np) (hH : ∀ p, p < np → ∃ z : Nat, z < nv ∧ M 4 p = (z : Int)) : Fn D ca mX3_carry [gR 90, gR 88] SH M [] SH (gSet (gSet M 90 (gUp (gUp (M 90) 2 (pkF (M 5) 3 np)) 3 (pkF (M 5) 1 np))) 91 (caO (M 5) (M 7) (M 4) (M 89) nv (M 91) np)) := by
  refine Fn_of okX3_carry (Nat.le_of_ble_eq_true rfl) (Or.inl ⟨rfl, rfl⟩) (Nat.le_refl _) (Nat.le_refl _) ?_
  refine Go_ls2 (ls' := [(0, gR 90), (1, gR 88)]) rfl ?_
  have hv12 := hC.2.2.1
  have hn10 := hC.2.2.2.2
  have hN : CS (gSet M 90 (gUp (gUp (M 90) 2 (pkF (M 5) 3 np)) 3 (pkF (M 5) 1 np))) nv np := by
    have h1 := CS_up (i := 90) (j := 3) (x := pkF (M 5) 1 np) (CS_up (i := 90) (j := 2) (x := pkF (M 5) 3 np) hC rfl) rfl
    rw [gSet_s, gSet_ss] at h1
    exact h1
  have loop_26 : ∀ (k : Nat) (p : Nat) (r : Nat → Int), p + k = np → caO (M 5) (M 7) (M 4) (M 89) nv (M 91) p = r → Go D ca none (gRm mX3_carry (SH.length - SH.length) (gSz SH - gSz SH)) mX3_carry 26 [(0, gR 90), (1, gR 88), (2, gI (p : Int))] [] SH (gSet (gSet M 90 (gUp (gUp (M 90) 2 (pkF (M 5) 3 np)) 3 (pkF (M 5) 1 np))) 91 r) [] SH (gSet (gSet M 90 (gUp (gUp (M 90) 2 (pkF (M 5) 3 np)) 3 (pkF (M 5) 1 np))) 91 (caO (M 5) (M 7) (M 4) (M 89) nv (M 91) np)) := by
    intro k
    induction k with
    | zero =>
      intro p r hq0 hr
      obtain rfl : np = p := by omega
      refine Go_iload_n 2 rfl rfl dX3_carry_26 ?_
      refine Go_aload_n 0 rfl rfl dX3_carry_27 ?_
      refine Go_getR (c' := 1) faX3_22 sh_90 (pt_90_0 (M := M) hC.1) dX3_carry_28 ?_
      refine Go_getIv (v := (np : Int)) hC.2.2.2.1 faX3_32 sh_1 dX3_carry_31 ?_
      refine Go_icmp_ge dX3_carry_34 rfl (fun h34 => ?_) (fun h34 => ?_)
      · skip
        subst hr
        exact Go_ret rfl dX3_carry_92
      · skip
        exact absurd h34 (by omega)
    | succ k ih_26 =>
      intro p r hq0 hr
      obtain ⟨z, hz, ez⟩ := hH p (by omega)
      have loop_39 : ∀ (k : Nat) (v : Nat) (q : Nat → Int), v + k = nv → caI (M 5) (M 7) (M 4) (M 89) p r v = q → Go D ca none (gRm mX3_carry (SH.length - SH.length) (gSz SH - gSz SH)) mX3_carry 39 [(0, gR 90), (1, gR 88), (2, gI (p : Int)), (3, gI (v : Int))] [] SH (gSet (gSet M 90 (gUp (gUp (M 90) 2 (pkF (M 5) 3 np)) 3 (pkF (M 5) 1 np))) 91 q) [] SH (gSet (gSet M 90 (gUp (gUp (M 90) 2 (pkF (M 5) 3 np)) 3 (pkF (M 5) 1 np))) 91 (caO (M 5) (M 7) (M 4) (M 89) nv (M 91) np)) := by
        intro k
        induction k with
        | zero =>
          intro v q hv hq
          obtain rfl : nv = v := by omega
          refine Go_iload_n 3 rfl rfl dX3_carry_39 ?_
          refine Go_aload_n 0 rfl rfl dX3_carry_40 ?_
          refine Go_getR (c' := 1) faX3_22 sh_90 (pt_90_0 (M := M) hC.1) dX3_carry_41 ?_
          refine Go_getIv (v := (nv : Int)) hC.2.1 faX3_35 sh_1 dX3_carry_44 ?_
          refine Go_icmp_ge dX3_carry_47 rfl (fun h47 => ?_) (fun h47 => ?_)
          · skip
            refine Go_iincn p 1 rfl rfl (by omega) 2 (ls' := [(2, gI _), (0, gR 90), (1, gR 88), (3, gI _)]) rfl dX3_carry_86 (by decide) rfl ?_
            refine Go_goto dX3_carry_89 rfl ?_
            refine Go_pick [1, 2, 0] (ls' := [(0, gR 90), (1, gR 88), (2, gI _)]) rfl ?_
            exact ih_26 (p + 1) _ (by omega) (by simp only [caO, hr, hq])
          · skip
            exact absurd h47 (by omega)
        | succ k ih_39 =>
          intro v q hv hq
          refine Go_iload_n 3 rfl rfl dX3_carry_39 ?_
          refine Go_aload_n 0 rfl rfl dX3_carry_40 ?_
          refine Go_getR (c' := 1) faX3_22 sh_90 (pt_90_0 (M := M) hC.1) dX3_carry_41 ?_
          refine Go_getIv (v := (nv : Int)) hC.2.1 faX3_35 sh_1 dX3_carry_44 ?_
          refine Go_icmp_ge dX3_carry_47 rfl (fun h47 => ?_) (fun h47 => ?_)
          · skip
            exact absurd h47 (by omega)
          · skip
            refine Go_aload_n 0 rfl rfl dX3_carry_50 ?_
            refine Go_getR (c' := 91) faX3_9 sh_90 (pt_90_1 (M := M) hC.1) dX3_carry_51 ?_
            refine Go_iload_n 2 rfl rfl dX3_carry_54 ?_
            refine Go_bipush ⟨by decide, by unfold in32; omega⟩ dX3_carry_55 ?_
            refine Go_imuln p 12 rfl rfl (by omega) dX3_carry_57 ?_
            refine Go_iload_n 3 rfl rfl dX3_carry_58 ?_
            refine Go_iaddn (p * 12) v rfl rfl (by omega) dX3_carry_59 ?_
            refine Go_aload_n 0 rfl rfl dX3_carry_60 ?_
            refine Go_iload_n 2 rfl rfl dX3_carry_61 ?_
            refine Go_aload_n 1 rfl rfl dX3_carry_62 ?_
            refine Go_aload_n 0 rfl rfl dX3_carry_63 ?_
            refine Go_getR (c' := 1) faX3_22 sh_90 (pt_90_0 (M := M) hC.1) dX3_carry_64 ?_
            refine Go_getR (c' := 4) faX3_38 sh_1 (pt_1_5 (M := M) hC.1) dX3_carry_67 ?_
            refine Go_iload_n 2 rfl rfl dX3_carry_70 ?_
            refine Go_ialoadv p (v := ((z : Nat) : Int)) ez sh_4 rfl (by omega) dX3_carry_71 ?_
            refine Go_iload_n 3 rfl rfl dX3_carry_72 ?_
            refine Go_callVI (q := vwCl[7]) (fX7_between (gPtr_row hN.1 rfl) z v (by omega) (by omega) (v := M 89 (z * 12 + v)) rfl) cwX3_41 imX7_between rfl rfl ⟨Nat.le_of_ble_eq_true rfl, Nat.le_of_ble_eq_true rfl⟩ sh_88 rfl (Nat.le_of_ble_eq_true rfl) sh_rf dX3_carry_73 ?_
            refine Go_callVI (q := vwCl[3]) (fX3_carriedOver (CS_row hN rfl) p (by omega) _) cwX3_47 imX3_carriedOver rfl rfl ⟨Nat.le_of_ble_eq_true rfl, Nat.le_of_ble_eq_true rfl⟩ sh_90 rfl (Nat.le_of_ble_eq_true rfl) sh_rf dX3_carry_76 ?_
            refine Go_iastoreS ((p * 12) + v) sh_91 rfl (by omega) dX3_carry_79 ?_
            refine Go_iincn v 1 rfl rfl (by omega) 3 (ls' := [(3, gI _), (0, gR 90), (1, gR 88), (2, gI _)]) rfl dX3_carry_80 (by decide) rfl ?_
            refine Go_goto dX3_carry_83 rfl ?_
            refine Go_pick [1, 2, 3, 0] (ls' := [(0, gR 90), (1, gR 88), (2, gI _), (3, gI _)]) rfl ?_
            exact ih_39 (v + 1) _ (by omega) (by simp only [caI, hq, ez, Int.toNat_natCast]; rfl)
      refine Go_iload_n 2 rfl rfl dX3_carry_26 ?_
      refine Go_aload_n 0 rfl rfl dX3_carry_27 ?_
      refine Go_getR (c' := 1) faX3_22 sh_90 (pt_90_0 (M := M) hC.1) dX3_carry_28 ?_
      refine Go_getIv (v := (np : Int)) hC.2.2.2.1 faX3_32 sh_1 dX3_carry_31 ?_
      refine Go_icmp_ge dX3_carry_34 rfl (fun h34 => ?_) (fun h34 => ?_)
      · skip
        exact absurd h34 (by omega)
      · skip
        refine Go_iconst (by unfold in32; omega) dX3_carry_37 ?_
        refine Go_istore_n (ls' := [(3, gI _), (0, gR 90), (1, gR 88), (2, gI _)]) rfl dX3_carry_38 (by decide) rfl ?_
        refine Go_pick [1, 2, 3, 0] (ls' := [(0, gR 90), (1, gR 88), (2, gI _), (3, gI _)]) rfl ?_
        exact loop_39 nv 0 _ (by omega) rfl
  refine Go_aload_n 0 rfl rfl dX3_carry_0 ?_
  refine Go_aload_n 0 rfl rfl dX3_carry_1 ?_
  refine Go_getR (c' := 1) faX3_22 sh_90 (pt_90_0 (M := M) hC.1) dX3_carry_2 ?_
  refine Go_iconst (by unfold in32; omega) dX3_carry_5 ?_
  refine Go_callVI (q := vwCl[6]) (fX6_placesOfKind hC _) cwX3_26 imX6_placesOfKind rfl rfl ⟨Nat.le_of_ble_eq_true rfl, Nat.le_of_ble_eq_true rfl⟩ sh_1 rfl (Nat.le_of_ble_eq_true rfl) sh_rf dX3_carry_6 ?_
  refine Go_putI fpX3_15 sh_90 dX3_carry_9 ?_
  refine Go_aload_n 0 rfl rfl dX3_carry_12 ?_
  refine Go_aload_n 0 rfl rfl dX3_carry_13 ?_
  refine Go_getR (c' := 1) faX3_22 sh_90 (pt_90_0 (M := M) hC.1) dX3_carry_14 ?_
  refine Go_iconst (by unfold in32; omega) dX3_carry_17 ?_
  refine Go_callVI (q := vwCl[6]) (fX6_placesOfKind (CS_up hC rfl) _) cwX3_26 imX6_placesOfKind rfl rfl ⟨Nat.le_of_ble_eq_true rfl, Nat.le_of_ble_eq_true rfl⟩ sh_1 rfl (Nat.le_of_ble_eq_true rfl) sh_rf dX3_carry_18 ?_
  refine Go_putI fpX3_19 sh_90 dX3_carry_21 ?_
  refine Go_M (M2 := gSet M 90 (gUp (gUp (M 90) 2 (pkF (M 5) 3 np)) 3 (pkF (M 5) 1 np))) (by rw [gSet_s, gSet_ss]; rfl) ?_
  refine Go_o 91 ?_
  refine Go_iconst (by unfold in32; omega) dX3_carry_24 ?_
  refine Go_istore_n (ls' := [(2, gI _), (0, gR 90), (1, gR 88)]) rfl dX3_carry_25 (by decide) rfl ?_
  refine Go_pick [1, 2, 0] (ls' := [(0, gR 90), (1, gR 88), (2, gI _)]) rfl ?_
  exact loop_26 np 0 _ (by omega) rfl
