/-- the model's valley -/
def MS (M : gMem) (nv np : Nat) : Prop := gPtr M ∧ M 106 0 = (nv : Int) ∧ nv ≤ 12 ∧ M 106 4 = (np : Int) ∧ np ≤ 10
theorem MS_row {M : gMem} {nv np i : Nat} {r : Nat → Int} (h : MS M nv np) (hi : (i != 106 && gPt.all (fun q => q.1 != i)) = true) : MS (gSet M i r) nv np := by
  rw [Bool.and_eq_true] at hi
  have h1 : (106 : Nat) ≠ i := by have := hi.1; simp at this; omega
  refine ⟨gPtr_row h.1 hi.2, ?_, h.2.2.1, ?_, h.2.2.2.2⟩
  · rw [gSet_n h1]; exact h.2.1
  · rw [gSet_n h1]; exact h.2.2.2.1
theorem gPt_106 : ∀ q ∈ gPt, q.1 = 106 → q.2.1 < 22 ∨ q.2.1 = 35 := by decide +kernel
/-- the model's own row, but for what its searches write -/
def agM (f g : Nat → Int) : Prop := ∀ j, j < 22 ∨ j = 35 → f j = g j
theorem MS_ob {M : gMem} {nv np : Nat} {f : Nat → Int} (h : MS M nv np) (hf : agM f (M 106)) : MS (gSet M 106 f) nv np :=
  ⟨gPtr_set h.1 (fun q hq e0 => hf _ (gPt_106 q hq e0)), (hf 0 (by decide)).trans h.2.1, h.2.2.1, (hf 4 (by decide)).trans h.2.2.2.1, h.2.2.2.2⟩
theorem agM_rf (f : Nat → Int) : agM f f := fun _ _ => rfl
theorem agM_up {f g : Nat → Int} {j : Nat} {x : Int} (h : agM f g) (hj : ¬ (j < 22 ∨ j = 35)) : agM (gUp f j x) g := fun i hi => by
  rw [gUp_n (by intro e0; subst e0; exact hj hi)]
  exact h i hi
set_option maxHeartbeats 4000000 in
set_option maxRecDepth 100000 in
theorem fX9_in {D : va_G} {ca : Nat → ClassId} {M : gMem} (n lo hi : Int) : Fn D ca mX9_in [gJ n, gJ lo, gJ hi] SH M [gI (bI (lo ≤ n ∧ n ≤ hi))] SH (M) := by
  refine Fn_of okX9_in (Nat.le_of_ble_eq_true rfl) (Or.inr (Or.inr (Or.inl ⟨_, rfl, rfl, bI_01 _⟩))) (Nat.le_refl _) (Nat.le_refl _) ?_
  refine Go_ls2 (ls' := [(0, gJ _), (2, gJ _), (4, gJ _)]) rfl ?_
  refine Go_lload_n 0 rfl rfl dX9_in_0 ?_
  refine Go_lload_n 1 rfl rfl dX9_in_1 ?_
  refine Go_lcmp dX9_in_2 ?_
  refine Go_if_lt dX9_in_3 rfl (fun h3 => ?_) (fun h3 => ?_)
  · skip
    replace h3 := cmp_lt.mp h3
    refine Go_iconst (by unfold in32; omega) dX9_in_17 ?_
    exact Go_ret (by rw [bI_f (by omega)]) dX9_in_18
  · skip
    replace h3 := cmp_ge.mp h3
    refine Go_lload_n 0 rfl rfl dX9_in_6 ?_
    refine Go_lload 2 rfl dX9_in_7 ?_
    refine Go_lcmp dX9_in_9 ?_
    refine Go_if_gt dX9_in_10 rfl (fun h10 => ?_) (fun h10 => ?_)
    · skip
      replace h10 := cmp_gt.mp h10
      refine Go_iconst (by unfold in32; omega) dX9_in_17 ?_
      exact Go_ret (by rw [bI_f (by omega)]) dX9_in_18
    · skip
      replace h10 := cmp_le.mp h10
      refine Go_iconst (by unfold in32; omega) dX9_in_13 ?_
      refine Go_goto dX9_in_14 rfl ?_
      exact Go_ret (by rw [bI_t (by omega)]) dX9_in_18
set_option maxHeartbeats 4000000 in
set_option maxRecDepth 100000 in
theorem fX9_isVillage {D : va_G} {ca : Nat → ClassId} {M : gMem} {nv np : Nat} (hC : MS M nv np) (v : Int) : Fn D ca mX9_isVillage [gR 106, gI v] SH M [gI (bI (0 ≤ v ∧ v ≤ (nv : Int) - 1))] SH (M) := by
  refine Fn_of okX9_isVillage (Nat.le_of_ble_eq_true rfl) (Or.inr (Or.inr (Or.inl ⟨_, rfl, rfl, bI_01 _⟩))) (Nat.le_refl _) (Nat.le_refl _) ?_
  refine Go_ls2 (ls' := [(0, gR 106), (1, gI _)]) rfl ?_
  have hv12 := hC.2.2.1
  have hn10 := hC.2.2.2.2
  refine Go_iload_n 1 rfl rfl dX9_isVillage_0 ?_
  refine Go_i2l dX9_isVillage_1 ?_
  refine Go_lconst (v := 0) ⟨rfl, by unfold in64; omega⟩ dX9_isVillage_2 ?_
  refine Go_aload_n 0 rfl rfl dX9_isVillage_3 ?_
  refine Go_getIv (v := (nv : Int)) hC.2.1 faX9_75 sh_106 dX9_isVillage_4 ?_
  refine Go_iconst (by unfold in32; omega) dX9_isVillage_7 ?_
  refine Go_isubc (by omega) dX9_isVillage_8 ?_
  refine Go_i2l dX9_isVillage_9 ?_
  refine Go_callSI (fX9_in _ _ _) cwX9_81 smX9_in ⟨Nat.le_of_ble_eq_true rfl, Nat.le_of_ble_eq_true rfl⟩ rfl (Nat.le_of_ble_eq_true rfl) sh_rf dX9_isVillage_10 ?_
  exact Go_ret rfl dX9_isVillage_13
set_option maxHeartbeats 4000000 in
set_option maxRecDepth 100000 in
theorem fX9_isPlace {D : va_G} {ca : Nat → ClassId} {M : gMem} {nv np : Nat} (hC : MS M nv np) (v : Int) : Fn D ca mX9_isPlace [gR 106, gI v] SH M [gI (bI (0 ≤ v ∧ v ≤ (np : Int) - 1))] SH (M) := by
  refine Fn_of okX9_isPlace (Nat.le_of_ble_eq_true rfl) (Or.inr (Or.inr (Or.inl ⟨_, rfl, rfl, bI_01 _⟩))) (Nat.le_refl _) (Nat.le_refl _) ?_
  refine Go_ls2 (ls' := [(0, gR 106), (1, gI _)]) rfl ?_
  have hv12 := hC.2.2.1
  have hn10 := hC.2.2.2.2
  refine Go_iload_n 1 rfl rfl dX9_isPlace_0 ?_
  refine Go_i2l dX9_isPlace_1 ?_
  refine Go_lconst (v := 0) ⟨rfl, by unfold in64; omega⟩ dX9_isPlace_2 ?_
  refine Go_aload_n 0 rfl rfl dX9_isPlace_3 ?_
  refine Go_getIv (v := (np : Int)) hC.2.2.2.1 faX9_78 sh_106 dX9_isPlace_4 ?_
  refine Go_iconst (by unfold in32; omega) dX9_isPlace_7 ?_
  refine Go_isubc (by omega) dX9_isPlace_8 ?_
  refine Go_i2l dX9_isPlace_9 ?_
  refine Go_callSI (fX9_in _ _ _) cwX9_81 smX9_in ⟨Nat.le_of_ble_eq_true rfl, Nat.le_of_ble_eq_true rfl⟩ rfl (Nat.le_of_ble_eq_true rfl) sh_rf dX9_isPlace_10 ?_
  exact Go_ret rfl dX9_isPlace_13
set_option maxHeartbeats 4000000 in
set_option maxRecDepth 100000 in
theorem fX9_isRoad {D : va_G} {ca : Nat → ClassId} {M : gMem} {nv np : Nat} (hC : MS M nv np) (a b z : Int) : Fn D ca mX9_isRoad [gR 106, gJ a, gJ b, gJ z] SH M [gI (bI ((0 ≤ a ∧ a ≤ (nv : Int) - 1) ∧ (0 ≤ b ∧ b ≤ (nv : Int) - 1) ∧ a ≠ b ∧ 0 ≤ z ∧ z ≤ 1000))] SH (M) := by
  refine Fn_of okX9_isRoad (Nat.le_of_ble_eq_true rfl) (Or.inr (Or.inr (Or.inl ⟨_, rfl, rfl, bI_01 _⟩))) (Nat.le_refl _) (Nat.le_refl _) ?_
  refine Go_ls2 (ls' := [(0, gR 106), (1, gJ _), (3, gJ _), (5, gJ _)]) rfl ?_
  have hv12 := hC.2.2.1
  have hn10 := hC.2.2.2.2
  refine Go_lload_n 1 rfl rfl dX9_isRoad_0 ?_
  refine Go_lconst (v := 0) ⟨rfl, by unfold in64; omega⟩ dX9_isRoad_1 ?_
  refine Go_aload_n 0 rfl rfl dX9_isRoad_2 ?_
  refine Go_getIv (v := (nv : Int)) hC.2.1 faX9_75 sh_106 dX9_isRoad_3 ?_
  refine Go_iconst (by unfold in32; omega) dX9_isRoad_6 ?_
  refine Go_isubc (by omega) dX9_isRoad_7 ?_
  refine Go_i2l dX9_isRoad_8 ?_
  refine Go_callSI (fX9_in _ _ _) cwX9_81 smX9_in ⟨Nat.le_of_ble_eq_true rfl, Nat.le_of_ble_eq_true rfl⟩ rfl (Nat.le_of_ble_eq_true rfl) sh_rf dX9_isRoad_9 ?_
  refine Go_if_eq dX9_isRoad_12 rfl (fun h12 => ?_) (fun h12 => ?_)
  · skip
    replace h12 := bI_0.mp h12
    refine Go_iconst (by unfold in32; omega) dX9_isRoad_52 ?_
    exact Go_ret (by rw [bI_f (by omega)]) dX9_isRoad_53
  · skip
    replace h12 := bI_n.mp h12
    refine Go_lload_n 2 rfl rfl dX9_isRoad_15 ?_
    refine Go_lconst (v := 0) ⟨rfl, by unfold in64; omega⟩ dX9_isRoad_16 ?_
    refine Go_aload_n 0 rfl rfl dX9_isRoad_17 ?_
    refine Go_getIv (v := (nv : Int)) hC.2.1 faX9_75 sh_106 dX9_isRoad_18 ?_
    refine Go_iconst (by unfold in32; omega) dX9_isRoad_21 ?_
    refine Go_isubc (by omega) dX9_isRoad_22 ?_
    refine Go_i2l dX9_isRoad_23 ?_
    refine Go_callSI (fX9_in _ _ _) cwX9_81 smX9_in ⟨Nat.le_of_ble_eq_true rfl, Nat.le_of_ble_eq_true rfl⟩ rfl (Nat.le_of_ble_eq_true rfl) sh_rf dX9_isRoad_24 ?_
    refine Go_if_eq dX9_isRoad_27 rfl (fun h27 => ?_) (fun h27 => ?_)
    · skip
      replace h27 := bI_0.mp h27
      refine Go_iconst (by unfold in32; omega) dX9_isRoad_52 ?_
      exact Go_ret (by rw [bI_f (by omega)]) dX9_isRoad_53
    · skip
      replace h27 := bI_n.mp h27
      refine Go_lload_n 1 rfl rfl dX9_isRoad_30 ?_
      refine Go_lload_n 2 rfl rfl dX9_isRoad_31 ?_
      refine Go_lcmp dX9_isRoad_32 ?_
      refine Go_if_eq dX9_isRoad_33 rfl (fun h33 => ?_) (fun h33 => ?_)
      · skip
        replace h33 := cmp_eq.mp h33
        refine Go_iconst (by unfold in32; omega) dX9_isRoad_52 ?_
        exact Go_ret (by rw [bI_f (by omega)]) dX9_isRoad_53
      · skip
        replace h33 := cmp_ne.mp h33
        refine Go_lload 3 rfl dX9_isRoad_36 ?_
        refine Go_lconst (v := 0) ⟨rfl, by unfold in64; omega⟩ dX9_isRoad_38 ?_
        refine Go_ldc2 klX9_85 (by unfold in64; omega) dX9_isRoad_39 ?_
        refine Go_callSI (fX9_in _ _ _) cwX9_81 smX9_in ⟨Nat.le_of_ble_eq_true rfl, Nat.le_of_ble_eq_true rfl⟩ rfl (Nat.le_of_ble_eq_true rfl) sh_rf dX9_isRoad_42 ?_
        refine Go_if_eq dX9_isRoad_45 rfl (fun h45 => ?_) (fun h45 => ?_)
        · skip
          replace h45 := bI_0.mp h45
          refine Go_iconst (by unfold in32; omega) dX9_isRoad_52 ?_
          exact Go_ret (by rw [bI_f (by omega)]) dX9_isRoad_53
        · skip
          replace h45 := bI_n.mp h45
          refine Go_iconst (by unfold in32; omega) dX9_isRoad_48 ?_
          refine Go_goto dX9_isRoad_49 rfl ?_
          exact Go_ret (by rw [bI_t (by omega)]) dX9_isRoad_53
set_option maxHeartbeats 4000000 in
set_option maxRecDepth 100000 in
theorem fX9_ovenCost {D : va_G} {ca : Nat → ClassId} {M : gMem} (hp : gPtr M) (p : Nat) (h : p < 10) : Fn D ca mX9_ovenCost [gR 106, gI (p : Int)] SH M [gI (ocF (M 111) (M 112) p)] SH (M) := by
  refine Fn_of okX9_ovenCost (Nat.le_of_ble_eq_true rfl) (Or.inr (Or.inl ⟨_, rfl, rfl⟩)) (Nat.le_refl _) (Nat.le_refl _) ?_
  refine Go_ls2 (ls' := [(0, gR 106), (1, gI _)]) rfl ?_
  refine Go_aload_n 0 rfl rfl dX9_ovenCost_0 ?_
  refine Go_getR (c' := 111) faX9_23 sh_106 (pt_106_6 (M := M) hp) dX9_ovenCost_1 ?_
  refine Go_iload_n 1 rfl rfl dX9_ovenCost_4 ?_
  refine Go_ialoadv p (v := M 111 (p)) rfl sh_111 rfl (by omega) dX9_ovenCost_5 ?_
  refine Go_iconst (by unfold in32; omega) dX9_ovenCost_6 ?_
  refine Go_icmp_eq dX9_ovenCost_7 rfl (fun h7 => ?_) (fun h7 => ?_)
  · skip
    refine Go_iconst (by unfold in32; omega) dX9_ovenCost_20 ?_
    refine Go_goto dX9_ovenCost_21 rfl ?_
    exact Go_ret (by unfold ocF; simp [h7]) dX9_ovenCost_30
  · skip
    refine Go_aload_n 0 rfl rfl dX9_ovenCost_10 ?_
    refine Go_getR (c' := 111) faX9_23 sh_106 (pt_106_6 (M := M) hp) dX9_ovenCost_11 ?_
    refine Go_iload_n 1 rfl rfl dX9_ovenCost_14 ?_
    refine Go_ialoadv p (v := M 111 (p)) rfl sh_111 rfl (by omega) dX9_ovenCost_15 ?_
    refine Go_iconst (by unfold in32; omega) dX9_ovenCost_16 ?_
    refine Go_icmp_ne dX9_ovenCost_17 rfl (fun h17 => ?_) (fun h17 => ?_)
    · skip
      refine Go_aload_n 0 rfl rfl dX9_ovenCost_24 ?_
      refine Go_getR (c' := 112) faX9_26 sh_106 (pt_106_7 (M := M) hp) dX9_ovenCost_25 ?_
      refine Go_iload_n 1 rfl rfl dX9_ovenCost_28 ?_
      refine Go_ialoadv p (v := M 112 (p)) rfl sh_112 rfl (by omega) dX9_ovenCost_29 ?_
      exact Go_ret (by unfold ocF; simp [h7, h17]) dX9_ovenCost_30
    · skip
      refine Go_iconst (by unfold in32; omega) dX9_ovenCost_20 ?_
      refine Go_goto dX9_ovenCost_21 rfl ?_
      exact Go_ret (by unfold ocF; simp [h7, h17]) dX9_ovenCost_30
def mcF (H K Q S : Nat → Int) (p v : Nat) : Int := if S (12 * (H p).toNat + v) = -4 ∨ (K p = 4 ∧ Q p < S (12 * (H p).toNat + v)) then -4 else if K p = 1 then d32 (w32 (S (12 * (H p).toNat + v) + 1)) 2 else S (12 * (H p).toNat + v)
set_option maxHeartbeats 4000000 in
set_option maxRecDepth 100000 in
theorem fX9_carried {D : va_G} {ca : Nat → ClassId} {M : gMem} (hp : gPtr M) (p v z : Nat) (hp2 : p < 10) (hv : v < 12) (ez : M 110 p = (z : Int)) (hz : z < 12) : Fn D ca mX9_carried [gR 106, gI (p : Int), gI (v : Int)] SH M [gI (mcF (M 110) (M 111) (M 113) (M 124) p v)] SH (M) := by
  refine Fn_of okX9_carried (Nat.le_of_ble_eq_true rfl) (Or.inr (Or.inl ⟨_, rfl, rfl⟩)) (Nat.le_refl _) (Nat.le_refl _) ?_
  refine Go_ls2 (ls' := [(0, gR 106), (1, gI _), (2, gI _)]) rfl ?_
  refine Go_aload_n 0 rfl rfl dX9_carried_0 ?_
  refine Go_getR (c' := 124) faX9_66 sh_106 (pt_106_21 (M := M) hp) dX9_carried_1 ?_
  refine Go_bipush ⟨by decide, by unfold in32; omega⟩ dX9_carried_4 ?_
  refine Go_aload_n 0 rfl rfl dX9_carried_6 ?_
  refine Go_getR (c' := 110) faX9_20 sh_106 (pt_106_5 (M := M) hp) dX9_carried_7 ?_
  refine Go_iload_n 1 rfl rfl dX9_carried_10 ?_
  refine Go_ialoadv p (v := ((z : Nat) : Int)) ez sh_110 rfl (by omega) dX9_carried_11 ?_
  refine Go_imuln 12 z rfl rfl (by omega) dX9_carried_12 ?_
  refine Go_iload_n 2 rfl rfl dX9_carried_13 ?_
  refine Go_iaddn (12 * z) v rfl rfl (by omega) dX9_carried_14 ?_
  refine Go_ialoadv ((12 * z) + v) (v := M 124 ((12 * z) + v)) rfl sh_124 rfl (by omega) dX9_carried_15 ?_
  refine Go_istore_n (ls' := [(3, gI _), (0, gR 106), (1, gI _), (2, gI _)]) rfl dX9_carried_16 (by decide) rfl ?_
  refine Go_iload_n 0 rfl rfl dX9_carried_17 ?_
  refine Go_bipush ⟨by decide, by unfold in32; omega⟩ dX9_carried_18 ?_
  refine Go_icmp_eq dX9_carried_20 rfl (fun h20 => ?_) (fun h20 => ?_)
  · skip
    refine Go_bipush ⟨by decide, by unfold in32; omega⟩ dX9_carried_43 ?_
    refine Go_goto dX9_carried_45 rfl ?_
    exact Go_ret (by unfold mcF; rw [ez, Int.toNat_natCast]; first | rw [if_pos (by first | exact Or.inl h20 | exact Or.inr ⟨h30, h40⟩)] | rw [if_neg (by exact fun q => q.elim h20 (fun w => by first | exact h30 w.1 | exact absurd w.2 (Int.not_lt.mpr h40))), if_pos (by exact h55)] | rw [if_neg (by exact fun q => q.elim h20 (fun w => by first | exact h30 w.1 | exact absurd w.2 (Int.not_lt.mpr h40))), if_neg (by exact h55)]) dX9_carried_67
  · skip
    refine Go_aload_n 1 rfl rfl dX9_carried_23 ?_
    refine Go_getR (c' := 111) faX9_23 sh_106 (pt_106_6 (M := M) hp) dX9_carried_24 ?_
    refine Go_iload_n 2 rfl rfl dX9_carried_27 ?_
    refine Go_ialoadv p (v := M 111 (p)) rfl sh_111 rfl (by omega) dX9_carried_28 ?_
    refine Go_iconst (by unfold in32; omega) dX9_carried_29 ?_
    refine Go_icmp_ne dX9_carried_30 rfl (fun h30 => ?_) (fun h30 => ?_)
    · skip
      refine Go_aload_n 1 rfl rfl dX9_carried_48 ?_
      refine Go_getR (c' := 111) faX9_23 sh_106 (pt_106_6 (M := M) hp) dX9_carried_49 ?_
      refine Go_iload_n 2 rfl rfl dX9_carried_52 ?_
      refine Go_ialoadv p (v := M 111 (p)) rfl sh_111 rfl (by omega) dX9_carried_53 ?_
      refine Go_iconst (by unfold in32; omega) dX9_carried_54 ?_
      refine Go_icmp_ne dX9_carried_55 rfl (fun h55 => ?_) (fun h55 => ?_)
      · skip
        refine Go_iload_n 0 rfl rfl dX9_carried_66 ?_
        exact Go_ret (by unfold mcF; rw [ez, Int.toNat_natCast]; first | rw [if_pos (by first | exact Or.inl h20 | exact Or.inr ⟨h30, h40⟩)] | rw [if_neg (by exact fun q => q.elim h20 (fun w => by first | exact h30 w.1 | exact absurd w.2 (Int.not_lt.mpr h40))), if_pos (by exact h55)] | rw [if_neg (by exact fun q => q.elim h20 (fun w => by first | exact h30 w.1 | exact absurd w.2 (Int.not_lt.mpr h40))), if_neg (by exact h55)]) dX9_carried_67
      · skip
        refine Go_iload_n 0 rfl rfl dX9_carried_58 ?_
        refine Go_iconst (by unfold in32; omega) dX9_carried_59 ?_
        refine Go_iadd dX9_carried_60 ?_
        refine Go_iconst (by unfold in32; omega) dX9_carried_61 ?_
        refine Go_idiv (by omega) dX9_carried_62 ?_
        refine Go_goto dX9_carried_63 rfl ?_
        exact Go_ret (by unfold mcF; rw [ez, Int.toNat_natCast]; first | rw [if_pos (by first | exact Or.inl h20 | exact Or.inr ⟨h30, h40⟩)] | rw [if_neg (by exact fun q => q.elim h20 (fun w => by first | exact h30 w.1 | exact absurd w.2 (Int.not_lt.mpr h40))), if_pos (by exact h55)] | rw [if_neg (by exact fun q => q.elim h20 (fun w => by first | exact h30 w.1 | exact absurd w.2 (Int.not_lt.mpr h40))), if_neg (by exact h55)]) dX9_carried_67
    · skip
      refine Go_iload_n 0 rfl rfl dX9_carried_33 ?_
      refine Go_aload_n 1 rfl rfl dX9_carried_34 ?_
      refine Go_getR (c' := 113) faX9_29 sh_106 (pt_106_8 (M := M) hp) dX9_carried_35 ?_
      refine Go_iload_n 2 rfl rfl dX9_carried_38 ?_
      refine Go_ialoadv p (v := M 113 (p)) rfl sh_113 rfl (by omega) dX9_carried_39 ?_
      refine Go_icmp_le dX9_carried_40 rfl (fun h40 => ?_) (fun h40 => ?_)
      · skip
        refine Go_aload_n 1 rfl rfl dX9_carried_48 ?_
        refine Go_getR (c' := 111) faX9_23 sh_106 (pt_106_6 (M := M) hp) dX9_carried_49 ?_
        refine Go_iload_n 2 rfl rfl dX9_carried_52 ?_
        refine Go_ialoadv p (v := M 111 (p)) rfl sh_111 rfl (by omega) dX9_carried_53 ?_
        refine Go_iconst (by unfold in32; omega) dX9_carried_54 ?_
        refine Go_icmp_ne dX9_carried_55 rfl (fun h55 => ?_) (fun h55 => ?_)
        · skip
          refine Go_iload_n 0 rfl rfl dX9_carried_66 ?_
          exact Go_ret (by unfold mcF; rw [ez, Int.toNat_natCast]; first | rw [if_pos (by first | exact Or.inl h20 | exact Or.inr ⟨h30, h40⟩)] | rw [if_neg (by exact fun q => q.elim h20 (fun w => by first | exact h30 w.1 | exact absurd w.2 (Int.not_lt.mpr h40))), if_pos (by exact h55)] | rw [if_neg (by exact fun q => q.elim h20 (fun w => by first | exact h30 w.1 | exact absurd w.2 (Int.not_lt.mpr h40))), if_neg (by exact h55)]) dX9_carried_67
        · skip
          refine Go_iload_n 0 rfl rfl dX9_carried_58 ?_
          refine Go_iconst (by unfold in32; omega) dX9_carried_59 ?_
          refine Go_iadd dX9_carried_60 ?_
          refine Go_iconst (by unfold in32; omega) dX9_carried_61 ?_
          refine Go_idiv (by omega) dX9_carried_62 ?_
          refine Go_goto dX9_carried_63 rfl ?_
          exact Go_ret (by unfold mcF; rw [ez, Int.toNat_natCast]; first | rw [if_pos (by first | exact Or.inl h20 | exact Or.inr ⟨h30, h40⟩)] | rw [if_neg (by exact fun q => q.elim h20 (fun w => by first | exact h30 w.1 | exact absurd w.2 (Int.not_lt.mpr h40))), if_pos (by exact h55)] | rw [if_neg (by exact fun q => q.elim h20 (fun w => by first | exact h30 w.1 | exact absurd w.2 (Int.not_lt.mpr h40))), if_neg (by exact h55)]) dX9_carried_67
      · skip
        refine Go_bipush ⟨by decide, by unfold in32; omega⟩ dX9_carried_43 ?_
        refine Go_goto dX9_carried_45 rfl ?_
        exact Go_ret (by unfold mcF; rw [ez, Int.toNat_natCast]; first | rw [if_pos (by first | exact Or.inl h20 | exact Or.inr ⟨h30, h40⟩)] | rw [if_neg (by exact fun q => q.elim h20 (fun w => by first | exact h30 w.1 | exact absurd w.2 (Int.not_lt.mpr h40))), if_pos (by exact h55)] | rw [if_neg (by exact fun q => q.elim h20 (fun w => by first | exact h30 w.1 | exact absurd w.2 (Int.not_lt.mpr h40))), if_neg (by exact h55)]) dX9_carried_67
set_option maxHeartbeats 4000000 in
set_option maxRecDepth 100000 in
theorem fX9_isChoice {D : va_G} {ca : Nat → ClassId} {M : gMem} {nv np : Nat} (hC : MS M nv np) (x : Int) : Fn D ca mX9_isChoice [gR 106, gI x] SH M [gI (bI (0 ≤ x ∧ x ≤ ((2 ^ np : Nat) : Int) - 1))] SH (M) := by
  refine Fn_of okX9_isChoice (Nat.le_of_ble_eq_true rfl) (Or.inr (Or.inr (Or.inl ⟨_, rfl, rfl, bI_01 _⟩))) (Nat.le_refl _) (Nat.le_refl _) ?_
  refine Go_ls2 (ls' := [(0, gR 106), (1, gI _)]) rfl ?_
  have hv12 := hC.2.2.1
  have hn10 := hC.2.2.2.2
  have hpw := p10 hn10
  have hpz : (0 : Int) ≤ ((2 ^ np : Nat) : Int) := Int.natCast_nonneg _
  refine Go_iload_n 1 rfl rfl dX9_isChoice_0 ?_
  refine Go_i2l dX9_isChoice_1 ?_
  refine Go_lconst (v := 0) ⟨rfl, by unfold in64; omega⟩ dX9_isChoice_2 ?_
  refine Go_iconst (by unfold in32; omega) dX9_isChoice_3 ?_
  refine Go_aload_n 0 rfl rfl dX9_isChoice_4 ?_
  refine Go_getIv (v := (np : Int)) hC.2.2.2.1 faX9_78 sh_106 dX9_isChoice_5 ?_
  refine Go_ishl dX9_isChoice_8 ?_
  refine Go_topI (v := ((2 ^ np : Nat) : Int)) (sh1 hn10) ?_
  refine Go_iconst (by unfold in32; omega) dX9_isChoice_9 ?_
  refine Go_isubc (by omega) dX9_isChoice_10 ?_
  refine Go_i2l dX9_isChoice_11 ?_
  refine Go_callSI (fX9_in _ _ _) cwX9_81 smX9_in ⟨Nat.le_of_ble_eq_true rfl, Nat.le_of_ble_eq_true rfl⟩ rfl (Nat.le_of_ble_eq_true rfl) sh_rf dX9_isChoice_12 ?_
  exact Go_ret rfl dX9_isChoice_15
def alN (K : Nat → Int) (c : Nat) : Nat → Int
  | 0 => 0
  | p + 1 => w32 (alN K c p + if c.testBit p = true then (if K p = 1 then 2 else 1) else 0)
def alB (K : Nat → Int) (c : Nat) : Nat → Bool
  | 0 => true
  | p + 1 => alB K c p && (c.testBit p || decide (K p ≠ 3))
def alP (K : Nat → Int) (np : Nat) (n : Int) (c : Nat) : Bool := alB K c np && decide (alN K c np ≤ n)
theorem alP_iff {K : Nat → Int} {np : Nat} {n : Int} {c : Nat} : alP K np n c = true ↔ alB K c np = true ∧ alN K c np ≤ n := by unfold alP; rw [Bool.and_eq_true, decide_eq_true_eq]
theorem bI_B (b : Bool) : bI (b = true) = if b then 1 else 0 := by cases b <;> rfl
set_option maxHeartbeats 4000000 in
set_option maxRecDepth 100000 in
theorem fX9_isAllowed {D : va_G} {ca : Nat → ClassId} {M : gMem} {nv np : Nat} (hC : MS M nv np) (c : Nat) (hc : c < 1024) : Fn D ca mX9_isAllowed [gR 106, gI (c : Int)] SH M [gI (bI (alP (M 111) np (M 106 9) c = true))] SH (M) := by
  refine Fn_of okX9_isAllowed (Nat.le_of_ble_eq_true rfl) (Or.inr (Or.inr (Or.inl ⟨_, rfl, rfl, bI_01 _⟩))) (Nat.le_refl _) (Nat.le_refl _) ?_
  refine Go_ls2 (ls' := [(0, gR 106), (1, gI _)]) rfl ?_
  have hv12 := hC.2.2.1
  have hn10 := hC.2.2.2.2
  have loop_7 : ∀ (k : Nat) (p : Nat) (x : Int) (y : Bool), p + k = np → alN (M 111) c p = x → alB (M 111) c p = y → Go D ca none (gRm mX9_isAllowed (SH.length - SH.length) (gSz SH - gSz SH)) mX9_isAllowed 7 [(0, gR 106), (1, gI (c : Int)), (2, gI x), (3, gI (bI (y = true))), (4, gI (p : Int))] [] SH M [gI (bI (alP (M 111) np (M 106 9) c = true))] SH (M) := by
    intro k
    induction k with
    | zero =>
      intro p x y he hx hy
      obtain rfl : np = p := by omega
      refine Go_iload 4 rfl dX9_isAllowed_7 ?_
      refine Go_aload_n 0 rfl rfl dX9_isAllowed_9 ?_
      refine Go_getIv (v := (np : Int)) hC.2.2.2.1 faX9_78 sh_106 dX9_isAllowed_10 ?_
      refine Go_icmp_ge dX9_isAllowed_13 rfl (fun h13 => ?_) (fun h13 => ?_)
      · skip
        refine Go_iload_n 3 rfl rfl dX9_isAllowed_93 ?_
        refine Go_if_eq dX9_isAllowed_94 rfl (fun h94 => ?_) (fun h94 => ?_)
        · skip
          replace h94 := bI_0.mp h94
          refine Go_iconst (by unfold in32; omega) dX9_isAllowed_109 ?_
          exact Go_ret (by rw [bI_f (fun q => by have q2 := alP_iff.mp q; first | exact h94 (hy.symm.trans q2.1) | exact absurd q2.2 (by omega))]) dX9_isAllowed_110
        · skip
          replace h94 := bI_n.mp h94
          refine Go_iload_n 2 rfl rfl dX9_isAllowed_97 ?_
          refine Go_aload_n 0 rfl rfl dX9_isAllowed_98 ?_
          refine Go_getI faX9_32 sh_106 dX9_isAllowed_99 ?_
          refine Go_icmp_gt dX9_isAllowed_102 rfl (fun h102 => ?_) (fun h102 => ?_)
          · skip
            refine Go_iconst (by unfold in32; omega) dX9_isAllowed_109 ?_
            exact Go_ret (by rw [bI_f (fun q => by have q2 := alP_iff.mp q; first | exact h94 (hy.symm.trans q2.1) | exact absurd q2.2 (by omega))]) dX9_isAllowed_110
          · skip
            refine Go_iconst (by unfold in32; omega) dX9_isAllowed_105 ?_
            refine Go_goto dX9_isAllowed_106 rfl ?_
            exact Go_ret (by rw [bI_t (alP_iff.mpr ⟨hy.trans h94, by omega⟩)]) dX9_isAllowed_110
      · skip
        exact absurd h13 (by omega)
    | succ k ih_7 =>
      intro p x y he hx hy
      refine Go_iload 4 rfl dX9_isAllowed_7 ?_
      refine Go_aload_n 0 rfl rfl dX9_isAllowed_9 ?_
      refine Go_getIv (v := (np : Int)) hC.2.2.2.1 faX9_78 sh_106 dX9_isAllowed_10 ?_
      refine Go_icmp_ge dX9_isAllowed_13 rfl (fun h13 => ?_) (fun h13 => ?_)
      · skip
        exact absurd h13 (by omega)
      · skip
        refine Go_iload_n 1 rfl rfl dX9_isAllowed_16 ?_
        refine Go_iload 4 rfl dX9_isAllowed_17 ?_
        refine Go_ishr dX9_isAllowed_19 ?_
        refine Go_iconst (by unfold in32; omega) dX9_isAllowed_20 ?_
        refine Go_iand dX9_isAllowed_21 ?_
        refine Go_topI (v := bI (c.testBit p = true)) (bit_s (by omega) (by omega)) ?_
        refine Go_iconst (by unfold in32; omega) dX9_isAllowed_22 ?_
        refine Go_icmp_ne dX9_isAllowed_23 rfl (fun h23 => ?_) (fun h23 => ?_)
        · skip
          have hb : ¬ c.testBit p = true := fun q => h23 (bI_t q)
          refine Go_iconst (by unfold in32; omega) dX9_isAllowed_30 ?_
          refine Go_istore (ls' := [(5, gI _), (0, gR 106), (1, gI _), (2, gI _), (3, gI _), (4, gI _)]) dX9_isAllowed_31 (by decide) rfl ?_
          refine Go_iload_n 3 rfl rfl dX9_isAllowed_33 ?_
          refine Go_iload 0 rfl dX9_isAllowed_34 ?_
          refine Go_if_eq dX9_isAllowed_36 rfl (fun h36 => ?_) (fun h36 => ?_)
          · skip
            refine Go_iconst (by unfold in32; omega) dX9_isAllowed_58 ?_
            refine Go_iadd dX9_isAllowed_59 ?_
            refine Go_istore_n (ls' := [(2, gI _), (5, gI _), (0, gR 106), (1, gI _), (3, gI _), (4, gI _)]) rfl dX9_isAllowed_60 (by decide) rfl ?_
            refine Go_iload_n 4 rfl rfl dX9_isAllowed_61 ?_
            refine Go_if_eq dX9_isAllowed_62 rfl (fun h62 => ?_) (fun h62 => ?_)
            · skip
              replace h62 := bI_0.mp h62
              refine Go_iconst (by unfold in32; omega) dX9_isAllowed_85 ?_
              refine Go_istore_n (ls' := [(3, gI _), (2, gI _), (5, gI _), (0, gR 106), (1, gI _), (4, gI _)]) rfl dX9_isAllowed_86 (by decide) rfl ?_
              refine Go_iincn p 1 rfl rfl (by omega) 5 (ls' := [(4, gI _), (3, gI _), (2, gI _), (5, gI _), (0, gR 106), (1, gI _)]) rfl dX9_isAllowed_87 (by decide) rfl ?_
              refine Go_goto dX9_isAllowed_90 rfl ?_
              refine Go_pick [4, 5, 2, 1, 0] (ls' := [(0, gR 106), (1, gI _), (2, gI _), (3, gI _), (4, gI _)]) rfl ?_
              exact ih_7 (p + 1) _ false (by omega) (by simp only [alN, hx]; first | rw [if_neg (by exact hb)] | rw [if_pos (by exact hb), if_pos (by exact h47)] | rw [if_pos (by exact hb), if_neg (by exact h47)]) (by simp only [alB, hy]; simp [h62])
            · skip
              replace h62 := bI_n.mp h62
              refine Go_iload 1 rfl dX9_isAllowed_65 ?_
              refine Go_if_ne dX9_isAllowed_67 rfl (fun h67 => ?_) (fun h67 => ?_)
              · skip
                exact absurd rfl h67
              · skip
                refine Go_aload_n 2 rfl rfl dX9_isAllowed_70 ?_
                refine Go_getR (c' := 111) faX9_23 sh_106 (pt_106_6 (M := M) hC.1) dX9_isAllowed_71 ?_
                refine Go_iload 5 rfl dX9_isAllowed_74 ?_
                refine Go_ialoadv p (v := M 111 (p)) rfl sh_111 rfl (by omega) dX9_isAllowed_76 ?_
                refine Go_iconst (by unfold in32; omega) dX9_isAllowed_77 ?_
                refine Go_icmp_eq dX9_isAllowed_78 rfl (fun h78 => ?_) (fun h78 => ?_)
                · skip
                  refine Go_iconst (by unfold in32; omega) dX9_isAllowed_85 ?_
                  refine Go_istore_n (ls' := [(3, gI _), (2, gI _), (5, gI _), (0, gR 106), (1, gI _), (4, gI _)]) rfl dX9_isAllowed_86 (by decide) rfl ?_
                  refine Go_iincn p 1 rfl rfl (by omega) 5 (ls' := [(4, gI _), (3, gI _), (2, gI _), (5, gI _), (0, gR 106), (1, gI _)]) rfl dX9_isAllowed_87 (by decide) rfl ?_
                  refine Go_goto dX9_isAllowed_90 rfl ?_
                  refine Go_pick [4, 5, 2, 1, 0] (ls' := [(0, gR 106), (1, gI _), (2, gI _), (3, gI _), (4, gI _)]) rfl ?_
                  exact ih_7 (p + 1) _ false (by omega) (by simp only [alN, hx]; first | rw [if_neg (by exact hb)] | rw [if_pos (by exact hb), if_pos (by exact h47)] | rw [if_pos (by exact hb), if_neg (by exact h47)]) (by simp only [alB, hy]; simp [h62, hb, h78])
                · skip
                  refine Go_iconst (by unfold in32; omega) dX9_isAllowed_81 ?_
                  refine Go_goto dX9_isAllowed_82 rfl ?_
                  refine Go_istore_n (ls' := [(3, gI _), (2, gI _), (5, gI _), (0, gR 106), (1, gI _), (4, gI _)]) rfl dX9_isAllowed_86 (by decide) rfl ?_
                  refine Go_iincn p 1 rfl rfl (by omega) 5 (ls' := [(4, gI _), (3, gI _), (2, gI _), (5, gI _), (0, gR 106), (1, gI _)]) rfl dX9_isAllowed_87 (by decide) rfl ?_
                  refine Go_goto dX9_isAllowed_90 rfl ?_
                  refine Go_pick [4, 5, 2, 1, 0] (ls' := [(0, gR 106), (1, gI _), (2, gI _), (3, gI _), (4, gI _)]) rfl ?_
                  exact ih_7 (p + 1) _ true (by omega) (by simp only [alN, hx]; first | rw [if_neg (by exact hb)] | rw [if_pos (by exact hb), if_pos (by exact h47)] | rw [if_pos (by exact hb), if_neg (by exact h47)]) (by simp only [alB, hy]; simp [h62, hb, h78])
          · skip
            exact absurd rfl h36
        · skip
          have hb : c.testBit p = true := bI_n.mp (by rw [h23]; decide)
          refine Go_iconst (by unfold in32; omega) dX9_isAllowed_26 ?_
          refine Go_goto dX9_isAllowed_27 rfl ?_
          refine Go_istore (ls' := [(5, gI _), (0, gR 106), (1, gI _), (2, gI _), (3, gI _), (4, gI _)]) dX9_isAllowed_31 (by decide) rfl ?_
          refine Go_iload_n 3 rfl rfl dX9_isAllowed_33 ?_
          refine Go_iload 0 rfl dX9_isAllowed_34 ?_
          refine Go_if_eq dX9_isAllowed_36 rfl (fun h36 => ?_) (fun h36 => ?_)
          · skip
            exact absurd h36 (by decide)
          · skip
            refine Go_aload_n 1 rfl rfl dX9_isAllowed_39 ?_
            refine Go_getR (c' := 111) faX9_23 sh_106 (pt_106_6 (M := M) hC.1) dX9_isAllowed_40 ?_
            refine Go_iload 5 rfl dX9_isAllowed_43 ?_
            refine Go_ialoadv p (v := M 111 (p)) rfl sh_111 rfl (by omega) dX9_isAllowed_45 ?_
            refine Go_iconst (by unfold in32; omega) dX9_isAllowed_46 ?_
            refine Go_icmp_ne dX9_isAllowed_47 rfl (fun h47 => ?_) (fun h47 => ?_)
            · skip
              refine Go_iconst (by unfold in32; omega) dX9_isAllowed_54 ?_
              refine Go_goto dX9_isAllowed_55 rfl ?_
              refine Go_iadd dX9_isAllowed_59 ?_
              refine Go_istore_n (ls' := [(2, gI _), (5, gI _), (0, gR 106), (1, gI _), (3, gI _), (4, gI _)]) rfl dX9_isAllowed_60 (by decide) rfl ?_
              refine Go_iload_n 4 rfl rfl dX9_isAllowed_61 ?_
              refine Go_if_eq dX9_isAllowed_62 rfl (fun h62 => ?_) (fun h62 => ?_)
              · skip
                replace h62 := bI_0.mp h62
                refine Go_iconst (by unfold in32; omega) dX9_isAllowed_85 ?_
                refine Go_istore_n (ls' := [(3, gI _), (2, gI _), (5, gI _), (0, gR 106), (1, gI _), (4, gI _)]) rfl dX9_isAllowed_86 (by decide) rfl ?_
                refine Go_iincn p 1 rfl rfl (by omega) 5 (ls' := [(4, gI _), (3, gI _), (2, gI _), (5, gI _), (0, gR 106), (1, gI _)]) rfl dX9_isAllowed_87 (by decide) rfl ?_
                refine Go_goto dX9_isAllowed_90 rfl ?_
                refine Go_pick [4, 5, 2, 1, 0] (ls' := [(0, gR 106), (1, gI _), (2, gI _), (3, gI _), (4, gI _)]) rfl ?_
                exact ih_7 (p + 1) _ false (by omega) (by simp only [alN, hx]; first | rw [if_neg (by exact hb)] | rw [if_pos (by exact hb), if_pos (by exact h47)] | rw [if_pos (by exact hb), if_neg (by exact h47)]) (by simp only [alB, hy]; simp [h62])
              · skip
                replace h62 := bI_n.mp h62
                refine Go_iload 1 rfl dX9_isAllowed_65 ?_
                refine Go_if_ne dX9_isAllowed_67 rfl (fun h67 => ?_) (fun h67 => ?_)
                · skip
                  refine Go_iconst (by unfold in32; omega) dX9_isAllowed_81 ?_
                  refine Go_goto dX9_isAllowed_82 rfl ?_
                  refine Go_istore_n (ls' := [(3, gI _), (2, gI _), (5, gI _), (0, gR 106), (1, gI _), (4, gI _)]) rfl dX9_isAllowed_86 (by decide) rfl ?_
                  refine Go_iincn p 1 rfl rfl (by omega) 5 (ls' := [(4, gI _), (3, gI _), (2, gI _), (5, gI _), (0, gR 106), (1, gI _)]) rfl dX9_isAllowed_87 (by decide) rfl ?_
                  refine Go_goto dX9_isAllowed_90 rfl ?_
                  refine Go_pick [4, 5, 2, 1, 0] (ls' := [(0, gR 106), (1, gI _), (2, gI _), (3, gI _), (4, gI _)]) rfl ?_
                  exact ih_7 (p + 1) _ true (by omega) (by simp only [alN, hx]; first | rw [if_neg (by exact hb)] | rw [if_pos (by exact hb), if_pos (by exact h47)] | rw [if_pos (by exact hb), if_neg (by exact h47)]) (by simp only [alB, hy]; simp [h62, hb, hb])
                · skip
                  exact absurd h67 (by decide)
            · skip
              refine Go_iconst (by unfold in32; omega) dX9_isAllowed_50 ?_
              refine Go_goto dX9_isAllowed_51 rfl ?_
              refine Go_iadd dX9_isAllowed_59 ?_
              refine Go_istore_n (ls' := [(2, gI _), (5, gI _), (0, gR 106), (1, gI _), (3, gI _), (4, gI _)]) rfl dX9_isAllowed_60 (by decide) rfl ?_
              refine Go_iload_n 4 rfl rfl dX9_isAllowed_61 ?_
              refine Go_if_eq dX9_isAllowed_62 rfl (fun h62 => ?_) (fun h62 => ?_)
              · skip
                replace h62 := bI_0.mp h62
                refine Go_iconst (by unfold in32; omega) dX9_isAllowed_85 ?_
                refine Go_istore_n (ls' := [(3, gI _), (2, gI _), (5, gI _), (0, gR 106), (1, gI _), (4, gI _)]) rfl dX9_isAllowed_86 (by decide) rfl ?_
                refine Go_iincn p 1 rfl rfl (by omega) 5 (ls' := [(4, gI _), (3, gI _), (2, gI _), (5, gI _), (0, gR 106), (1, gI _)]) rfl dX9_isAllowed_87 (by decide) rfl ?_
                refine Go_goto dX9_isAllowed_90 rfl ?_
                refine Go_pick [4, 5, 2, 1, 0] (ls' := [(0, gR 106), (1, gI _), (2, gI _), (3, gI _), (4, gI _)]) rfl ?_
                exact ih_7 (p + 1) _ false (by omega) (by simp only [alN, hx]; first | rw [if_neg (by exact hb)] | rw [if_pos (by exact hb), if_pos (by exact h47)] | rw [if_pos (by exact hb), if_neg (by exact h47)]) (by simp only [alB, hy]; simp [h62])
              · skip
                replace h62 := bI_n.mp h62
                refine Go_iload 1 rfl dX9_isAllowed_65 ?_
                refine Go_if_ne dX9_isAllowed_67 rfl (fun h67 => ?_) (fun h67 => ?_)
                · skip
                  refine Go_iconst (by unfold in32; omega) dX9_isAllowed_81 ?_
                  refine Go_goto dX9_isAllowed_82 rfl ?_
                  refine Go_istore_n (ls' := [(3, gI _), (2, gI _), (5, gI _), (0, gR 106), (1, gI _), (4, gI _)]) rfl dX9_isAllowed_86 (by decide) rfl ?_
                  refine Go_iincn p 1 rfl rfl (by omega) 5 (ls' := [(4, gI _), (3, gI _), (2, gI _), (5, gI _), (0, gR 106), (1, gI _)]) rfl dX9_isAllowed_87 (by decide) rfl ?_
                  refine Go_goto dX9_isAllowed_90 rfl ?_
                  refine Go_pick [4, 5, 2, 1, 0] (ls' := [(0, gR 106), (1, gI _), (2, gI _), (3, gI _), (4, gI _)]) rfl ?_
                  exact ih_7 (p + 1) _ true (by omega) (by simp only [alN, hx]; first | rw [if_neg (by exact hb)] | rw [if_pos (by exact hb), if_pos (by exact h47)] | rw [if_pos (by exact hb), if_neg (by exact h47)]) (by simp only [alB, hy]; simp [h62, hb, hb])
                · skip
                  exact absurd h67 (by decide)
  refine Go_iconst (by unfold in32; omega) dX9_isAllowed_0 ?_
  refine Go_istore_n (ls' := [(2, gI _), (0, gR 106), (1, gI _)]) rfl dX9_isAllowed_1 (by decide) rfl ?_
  refine Go_iconst (by unfold in32; omega) dX9_isAllowed_2 ?_
  refine Go_istore_n (ls' := [(3, gI _), (2, gI _), (0, gR 106), (1, gI _)]) rfl dX9_isAllowed_3 (by decide) rfl ?_
  refine Go_iconst (by unfold in32; omega) dX9_isAllowed_4 ?_
  refine Go_istore (ls' := [(4, gI _), (3, gI _), (2, gI _), (0, gR 106), (1, gI _)]) dX9_isAllowed_5 (by decide) rfl ?_
  refine Go_pick [3, 4, 2, 1, 0] (ls' := [(0, gR 106), (1, gI _), (2, gI _), (3, gI _), (4, gI _)]) rfl ?_
  exact loop_7 np 0 _ true (by omega) rfl rfl
