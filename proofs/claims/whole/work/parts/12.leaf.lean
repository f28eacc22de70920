/-- the class's valley: so many villages and places -/
def CS (M : gMem) (nv np : Nat) : Prop := gPtr M ∧ M 1 0 = (nv : Int) ∧ nv ≤ 12 ∧ M 1 1 = (np : Int) ∧ np ≤ 10
theorem CS_row {M : gMem} {nv np i : Nat} {r : Nat → Int} (h : CS M nv np) (hi : (i != 1 && gPt.all (fun q => q.1 != i)) = true) : CS (gSet M i r) nv np := by
  rw [Bool.and_eq_true] at hi
  have h1 : (1 : Nat) ≠ i := by have := hi.1; simp at this; omega
  refine ⟨gPtr_row h.1 hi.2, ?_, h.2.2.1, ?_, h.2.2.2.2⟩
  · rw [gSet_n h1]; exact h.2.1
  · rw [gSet_n h1]; exact h.2.2.2.1
theorem CS_obj {M : gMem} {nv np i : Nat} {r : Nat → Int} (h : CS M nv np) (h1 : 1 ≠ i) (hr : ∀ q ∈ gPt, q.1 = i → r q.2.1 = M i q.2.1) : CS (gSet M i r) nv np := by
  refine ⟨gPtr_set h.1 hr, ?_, h.2.2.1, ?_, h.2.2.2.2⟩
  · rw [gSet_n h1]; exact h.2.1
  · rw [gSet_n h1]; exact h.2.2.2.1
theorem CS_up {M : gMem} {nv np i j : Nat} {x : Int} (h : CS M nv np) (hi : (i != 1 && gPt.all (fun q => !(q.1 == i && q.2.1 == j))) = true) : CS (gSet M i (gUp (M i) j x)) nv np := by
  rw [Bool.and_eq_true] at hi
  have h1 : (1 : Nat) ≠ i := by have := hi.1; simp at this; omega
  refine ⟨gPtr_up h.1 hi.2, ?_, h.2.2.1, ?_, h.2.2.2.2⟩
  · rw [gSet_n h1]; exact h.2.1
  · rw [gSet_n h1]; exact h.2.2.2.1
def sumN (f : Nat → Int) : Nat → Int
  | 0 => 0
  | n + 1 => sumN f n + f n
theorem sumN_bd {f : Nat → Int} {b : Int} {n : Nat} (h : ∀ j, j < n → 0 ≤ f j ∧ f j ≤ b) : 0 ≤ sumN f n ∧ sumN f n ≤ n * b := by
  induction n with
  | zero => simp [sumN]
  | succ n ih =>
    have h1 := ih (fun j hj => h j (by omega))
    have h2 := h n (by omega)
    have h3 : ((n + 1 : Nat) : Int) * b = n * b + b := by rw [Int.natCast_add, Int.add_mul]; simp
    rw [h3]
    simp only [sumN]
    omega
theorem sumN_congr {f g : Nat → Int} {n : Nat} (h : ∀ j, j < n → f j = g j) : sumN f n = sumN g n := by
  induction n with
  | zero => rfl
  | succ n ih => simp only [sumN]; rw [ih (fun j hj => h j (by omega)), h n (by omega)]
set_option maxHeartbeats 4000000 in
set_option maxRecDepth 100000 in
theorem fX8_isWithin {D : va_G} {ca : Nat → ClassId} {M : gMem} (n lo hi : Int) : Fn D ca mX8_isWithin [gJ n, gJ lo, gJ hi] SH M [gI (bI (lo ≤ n ∧ n ≤ hi))] SH (M) := by
  refine Fn_of okX8_isWithin (Nat.le_of_ble_eq_true rfl) (Or.inr (Or.inr (Or.inl ⟨_, rfl, rfl, bI_01 _⟩))) (Nat.le_refl _) (Nat.le_refl _) ?_
  refine Go_ls2 (ls' := [(0, gJ _), (2, gJ _), (4, gJ _)]) rfl ?_
  refine Go_lload_n 0 rfl rfl dX8_isWithin_0 ?_
  refine Go_lload_n 1 rfl rfl dX8_isWithin_1 ?_
  refine Go_lcmp dX8_isWithin_2 ?_
  refine Go_if_lt dX8_isWithin_3 rfl (fun h3 => ?_) (fun h3 => ?_)
  · skip
    replace h3 := cmp_lt.mp h3
    refine Go_iconst (by unfold in32; omega) dX8_isWithin_17 ?_
    exact Go_ret (by rw [bI_f (by omega)]) dX8_isWithin_18
  · skip
    replace h3 := cmp_ge.mp h3
    refine Go_lload_n 0 rfl rfl dX8_isWithin_6 ?_
    refine Go_lload 2 rfl dX8_isWithin_7 ?_
    refine Go_lcmp dX8_isWithin_9 ?_
    refine Go_if_gt dX8_isWithin_10 rfl (fun h10 => ?_) (fun h10 => ?_)
    · skip
      replace h10 := cmp_gt.mp h10
      refine Go_iconst (by unfold in32; omega) dX8_isWithin_17 ?_
      exact Go_ret (by rw [bI_f (by omega)]) dX8_isWithin_18
    · skip
      replace h10 := cmp_le.mp h10
      refine Go_iconst (by unfold in32; omega) dX8_isWithin_13 ?_
      refine Go_goto dX8_isWithin_14 rfl ?_
      exact Go_ret (by rw [bI_t (by omega)]) dX8_isWithin_18
set_option maxHeartbeats 4000000 in
set_option maxRecDepth 100000 in
theorem fX8_isIn {D : va_G} {ca : Nat → ClassId} {M : gMem} (c p : Nat) (hc : c < 2147483648) (hp : p < 31) : Fn D ca mX8_isIn [gI (c : Int), gI (p : Int)] SH M [gI (bI (c.testBit p = true))] SH (M) := by
  refine Fn_of okX8_isIn (Nat.le_of_ble_eq_true rfl) (Or.inr (Or.inr (Or.inl ⟨_, rfl, rfl, bI_01 _⟩))) (Nat.le_refl _) (Nat.le_refl _) ?_
  refine Go_ls2 (ls' := [(0, gI _), (1, gI _)]) rfl ?_
  refine Go_iload_n 0 rfl rfl dX8_isIn_0 ?_
  refine Go_iconst (by unfold in32; omega) dX8_isIn_1 ?_
  refine Go_iload_n 1 rfl rfl dX8_isIn_2 ?_
  refine Go_ishl dX8_isIn_3 ?_
  refine Go_iand dX8_isIn_4 ?_
  refine Go_if_eq dX8_isIn_5 rfl (fun h5 => ?_) (fun h5 => ?_)
  · skip
    refine Go_iconst (by unfold in32; omega) dX8_isIn_12 ?_
    exact Go_ret (by rw [bI_f (by rw [(bit_m (by omega) hp).mp h5]; decide)]) dX8_isIn_13
  · skip
    refine Go_iconst (by unfold in32; omega) dX8_isIn_8 ?_
    refine Go_goto dX8_isIn_9 rfl ?_
    exact Go_ret (by rw [bI_t (by simpa using fun q => h5 ((bit_m (by omega) hp).mpr q))]) dX8_isIn_13
set_option maxHeartbeats 4000000 in
set_option maxRecDepth 100000 in
theorem fX8_isMap {D : va_G} {ca : Nat → ClassId} {M : gMem} (n : Int) : Fn D ca mX8_isMap [gI n] SH M [gI (bI (0 ≤ n ∧ n ≤ 3))] SH (M) := by
  refine Fn_of okX8_isMap (Nat.le_of_ble_eq_true rfl) (Or.inr (Or.inr (Or.inl ⟨_, rfl, rfl, bI_01 _⟩))) (Nat.le_refl _) (Nat.le_refl _) ?_
  refine Go_ls2 (ls' := [(0, gI _)]) rfl ?_
  refine Go_iload_n 0 rfl rfl dX8_isMap_0 ?_
  refine Go_i2l dX8_isMap_1 ?_
  refine Go_lconst (v := 0) ⟨rfl, by unfold in64; omega⟩ dX8_isMap_2 ?_
  refine Go_ldc2 klX8_321 (by unfold in64; omega) dX8_isMap_3 ?_
  refine Go_callSI (fX8_isWithin _ _ _) cwX8_79 smX8_isWithin ⟨Nat.le_of_ble_eq_true rfl, Nat.le_of_ble_eq_true rfl⟩ rfl (Nat.le_of_ble_eq_true rfl) sh_rf dX8_isMap_6 ?_
  exact Go_ret rfl dX8_isMap_9
set_option maxHeartbeats 4000000 in
set_option maxRecDepth 100000 in
theorem fX8_isLane {D : va_G} {ca : Nat → ClassId} {M : gMem} (n : Int) : Fn D ca mX8_isLane [gI n] SH M [gI (bI (0 ≤ n ∧ n ≤ 2))] SH (M) := by
  refine Fn_of okX8_isLane (Nat.le_of_ble_eq_true rfl) (Or.inr (Or.inr (Or.inl ⟨_, rfl, rfl, bI_01 _⟩))) (Nat.le_refl _) (Nat.le_refl _) ?_
  refine Go_ls2 (ls' := [(0, gI _)]) rfl ?_
  refine Go_iload_n 0 rfl rfl dX8_isLane_0 ?_
  refine Go_i2l dX8_isLane_1 ?_
  refine Go_lconst (v := 0) ⟨rfl, by unfold in64; omega⟩ dX8_isLane_2 ?_
  refine Go_ldc2 klX8_199 (by unfold in64; omega) dX8_isLane_3 ?_
  refine Go_callSI (fX8_isWithin _ _ _) cwX8_79 smX8_isWithin ⟨Nat.le_of_ble_eq_true rfl, Nat.le_of_ble_eq_true rfl⟩ rfl (Nat.le_of_ble_eq_true rfl) sh_rf dX8_isLane_6 ?_
  exact Go_ret rfl dX8_isLane_9
set_option maxHeartbeats 4000000 in
set_option maxRecDepth 100000 in
theorem fX6_hasVillage {D : va_G} {ca : Nat → ClassId} {M : gMem} {nv np : Nat} (hC : CS M nv np) (v : Int) : Fn D ca mX6_hasVillage [gR 1, gJ v] SH M [gI (bI (0 ≤ v ∧ v ≤ (nv : Int) - 1))] SH (M) := by
  refine Fn_of okX6_hasVillage (Nat.le_of_ble_eq_true rfl) (Or.inr (Or.inr (Or.inl ⟨_, rfl, rfl, bI_01 _⟩))) (Nat.le_refl _) (Nat.le_refl _) ?_
  refine Go_ls2 (ls' := [(0, gR 1), (1, gJ _)]) rfl ?_
  have hv12 := hC.2.2.1
  have hn10 := hC.2.2.2.2
  refine Go_lload_n 1 rfl rfl dX6_hasVillage_0 ?_
  refine Go_lconst (v := 0) ⟨rfl, by unfold in64; omega⟩ dX6_hasVillage_1 ?_
  refine Go_aload_n 0 rfl rfl dX6_hasVillage_2 ?_
  refine Go_getIv (v := (nv : Int)) hC.2.1 faX6_9 sh_1 dX6_hasVillage_3 ?_
  refine Go_iconst (by unfold in32; omega) dX6_hasVillage_6 ?_
  refine Go_isubc (by omega) dX6_hasVillage_7 ?_
  refine Go_i2l dX6_hasVillage_8 ?_
  refine Go_callSNI (fX8_isWithin _ _ _) cnX6_40 smX8_isWithin ⟨Nat.le_of_ble_eq_true rfl, Nat.le_of_ble_eq_true rfl⟩ rfl (Nat.le_of_ble_eq_true rfl) sh_rf dX6_hasVillage_9 ?_
  exact Go_ret rfl dX6_hasVillage_12
set_option maxHeartbeats 4000000 in
set_option maxRecDepth 100000 in
theorem fX6_hasPlace {D : va_G} {ca : Nat → ClassId} {M : gMem} {nv np : Nat} (hC : CS M nv np) (v : Int) : Fn D ca mX6_hasPlace [gR 1, gI v] SH M [gI (bI (0 ≤ v ∧ v ≤ (np : Int) - 1))] SH (M) := by
  refine Fn_of okX6_hasPlace (Nat.le_of_ble_eq_true rfl) (Or.inr (Or.inr (Or.inl ⟨_, rfl, rfl, bI_01 _⟩))) (Nat.le_refl _) (Nat.le_refl _) ?_
  refine Go_ls2 (ls' := [(0, gR 1), (1, gI _)]) rfl ?_
  have hv12 := hC.2.2.1
  have hn10 := hC.2.2.2.2
  refine Go_iload_n 1 rfl rfl dX6_hasPlace_0 ?_
  refine Go_i2l dX6_hasPlace_1 ?_
  refine Go_lconst (v := 0) ⟨rfl, by unfold in64; omega⟩ dX6_hasPlace_2 ?_
  refine Go_aload_n 0 rfl rfl dX6_hasPlace_3 ?_
  refine Go_getIv (v := (np : Int)) hC.2.2.2.1 faX6_15 sh_1 dX6_hasPlace_4 ?_
  refine Go_iconst (by unfold in32; omega) dX6_hasPlace_7 ?_
  refine Go_isubc (by omega) dX6_hasPlace_8 ?_
  refine Go_i2l dX6_hasPlace_9 ?_
  refine Go_callSNI (fX8_isWithin _ _ _) cnX6_40 smX8_isWithin ⟨Nat.le_of_ble_eq_true rfl, Nat.le_of_ble_eq_true rfl⟩ rfl (Nat.le_of_ble_eq_true rfl) sh_rf dX6_hasPlace_10 ?_
  exact Go_ret rfl dX6_hasPlace_13
set_option maxHeartbeats 4000000 in
set_option maxRecDepth 100000 in
theorem fX6_takesRoad {D : va_G} {ca : Nat → ClassId} {M : gMem} {nv np : Nat} (hC : CS M nv np) (a b z : Int) : Fn D ca mX6_takesRoad [gR 1, gJ a, gJ b, gJ z] SH M [gI (bI ((0 ≤ a ∧ a ≤ (nv : Int) - 1) ∧ (0 ≤ b ∧ b ≤ (nv : Int) - 1) ∧ a ≠ b ∧ 0 ≤ z ∧ z ≤ 1000))] SH (M) := by
  refine Fn_of okX6_takesRoad (Nat.le_of_ble_eq_true rfl) (Or.inr (Or.inr (Or.inl ⟨_, rfl, rfl, bI_01 _⟩))) (Nat.le_refl _) (Nat.le_refl _) ?_
  refine Go_ls2 (ls' := [(0, gR 1), (1, gJ _), (3, gJ _), (5, gJ _)]) rfl ?_
  have hv12 := hC.2.2.1
  have hn10 := hC.2.2.2.2
  refine Go_aload_n 0 rfl rfl dX6_takesRoad_0 ?_
  refine Go_lload_n 1 rfl rfl dX6_takesRoad_1 ?_
  refine Go_callVI (q := vwCl[6]) (fX6_hasVillage hC _) cwX6_44 imX6_hasVillage rfl rfl ⟨Nat.le_of_ble_eq_true rfl, Nat.le_of_ble_eq_true rfl⟩ sh_1 rfl (Nat.le_of_ble_eq_true rfl) sh_rf dX6_takesRoad_2 ?_
  refine Go_if_eq dX6_takesRoad_5 rfl (fun h5 => ?_) (fun h5 => ?_)
  · skip
    replace h5 := bI_0.mp h5
    refine Go_iconst (by unfold in32; omega) dX6_takesRoad_38 ?_
    exact Go_ret (by rw [bI_f (by omega)]) dX6_takesRoad_39
  · skip
    replace h5 := bI_n.mp h5
    refine Go_aload_n 0 rfl rfl dX6_takesRoad_8 ?_
    refine Go_lload_n 2 rfl rfl dX6_takesRoad_9 ?_
    refine Go_callVI (q := vwCl[6]) (fX6_hasVillage hC _) cwX6_44 imX6_hasVillage rfl rfl ⟨Nat.le_of_ble_eq_true rfl, Nat.le_of_ble_eq_true rfl⟩ sh_1 rfl (Nat.le_of_ble_eq_true rfl) sh_rf dX6_takesRoad_10 ?_
    refine Go_if_eq dX6_takesRoad_13 rfl (fun h13 => ?_) (fun h13 => ?_)
    · skip
      replace h13 := bI_0.mp h13
      refine Go_iconst (by unfold in32; omega) dX6_takesRoad_38 ?_
      exact Go_ret (by rw [bI_f (by omega)]) dX6_takesRoad_39
    · skip
      replace h13 := bI_n.mp h13
      refine Go_lload_n 1 rfl rfl dX6_takesRoad_16 ?_
      refine Go_lload_n 2 rfl rfl dX6_takesRoad_17 ?_
      refine Go_lcmp dX6_takesRoad_18 ?_
      refine Go_if_eq dX6_takesRoad_19 rfl (fun h19 => ?_) (fun h19 => ?_)
      · skip
        replace h19 := cmp_eq.mp h19
        refine Go_iconst (by unfold in32; omega) dX6_takesRoad_38 ?_
        exact Go_ret (by rw [bI_f (by omega)]) dX6_takesRoad_39
      · skip
        replace h19 := cmp_ne.mp h19
        refine Go_lload 3 rfl dX6_takesRoad_22 ?_
        refine Go_lconst (v := 0) ⟨rfl, by unfold in64; omega⟩ dX6_takesRoad_24 ?_
        refine Go_ldc2 klX6_48 (by unfold in64; omega) dX6_takesRoad_25 ?_
        refine Go_callSNI (fX8_isWithin _ _ _) cnX6_40 smX8_isWithin ⟨Nat.le_of_ble_eq_true rfl, Nat.le_of_ble_eq_true rfl⟩ rfl (Nat.le_of_ble_eq_true rfl) sh_rf dX6_takesRoad_28 ?_
        refine Go_if_eq dX6_takesRoad_31 rfl (fun h31 => ?_) (fun h31 => ?_)
        · skip
          replace h31 := bI_0.mp h31
          refine Go_iconst (by unfold in32; omega) dX6_takesRoad_38 ?_
          exact Go_ret (by rw [bI_f (by omega)]) dX6_takesRoad_39
        · skip
          replace h31 := bI_n.mp h31
          refine Go_iconst (by unfold in32; omega) dX6_takesRoad_34 ?_
          refine Go_goto dX6_takesRoad_35 rfl ?_
          exact Go_ret (by rw [bI_t (by omega)]) dX6_takesRoad_39
set_option maxHeartbeats 4000000 in
set_option maxRecDepth 100000 in
theorem fX6_lengthOf {D : va_G} {ca : Nat → ClassId} {M : gMem} (hp : gPtr M) (a b : Nat) (ha : a < 12) (hb : b < 12) {v : Int} (hv : M 3 (a * 12 + b) = v) : Fn D ca mX6_lengthOf [gR 1, gI (a : Int), gI (b : Int)] SH M [gI v] SH (M) := by
  refine Fn_of okX6_lengthOf (Nat.le_of_ble_eq_true rfl) (Or.inr (Or.inl ⟨_, rfl, rfl⟩)) (Nat.le_refl _) (Nat.le_refl _) ?_
  refine Go_ls2 (ls' := [(0, gR 1), (1, gI _), (2, gI _)]) rfl ?_
  refine Go_aload_n 0 rfl rfl dX6_lengthOf_0 ?_
  refine Go_getR (c' := 3) faX6_25 sh_1 (pt_1_4 (M := M) hp) dX6_lengthOf_1 ?_
  refine Go_iload_n 1 rfl rfl dX6_lengthOf_4 ?_
  refine Go_bipush ⟨by decide, by unfold in32; omega⟩ dX6_lengthOf_5 ?_
  refine Go_imuln a 12 rfl rfl (by omega) dX6_lengthOf_7 ?_
  refine Go_iload_n 2 rfl rfl dX6_lengthOf_8 ?_
  refine Go_iaddn (a * 12) b rfl rfl (by omega) dX6_lengthOf_9 ?_
  refine Go_ialoadv ((a * 12) + b) (v := v) hv sh_3 rfl (by omega) dX6_lengthOf_10 ?_
  exact Go_ret rfl dX6_lengthOf_11
set_option maxHeartbeats 4000000 in
set_option maxRecDepth 100000 in
theorem fX7_between {D : va_G} {ca : Nat → ClassId} {M : gMem} (hp : gPtr M) (a b : Nat) (ha : a < 12) (hb : b < 12) {v : Int} (hv : M 89 (a * 12 + b) = v) : Fn D ca mX7_between [gR 88, gI (a : Int), gI (b : Int)] SH M [gI v] SH (M) := by
  refine Fn_of okX7_between (Nat.le_of_ble_eq_true rfl) (Or.inr (Or.inl ⟨_, rfl, rfl⟩)) (Nat.le_refl _) (Nat.le_refl _) ?_
  refine Go_ls2 (ls' := [(0, gR 88), (1, gI _), (2, gI _)]) rfl ?_
  refine Go_aload_n 0 rfl rfl dX7_between_0 ?_
  refine Go_getR (c' := 89) faX7_9 sh_88 (pt_88_0 (M := M) hp) dX7_between_1 ?_
  refine Go_iload_n 1 rfl rfl dX7_between_4 ?_
  refine Go_bipush ⟨by decide, by unfold in32; omega⟩ dX7_between_5 ?_
  refine Go_imuln a 12 rfl rfl (by omega) dX7_between_7 ?_
  refine Go_iload_n 2 rfl rfl dX7_between_8 ?_
  refine Go_iaddn (a * 12) b rfl rfl (by omega) dX7_between_9 ?_
  refine Go_ialoadv ((a * 12) + b) (v := v) hv sh_89 rfl (by omega) dX7_between_10 ?_
  exact Go_ret rfl dX7_between_11
set_option maxHeartbeats 4000000 in
set_option maxRecDepth 100000 in
theorem fX3_carriedTo {D : va_G} {ca : Nat → ClassId} {M : gMem} (hp : gPtr M) (a b : Nat) (ha : a < 10) (hb : b < 12) {v : Int} (hv : M 91 (a * 12 + b) = v) : Fn D ca mX3_carriedTo [gR 90, gI (a : Int), gI (b : Int)] SH M [gI v] SH (M) := by
  refine Fn_of okX3_carriedTo (Nat.le_of_ble_eq_true rfl) (Or.inr (Or.inl ⟨_, rfl, rfl⟩)) (Nat.le_refl _) (Nat.le_refl _) ?_
  refine Go_ls2 (ls' := [(0, gR 90), (1, gI _), (2, gI _)]) rfl ?_
  refine Go_aload_n 0 rfl rfl dX3_carriedTo_0 ?_
  refine Go_getR (c' := 91) faX3_9 sh_90 (pt_90_1 (M := M) hp) dX3_carriedTo_1 ?_
  refine Go_iload_n 1 rfl rfl dX3_carriedTo_4 ?_
  refine Go_bipush ⟨by decide, by unfold in32; omega⟩ dX3_carriedTo_5 ?_
  refine Go_imuln a 12 rfl rfl (by omega) dX3_carriedTo_7 ?_
  refine Go_iload_n 2 rfl rfl dX3_carriedTo_8 ?_
  refine Go_iaddn (a * 12) b rfl rfl (by omega) dX3_carriedTo_9 ?_
  refine Go_ialoadv ((a * 12) + b) (v := v) hv sh_91 rfl (by omega) dX3_carriedTo_10 ?_
  exact Go_ret rfl dX3_carriedTo_11
/-- what an oven costs -/
def ocF (K U : Nat → Int) (p : Nat) : Int := if K p = 2 ∨ K p = 3 then 0 else U p
set_option maxHeartbeats 4000000 in
set_option maxRecDepth 100000 in
theorem fX6_ovenCost {D : va_G} {ca : Nat → ClassId} {M : gMem} (hp : gPtr M) (p : Nat) (h : p < 10) : Fn D ca mX6_ovenCost [gR 1, gI (p : Int)] SH M [gI (ocF (M 5) (M 6) p)] SH (M) := by
  refine Fn_of okX6_ovenCost (Nat.le_of_ble_eq_true rfl) (Or.inr (Or.inl ⟨_, rfl, rfl⟩)) (Nat.le_refl _) (Nat.le_refl _) ?_
  refine Go_ls2 (ls' := [(0, gR 1), (1, gI _)]) rfl ?_
  refine Go_aload_n 0 rfl rfl dX6_ovenCost_0 ?_
  refine Go_getR (c' := 5) faX6_31 sh_1 (pt_1_6 (M := M) hp) dX6_ovenCost_1 ?_
  refine Go_iload_n 1 rfl rfl dX6_ovenCost_4 ?_
  refine Go_iaload p sh_5 rfl (by omega) dX6_ovenCost_5 ?_
  refine Go_iconst (by unfold in32; omega) dX6_ovenCost_6 ?_
  refine Go_icmp_eq dX6_ovenCost_7 rfl (fun h7 => ?_) (fun h7 => ?_)
  · skip
    refine Go_iconst (by unfold in32; omega) dX6_ovenCost_20 ?_
    refine Go_goto dX6_ovenCost_21 rfl ?_
    exact Go_ret (by unfold ocF; simp [h7]) dX6_ovenCost_30
  · skip
    refine Go_aload_n 0 rfl rfl dX6_ovenCost_10 ?_
    refine Go_getR (c' := 5) faX6_31 sh_1 (pt_1_6 (M := M) hp) dX6_ovenCost_11 ?_
    refine Go_iload_n 1 rfl rfl dX6_ovenCost_14 ?_
    refine Go_iaload p sh_5 rfl (by omega) dX6_ovenCost_15 ?_
    refine Go_iconst (by unfold in32; omega) dX6_ovenCost_16 ?_
    refine Go_icmp_ne dX6_ovenCost_17 rfl (fun h17 => ?_) (fun h17 => ?_)
    · skip
      refine Go_aload_n 0 rfl rfl dX6_ovenCost_24 ?_
      refine Go_getR (c' := 6) faX6_34 sh_1 (pt_1_7 (M := M) hp) dX6_ovenCost_25 ?_
      refine Go_iload_n 1 rfl rfl dX6_ovenCost_28 ?_
      refine Go_iaload p sh_6 rfl (by omega) dX6_ovenCost_29 ?_
      exact Go_ret (by unfold ocF; simp [h7, h17]) dX6_ovenCost_30
    · skip
      refine Go_iconst (by unfold in32; omega) dX6_ovenCost_20 ?_
      refine Go_goto dX6_ovenCost_21 rfl ?_
      exact Go_ret (by unfold ocF; simp [h7, h17]) dX6_ovenCost_30
set_option maxHeartbeats 4000000 in
set_option maxRecDepth 100000 in
theorem fX6_allLoaves {D : va_G} {ca : Nat → ClassId} {M : gMem} {nv np : Nat} (hC : CS M nv np) (hB : ∀ j, j < 12 → 0 ≤ M 2 j ∧ M 2 j ≤ 1000) : Fn D ca mX6_allLoaves [gR 1] SH M [gI (sumN (M 2) nv)] SH (M) := by
  refine Fn_of okX6_allLoaves (Nat.le_of_ble_eq_true rfl) (Or.inr (Or.inl ⟨_, rfl, rfl⟩)) (Nat.le_refl _) (Nat.le_refl _) ?_
  refine Go_ls2 (ls' := [(0, gR 1)]) rfl ?_
  have hv12 := hC.2.2.1
  have hn10 := hC.2.2.2.2
  have loop_4 : ∀ (k : Nat) (v : Nat) (x : Int), v + k = nv → x = sumN (M 2) v → Go D ca none (gRm mX6_allLoaves (SH.length - SH.length) (gSz SH - gSz SH)) mX6_allLoaves 4 [(0, gR 1), (1, gI x), (2, gI (v : Int))] [] SH M [gI (sumN (M 2) nv)] SH (M) := by
    intro k
    induction k with
    | zero =>
      intro v x he hx
      refine Go_iload_n 2 rfl rfl dX6_allLoaves_4 ?_
      refine Go_aload_n 0 rfl rfl dX6_allLoaves_5 ?_
      refine Go_getIv (v := (nv : Int)) hC.2.1 faX6_9 sh_1 dX6_allLoaves_6 ?_
      refine Go_icmp_ge dX6_allLoaves_9 rfl (fun h9 => ?_) (fun h9 => ?_)
      · skip
        refine Go_iload_n 1 rfl rfl dX6_allLoaves_27 ?_
        obtain rfl : nv = v := by omega
        exact Go_ret (by rw [hx]) dX6_allLoaves_28
      · skip
        exact absurd h9 (by omega)
    | succ k ih_4 =>
      intro v x he hx
      have hb := sumN_bd (f := M 2) (b := 1000) (n := v) (fun j hj => hB j (by omega))
      have hb2 := hB v (by omega)
      rw [← hx] at hb
      refine Go_iload_n 2 rfl rfl dX6_allLoaves_4 ?_
      refine Go_aload_n 0 rfl rfl dX6_allLoaves_5 ?_
      refine Go_getIv (v := (nv : Int)) hC.2.1 faX6_9 sh_1 dX6_allLoaves_6 ?_
      refine Go_icmp_ge dX6_allLoaves_9 rfl (fun h9 => ?_) (fun h9 => ?_)
      · skip
        exact absurd h9 (by omega)
      · skip
        refine Go_iload_n 1 rfl rfl dX6_allLoaves_12 ?_
        refine Go_aload_n 0 rfl rfl dX6_allLoaves_13 ?_
        refine Go_getR (c' := 2) faX6_21 sh_1 (pt_1_3 (M := M) hC.1) dX6_allLoaves_14 ?_
        refine Go_iload_n 2 rfl rfl dX6_allLoaves_17 ?_
        refine Go_iaload v sh_2 rfl (by omega) dX6_allLoaves_18 ?_
        refine Go_iaddc ⟨by omega, by omega⟩ dX6_allLoaves_19 ?_
        refine Go_istore_n (ls' := [(1, gI _), (0, gR 1), (2, gI _)]) rfl dX6_allLoaves_20 (by decide) rfl ?_
        refine Go_iincn v 1 rfl rfl (by omega) 2 (ls' := [(2, gI _), (1, gI _), (0, gR 1)]) rfl dX6_allLoaves_21 (by decide) rfl ?_
        refine Go_goto dX6_allLoaves_24 rfl ?_
        refine Go_pick [2, 1, 0] (ls' := [(0, gR 1), (1, gI _), (2, gI _)]) rfl ?_
        exact ih_4 (v + 1) _ (by omega) (by rw [hx]; rfl)
  refine Go_iconst (by unfold in32; omega) dX6_allLoaves_0 ?_
  refine Go_istore_n (ls' := [(1, gI _), (0, gR 1)]) rfl dX6_allLoaves_1 (by decide) rfl ?_
  refine Go_iconst (by unfold in32; omega) dX6_allLoaves_2 ?_
  refine Go_istore_n (ls' := [(2, gI _), (1, gI _), (0, gR 1)]) rfl dX6_allLoaves_3 (by decide) rfl ?_
  refine Go_pick [2, 1, 0] (ls' := [(0, gR 1), (1, gI _), (2, gI _)]) rfl ?_
  exact loop_4 nv 0 _ (by omega) rfl
