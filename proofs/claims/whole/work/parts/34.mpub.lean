theorem MS_fd {M : gMem} {nv np : Nat} (hC : MS M nv np) (s : T3 × T5) : MS (gSet (fyM M nv) 106 (r8 (M 106) s)) nv np := MS_ob (MS_fy hC) (by unfold r8; exact (agM_up (agM_up (agM_up (agM_up (agM_up (agM_up (agM_up (agM_up (agM_rf _) (by decide)) (by decide)) (by decide)) (by decide)) (by decide)) (by decide)) (by decide)) (by decide)))
theorem MS_nr {M : gMem} {nv np : Nat} (hC : MS M nv np) (s : T3 × (Int × Int)) : MS (gSet (fyM M nv) 106 (r5 (M 106) s)) nv np := MS_ob (MS_fy hC) (by unfold r5; exact (agM_up (agM_up (agM_up (agM_up (agM_up (agM_rf _) (by decide)) (by decide)) (by decide)) (by decide)) (by decide)))
set_option maxHeartbeats 4000000 in
set_option maxRecDepth 100000 in
theorem pX9_least {D : va_G} {ca : Nat → ClassId} {M : gMem} {nv np : Nat} (hC : MS M nv np) (hH : ∀ p, p < np → ∃ z : Nat, z < 12 ∧ M 110 p = (z : Int)) : Fn D ca mX9_least [gR 106] SH M [gJ ((fdM M nv np (-4) 0).2.2.1)] SH (gSet (fyM M nv) 106 (r8 (M 106) (fdM M nv np (-4) 0))) := by
  refine Fn_of okX9_least (Nat.le_of_ble_eq_true rfl) (Or.inr (Or.inr (Or.inr ⟨_, rfl, rfl⟩))) (Nat.le_refl _) (Nat.le_refl _) ?_
  refine Go_ls2 (ls' := [(0, gR 106)]) rfl ?_
  have hv12 := hC.2.2.1
  have hn10 := hC.2.2.2.2
  refine Go_aload_n 0 rfl rfl dX9_least_0 ?_
  refine Go_bipush ⟨by decide, by unfold in32; omega⟩ dX9_least_1 ?_
  refine Go_iconst (by unfold in32; omega) dX9_least_3 ?_
  refine Go_callV0 (q := vwCl[9]) (fX9_find hC hH (-4) 0) cwX9_165 imX9_find rfl rfl ⟨Nat.le_of_ble_eq_true rfl, Nat.le_of_ble_eq_true rfl⟩ sh_106 rfl (Nat.le_of_ble_eq_true rfl) sh_rf dX9_least_4 ?_
  have hN := MS_fd hC (fdM M nv np (-4) 0)
  refine Go_aload_n 0 rfl rfl dX9_least_7 ?_
  refine Go_getJv (v := (fdM M nv np (-4) 0).2.2.1) rfl faX9_153 sh_106 dX9_least_8 ?_
  exact Go_ret rfl dX9_least_11
set_option maxHeartbeats 4000000 in
set_option maxRecDepth 100000 in
theorem pX9_best {D : va_G} {ca : Nat → ClassId} {M : gMem} {nv np : Nat} (hC : MS M nv np) (hH : ∀ p, p < np → ∃ z : Nat, z < 12 ∧ M 110 p = (z : Int)) : Fn D ca mX9_best [gR 106] SH M [gI ((fdM M nv np (-4) 0).2.1)] SH (gSet (fyM M nv) 106 (r8 (M 106) (fdM M nv np (-4) 0))) := by
  refine Fn_of okX9_best (Nat.le_of_ble_eq_true rfl) (Or.inr (Or.inl ⟨_, rfl, rfl⟩)) (Nat.le_refl _) (Nat.le_refl _) ?_
  refine Go_ls2 (ls' := [(0, gR 106)]) rfl ?_
  have hv12 := hC.2.2.1
  have hn10 := hC.2.2.2.2
  refine Go_aload_n 0 rfl rfl dX9_best_0 ?_
  refine Go_bipush ⟨by decide, by unfold in32; omega⟩ dX9_best_1 ?_
  refine Go_iconst (by unfold in32; omega) dX9_best_3 ?_
  refine Go_callV0 (q := vwCl[9]) (fX9_find hC hH (-4) 0) cwX9_165 imX9_find rfl rfl ⟨Nat.le_of_ble_eq_true rfl, Nat.le_of_ble_eq_true rfl⟩ sh_106 rfl (Nat.le_of_ble_eq_true rfl) sh_rf dX9_best_4 ?_
  have hN := MS_fd hC (fdM M nv np (-4) 0)
  refine Go_aload_n 0 rfl rfl dX9_best_7 ?_
  refine Go_getIv (v := (fdM M nv np (-4) 0).2.1) rfl faX9_150 sh_106 dX9_best_8 ?_
  exact Go_ret rfl dX9_best_11
set_option maxHeartbeats 4000000 in
set_option maxRecDepth 100000 in
theorem pX9_many {D : va_G} {ca : Nat → ClassId} {M : gMem} {nv np : Nat} (hC : MS M nv np) (hH : ∀ p, p < np → ∃ z : Nat, z < 12 ∧ M 110 p = (z : Int)) : Fn D ca mX9_many [gR 106] SH M [gI ((fdM M nv np (-4) 0).2.2.2.1)] SH (gSet (fyM M nv) 106 (r8 (M 106) (fdM M nv np (-4) 0))) := by
  refine Fn_of okX9_many (Nat.le_of_ble_eq_true rfl) (Or.inr (Or.inl ⟨_, rfl, rfl⟩)) (Nat.le_refl _) (Nat.le_refl _) ?_
  refine Go_ls2 (ls' := [(0, gR 106)]) rfl ?_
  have hv12 := hC.2.2.1
  have hn10 := hC.2.2.2.2
  refine Go_aload_n 0 rfl rfl dX9_many_0 ?_
  refine Go_bipush ⟨by decide, by unfold in32; omega⟩ dX9_many_1 ?_
  refine Go_iconst (by unfold in32; omega) dX9_many_3 ?_
  refine Go_callV0 (q := vwCl[9]) (fX9_find hC hH (-4) 0) cwX9_165 imX9_find rfl rfl ⟨Nat.le_of_ble_eq_true rfl, Nat.le_of_ble_eq_true rfl⟩ sh_106 rfl (Nat.le_of_ble_eq_true rfl) sh_rf dX9_many_4 ?_
  have hN := MS_fd hC (fdM M nv np (-4) 0)
  refine Go_aload_n 0 rfl rfl dX9_many_7 ?_
  refine Go_getIv (v := (fdM M nv np (-4) 0).2.2.2.1) rfl faX9_156 sh_106 dX9_many_8 ?_
  exact Go_ret rfl dX9_many_11
set_option maxHeartbeats 4000000 in
set_option maxRecDepth 100000 in
theorem pX9_every_bad {D : va_G} {ca : Nat → ClassId} {M : gMem} {nv np : Nat} (hC : MS M nv np) (p : Int) (h : ¬ (0 ≤ p ∧ p ≤ (np : Int) - 1)) : Fn D ca mX9_every [gR 106, gI p] SH M [gI (-1)] SH (M) := by
  refine Fn_of okX9_every (Nat.le_of_ble_eq_true rfl) (Or.inr (Or.inl ⟨_, rfl, rfl⟩)) (Nat.le_refl _) (Nat.le_refl _) ?_
  refine Go_ls2 (ls' := [(0, gR 106), (1, gI _)]) rfl ?_
  have hv12 := hC.2.2.1
  have hn10 := hC.2.2.2.2
  refine Go_aload_n 0 rfl rfl dX9_every_0 ?_
  refine Go_iload_n 1 rfl rfl dX9_every_1 ?_
  refine Go_callVI (q := vwCl[9]) (fX9_isPlace hC _) cwX9_101 imX9_isPlace rfl rfl ⟨Nat.le_of_ble_eq_true rfl, Nat.le_of_ble_eq_true rfl⟩ sh_106 rfl (Nat.le_of_ble_eq_true rfl) sh_rf dX9_every_2 ?_
  refine Go_if_ne dX9_every_5 rfl (fun h5 => ?_) (fun h5 => ?_)
  · skip
    replace h5 := bI_n.mp h5
    exact absurd h5 h
  · skip
    replace h5 := bI_0.mp h5
    refine Go_iconst (by unfold in32; omega) dX9_every_8 ?_
    exact Go_ret rfl dX9_every_9
set_option maxHeartbeats 4000000 in
set_option maxRecDepth 100000 in
theorem pX9_every_none {D : va_G} {ca : Nat → ClassId} {M : gMem} {nv np : Nat} (hC : MS M nv np) (hH : ∀ p, p < np → ∃ z : Nat, z < 12 ∧ M 110 p = (z : Int)) (p : Nat) (hp : p < np) (h : (fdM M nv np (-4) 0).2.2.2.1 = 0) : Fn D ca mX9_every [gR 106, gI (p : Int)] SH M [gI (-4)] SH (gSet (fyM M nv) 106 (r8 (M 106) (fdM M nv np (-4) 0))) := by
  refine Fn_of okX9_every (Nat.le_of_ble_eq_true rfl) (Or.inr (Or.inl ⟨_, rfl, rfl⟩)) (Nat.le_refl _) (Nat.le_refl _) ?_
  refine Go_ls2 (ls' := [(0, gR 106), (1, gI _)]) rfl ?_
  have hv12 := hC.2.2.1
  have hn10 := hC.2.2.2.2
  refine Go_aload_n 0 rfl rfl dX9_every_0 ?_
  refine Go_iload_n 1 rfl rfl dX9_every_1 ?_
  refine Go_callVI (q := vwCl[9]) (fX9_isPlace hC _) cwX9_101 imX9_isPlace rfl rfl ⟨Nat.le_of_ble_eq_true rfl, Nat.le_of_ble_eq_true rfl⟩ sh_106 rfl (Nat.le_of_ble_eq_true rfl) sh_rf dX9_every_2 ?_
  refine Go_if_ne dX9_every_5 rfl (fun h5 => ?_) (fun h5 => ?_)
  · skip
    replace h5 := bI_n.mp h5
    refine Go_aload_n 0 rfl rfl dX9_every_10 ?_
    refine Go_bipush ⟨by decide, by unfold in32; omega⟩ dX9_every_11 ?_
    refine Go_iconst (by unfold in32; omega) dX9_every_13 ?_
    refine Go_callV0 (q := vwCl[9]) (fX9_find hC hH (-4) 0) cwX9_165 imX9_find rfl rfl ⟨Nat.le_of_ble_eq_true rfl, Nat.le_of_ble_eq_true rfl⟩ sh_106 rfl (Nat.le_of_ble_eq_true rfl) sh_rf dX9_every_14 ?_
    have hN := MS_fd hC (fdM M nv np (-4) 0)
    refine Go_aload_n 0 rfl rfl dX9_every_17 ?_
    refine Go_getIv (v := (fdM M nv np (-4) 0).2.2.2.1) rfl faX9_156 sh_106 dX9_every_18 ?_
    refine Go_if_ne dX9_every_21 rfl (fun h21 => ?_) (fun h21 => ?_)
    · skip
      exact absurd h h21
    · skip
      refine Go_bipush ⟨by decide, by unfold in32; omega⟩ dX9_every_24 ?_
      exact Go_ret rfl dX9_every_26
  · skip
    replace h5 := bI_0.mp h5
    exfalso; omega
set_option maxHeartbeats 4000000 in
set_option maxRecDepth 100000 in
theorem pX9_every {D : va_G} {ca : Nat → ClassId} {M : gMem} {nv np : Nat} (hC : MS M nv np) (hH : ∀ p, p < np → ∃ z : Nat, z < 12 ∧ M 110 p = (z : Int)) (p : Nat) (hp : p < np) (h : (fdM M nv np (-4) 0).2.2.2.1 ≠ 0) (x y : Nat) (hx : x < 1024) (hy : y < 1024) (ex : (fdM M nv np (-4) 0).2.2.2.2.1 = (x : Int)) (ey : (fdM M nv np (-4) 0).2.2.2.2.2 = (y : Int)) : Fn D ca mX9_every [gR 106, gI (p : Int)] SH M [gI (if x.testBit p = true then 1 else if y.testBit p = true then 0 else -5)] SH (gSet (fyM M nv) 106 (r8 (M 106) (fdM M nv np (-4) 0))) := by
  refine Fn_of okX9_every (Nat.le_of_ble_eq_true rfl) (Or.inr (Or.inl ⟨_, rfl, rfl⟩)) (Nat.le_refl _) (Nat.le_refl _) ?_
  refine Go_ls2 (ls' := [(0, gR 106), (1, gI _)]) rfl ?_
  have hv12 := hC.2.2.1
  have hn10 := hC.2.2.2.2
  refine Go_aload_n 0 rfl rfl dX9_every_0 ?_
  refine Go_iload_n 1 rfl rfl dX9_every_1 ?_
  refine Go_callVI (q := vwCl[9]) (fX9_isPlace hC _) cwX9_101 imX9_isPlace rfl rfl ⟨Nat.le_of_ble_eq_true rfl, Nat.le_of_ble_eq_true rfl⟩ sh_106 rfl (Nat.le_of_ble_eq_true rfl) sh_rf dX9_every_2 ?_
  refine Go_if_ne dX9_every_5 rfl (fun h5 => ?_) (fun h5 => ?_)
  · skip
    replace h5 := bI_n.mp h5
    refine Go_aload_n 0 rfl rfl dX9_every_10 ?_
    refine Go_bipush ⟨by decide, by unfold in32; omega⟩ dX9_every_11 ?_
    refine Go_iconst (by unfold in32; omega) dX9_every_13 ?_
    refine Go_callV0 (q := vwCl[9]) (fX9_find hC hH (-4) 0) cwX9_165 imX9_find rfl rfl ⟨Nat.le_of_ble_eq_true rfl, Nat.le_of_ble_eq_true rfl⟩ sh_106 rfl (Nat.le_of_ble_eq_true rfl) sh_rf dX9_every_14 ?_
    have hN := MS_fd hC (fdM M nv np (-4) 0)
    refine Go_aload_n 0 rfl rfl dX9_every_17 ?_
    refine Go_getIv (j := 27) (v := (fdM M nv np (-4) 0).2.2.2.1) rfl faX9_156 sh_106 dX9_every_18 ?_
    refine Go_if_ne dX9_every_21 rfl (fun h21 => ?_) (fun h21 => ?_)
    · skip
      refine Go_aload_n 0 rfl rfl dX9_every_27 ?_
      refine Go_getIv (j := 28) (v := ((x : Nat) : Int)) ex faX9_159 sh_106 dX9_every_28 ?_
      refine Go_iload_n 1 rfl rfl dX9_every_31 ?_
      refine Go_ishr dX9_every_32 ?_
      refine Go_iconst (by unfold in32; omega) dX9_every_33 ?_
      refine Go_iand dX9_every_34 ?_
      refine Go_topI (v := bI (x.testBit p = true)) (bit_s (by omega) (by omega)) ?_
      refine Go_iconst (by unfold in32; omega) dX9_every_35 ?_
      refine Go_icmp_ne dX9_every_36 rfl (fun h36 => ?_) (fun h36 => ?_)
      · skip
        have hb36 : ¬ x.testBit p = true := fun q => h36 (bI_t q)
        refine Go_aload_n 0 rfl rfl dX9_every_43 ?_
        refine Go_getIv (j := 29) (v := ((y : Nat) : Int)) ey faX9_162 sh_106 dX9_every_44 ?_
        refine Go_iload_n 1 rfl rfl dX9_every_47 ?_
        refine Go_ishr dX9_every_48 ?_
        refine Go_iconst (by unfold in32; omega) dX9_every_49 ?_
        refine Go_iand dX9_every_50 ?_
        refine Go_topI (v := bI (y.testBit p = true)) (bit_s (by omega) (by omega)) ?_
        refine Go_iconst (by unfold in32; omega) dX9_every_51 ?_
        refine Go_icmp_ne dX9_every_52 rfl (fun h52 => ?_) (fun h52 => ?_)
        · skip
          have hb52 : ¬ y.testBit p = true := fun q => h52 (bI_t q)
          refine Go_bipush ⟨by decide, by unfold in32; omega⟩ dX9_every_59 ?_
          exact Go_ret (by first | rw [if_pos (by exact hb36)] | rw [if_neg (by exact hb36), if_pos (by exact hb52)] | rw [if_neg (by exact hb36), if_neg (by exact hb52)]) dX9_every_61
        · skip
          have hb52 : y.testBit p = true := bI_n.mp (by rw [h52]; decide)
          refine Go_iconst (by unfold in32; omega) dX9_every_55 ?_
          refine Go_goto dX9_every_56 rfl ?_
          exact Go_ret (by first | rw [if_pos (by exact hb36)] | rw [if_neg (by exact hb36), if_pos (by exact hb52)] | rw [if_neg (by exact hb36), if_neg (by exact hb52)]) dX9_every_61
      · skip
        have hb36 : x.testBit p = true := bI_n.mp (by rw [h36]; decide)
        refine Go_iconst (by unfold in32; omega) dX9_every_39 ?_
        refine Go_goto dX9_every_40 rfl ?_
        exact Go_ret (by first | rw [if_pos (by exact hb36)] | rw [if_neg (by exact hb36), if_pos (by exact hb52)] | rw [if_neg (by exact hb36), if_neg (by exact hb52)]) dX9_every_61
    · skip
      exact absurd h21 h
  · skip
    replace h5 := bI_0.mp h5
    exfalso; omega
set_option maxHeartbeats 4000000 in
set_option maxRecDepth 100000 in
theorem pX9_second_bad {D : va_G} {ca : Nat → ClassId} {M : gMem} {nv np : Nat} (hC : MS M nv np) (x : Int) (h : ¬ (0 ≤ x ∧ x ≤ ((2 ^ np : Nat) : Int) - 1)) : Fn D ca mX9_second [gR 106, gI x] SH M [gI (-1)] SH (M) := by
  refine Fn_of okX9_second (Nat.le_of_ble_eq_true rfl) (Or.inr (Or.inl ⟨_, rfl, rfl⟩)) (Nat.le_refl _) (Nat.le_refl _) ?_
  refine Go_ls2 (ls' := [(0, gR 106), (1, gI _)]) rfl ?_
  have hv12 := hC.2.2.1
  have hn10 := hC.2.2.2.2
  refine Go_aload_n 0 rfl rfl dX9_second_0 ?_
  refine Go_iload_n 1 rfl rfl dX9_second_1 ?_
  refine Go_callVI (q := vwCl[9]) (fX9_isChoice hC _) cwX9_136 imX9_isChoice rfl rfl ⟨Nat.le_of_ble_eq_true rfl, Nat.le_of_ble_eq_true rfl⟩ sh_106 rfl (Nat.le_of_ble_eq_true rfl) sh_rf dX9_second_2 ?_
  refine Go_if_ne dX9_second_5 rfl (fun h5 => ?_) (fun h5 => ?_)
  · skip
    replace h5 := bI_n.mp h5
    exact absurd h5 h
  · skip
    replace h5 := bI_0.mp h5
    refine Go_iconst (by unfold in32; omega) dX9_second_8 ?_
    exact Go_ret rfl dX9_second_9
set_option maxHeartbeats 4000000 in
set_option maxRecDepth 100000 in
theorem pX9_second {D : va_G} {ca : Nat → ClassId} {M : gMem} {nv np : Nat} (hC : MS M nv np) (hH : ∀ p, p < np → ∃ z : Nat, z < 12 ∧ M 110 p = (z : Int)) (c : Nat) (hc : c < 2 ^ np) : Fn D ca mX9_second [gR 106, gI (c : Int)] SH M [gI ((fdM M nv np (c : Int) 0).2.1)] SH (gSet (fyM M nv) 106 (r8 (M 106) (fdM M nv np (c : Int) 0))) := by
  refine Fn_of okX9_second (Nat.le_of_ble_eq_true rfl) (Or.inr (Or.inl ⟨_, rfl, rfl⟩)) (Nat.le_refl _) (Nat.le_refl _) ?_
  refine Go_ls2 (ls' := [(0, gR 106), (1, gI _)]) rfl ?_
  have hv12 := hC.2.2.1
  have hn10 := hC.2.2.2.2
  have hpw := p10 hn10
  refine Go_aload_n 0 rfl rfl dX9_second_0 ?_
  refine Go_iload_n 1 rfl rfl dX9_second_1 ?_
  refine Go_callVI (q := vwCl[9]) (fX9_isChoice hC _) cwX9_136 imX9_isChoice rfl rfl ⟨Nat.le_of_ble_eq_true rfl, Nat.le_of_ble_eq_true rfl⟩ sh_106 rfl (Nat.le_of_ble_eq_true rfl) sh_rf dX9_second_2 ?_
  refine Go_if_ne dX9_second_5 rfl (fun h5 => ?_) (fun h5 => ?_)
  · skip
    replace h5 := bI_n.mp h5
    refine Go_aload_n 0 rfl rfl dX9_second_10 ?_
    refine Go_iload_n 1 rfl rfl dX9_second_11 ?_
    refine Go_iconst (by unfold in32; omega) dX9_second_12 ?_
    refine Go_callV0 (q := vwCl[9]) (fX9_find hC hH (c : Int) 0) cwX9_165 imX9_find rfl rfl ⟨Nat.le_of_ble_eq_true rfl, Nat.le_of_ble_eq_true rfl⟩ sh_106 rfl (Nat.le_of_ble_eq_true rfl) sh_rf dX9_second_13 ?_
    have hN := MS_fd hC (fdM M nv np (c : Int) 0)
    refine Go_aload_n 0 rfl rfl dX9_second_16 ?_
    refine Go_getIv (v := (fdM M nv np (c : Int) 0).2.1) rfl faX9_150 sh_106 dX9_second_17 ?_
    exact Go_ret rfl dX9_second_20
  · skip
    replace h5 := bI_0.mp h5
    exact absurd (show 0 ≤ (c : Int) ∧ (c : Int) ≤ ((2 ^ np : Nat) : Int) - 1 by omega) h5
set_option maxHeartbeats 4000000 in
set_option maxRecDepth 100000 in
theorem pX9_lose_bad {D : va_G} {ca : Nat → ClassId} {M : gMem} {nv np : Nat} (hC : MS M nv np) (p : Int) (h : ¬ (0 ≤ p ∧ p ≤ (np : Int) - 1)) : Fn D ca mX9_lose [gR 106, gI p] SH M [gJ (-1)] SH (M) := by
  refine Fn_of okX9_lose (Nat.le_of_ble_eq_true rfl) (Or.inr (Or.inr (Or.inr ⟨_, rfl, rfl⟩))) (Nat.le_refl _) (Nat.le_refl _) ?_
  refine Go_ls2 (ls' := [(0, gR 106), (1, gI _)]) rfl ?_
  have hv12 := hC.2.2.1
  have hn10 := hC.2.2.2.2
  refine Go_aload_n 0 rfl rfl dX9_lose_0 ?_
  refine Go_iload_n 1 rfl rfl dX9_lose_1 ?_
  refine Go_callVI (q := vwCl[9]) (fX9_isPlace hC _) cwX9_101 imX9_isPlace rfl rfl ⟨Nat.le_of_ble_eq_true rfl, Nat.le_of_ble_eq_true rfl⟩ sh_106 rfl (Nat.le_of_ble_eq_true rfl) sh_rf dX9_lose_2 ?_
  refine Go_if_ne dX9_lose_5 rfl (fun h5 => ?_) (fun h5 => ?_)
  · skip
    replace h5 := bI_n.mp h5
    exact absurd h5 h
  · skip
    replace h5 := bI_0.mp h5
    refine Go_ldc2 klX9_142 (by unfold in64; omega) dX9_lose_8 ?_
    exact Go_ret rfl dX9_lose_11
set_option maxHeartbeats 4000000 in
set_option maxRecDepth 100000 in
theorem pX9_lose_st {D : va_G} {ca : Nat → ClassId} {M : gMem} {nv np : Nat} (hC : MS M nv np) (p : Nat) (hp : p < np) (h : M 111 p = 3) : Fn D ca mX9_lose [gR 106, gI (p : Int)] SH M [gJ (-2)] SH (M) := by
  refine Fn_of okX9_lose (Nat.le_of_ble_eq_true rfl) (Or.inr (Or.inr (Or.inr ⟨_, rfl, rfl⟩))) (Nat.le_refl _) (Nat.le_refl _) ?_
  refine Go_ls2 (ls' := [(0, gR 106), (1, gI _)]) rfl ?_
  have hv12 := hC.2.2.1
  have hn10 := hC.2.2.2.2
  refine Go_aload_n 0 rfl rfl dX9_lose_0 ?_
  refine Go_iload_n 1 rfl rfl dX9_lose_1 ?_
  refine Go_callVI (q := vwCl[9]) (fX9_isPlace hC _) cwX9_101 imX9_isPlace rfl rfl ⟨Nat.le_of_ble_eq_true rfl, Nat.le_of_ble_eq_true rfl⟩ sh_106 rfl (Nat.le_of_ble_eq_true rfl) sh_rf dX9_lose_2 ?_
  refine Go_if_ne dX9_lose_5 rfl (fun h5 => ?_) (fun h5 => ?_)
  · skip
    replace h5 := bI_n.mp h5
    refine Go_aload_n 0 rfl rfl dX9_lose_12 ?_
    refine Go_getR (c' := 111) faX9_23 sh_106 (pt_106_6 (M := M) hC.1) dX9_lose_13 ?_
    refine Go_iload_n 1 rfl rfl dX9_lose_16 ?_
    refine Go_ialoadv p (v := M 111 (p)) rfl sh_111 rfl (by omega) dX9_lose_17 ?_
    refine Go_iconst (by unfold in32; omega) dX9_lose_18 ?_
    refine Go_icmp_ne dX9_lose_19 rfl (fun h19 => ?_) (fun h19 => ?_)
    · skip
      exact absurd h h19
    · skip
      refine Go_ldc2 klX9_169 (by unfold in64; omega) dX9_lose_22 ?_
      exact Go_ret rfl dX9_lose_25
  · skip
    replace h5 := bI_0.mp h5
    exfalso; omega
set_option maxHeartbeats 4000000 in
set_option maxRecDepth 100000 in
theorem pX9_lose {D : va_G} {ca : Nat → ClassId} {M : gMem} {nv np : Nat} (hC : MS M nv np) (hH : ∀ p, p < np → ∃ z : Nat, z < 12 ∧ M 110 p = (z : Int)) (p : Nat) (hp : p < np) (h : M 111 p ≠ 3) : Fn D ca mX9_lose [gR 106, gI (p : Int)] SH M [gJ ((fdM M nv np (-4) (l32 1 (p : Int))).2.2.1)] SH (gSet (fyM M nv) 106 (r8 (M 106) (fdM M nv np (-4) (l32 1 (p : Int))))) := by
  refine Fn_of okX9_lose (Nat.le_of_ble_eq_true rfl) (Or.inr (Or.inr (Or.inr ⟨_, rfl, rfl⟩))) (Nat.le_refl _) (Nat.le_refl _) ?_
  refine Go_ls2 (ls' := [(0, gR 106), (1, gI _)]) rfl ?_
  have hv12 := hC.2.2.1
  have hn10 := hC.2.2.2.2
  refine Go_aload_n 0 rfl rfl dX9_lose_0 ?_
  refine Go_iload_n 1 rfl rfl dX9_lose_1 ?_
  refine Go_callVI (q := vwCl[9]) (fX9_isPlace hC _) cwX9_101 imX9_isPlace rfl rfl ⟨Nat.le_of_ble_eq_true rfl, Nat.le_of_ble_eq_true rfl⟩ sh_106 rfl (Nat.le_of_ble_eq_true rfl) sh_rf dX9_lose_2 ?_
  refine Go_if_ne dX9_lose_5 rfl (fun h5 => ?_) (fun h5 => ?_)
  · skip
    replace h5 := bI_n.mp h5
    refine Go_aload_n 0 rfl rfl dX9_lose_12 ?_
    refine Go_getR (c' := 111) faX9_23 sh_106 (pt_106_6 (M := M) hC.1) dX9_lose_13 ?_
    refine Go_iload_n 1 rfl rfl dX9_lose_16 ?_
    refine Go_ialoadv p (v := M 111 (p)) rfl sh_111 rfl (by omega) dX9_lose_17 ?_
    refine Go_iconst (by unfold in32; omega) dX9_lose_18 ?_
    refine Go_icmp_ne dX9_lose_19 rfl (fun h19 => ?_) (fun h19 => ?_)
    · skip
      refine Go_aload_n 0 rfl rfl dX9_lose_26 ?_
      refine Go_bipush ⟨by decide, by unfold in32; omega⟩ dX9_lose_27 ?_
      refine Go_iconst (by unfold in32; omega) dX9_lose_29 ?_
      refine Go_iload_n 1 rfl rfl dX9_lose_30 ?_
      refine Go_ishl dX9_lose_31 ?_
      refine Go_callV0 (q := vwCl[9]) (fX9_find hC hH (-4) (l32 1 (p : Int))) cwX9_165 imX9_find rfl rfl ⟨Nat.le_of_ble_eq_true rfl, Nat.le_of_ble_eq_true rfl⟩ sh_106 rfl (Nat.le_of_ble_eq_true rfl) sh_rf dX9_lose_32 ?_
      have hN := MS_fd hC (fdM M nv np (-4) (l32 1 (p : Int)))
      refine Go_aload_n 0 rfl rfl dX9_lose_35 ?_
      refine Go_getJv (v := (fdM M nv np (-4) (l32 1 (p : Int))).2.2.1) rfl faX9_153 sh_106 dX9_lose_36 ?_
      exact Go_ret rfl dX9_lose_39
    · skip
      exact absurd h19 h
  · skip
    replace h5 := bI_0.mp h5
    exfalso; omega
set_option maxHeartbeats 4000000 in
set_option maxRecDepth 100000 in
theorem pX9_farthest {D : va_G} {ca : Nat → ClassId} {M : gMem} {nv np : Nat} (hC : MS M nv np) (hH : ∀ p, p < np → ∃ z : Nat, z < 12 ∧ M 110 p = (z : Int)) : Fn D ca mX9_farthest [gR 106] SH M [gI ((nrM M nv np).2.2)] SH (gSet (fyM M nv) 106 (r5 (M 106) (nrM M nv np))) := by
  refine Fn_of okX9_farthest (Nat.le_of_ble_eq_true rfl) (Or.inr (Or.inl ⟨_, rfl, rfl⟩)) (Nat.le_refl _) (Nat.le_refl _) ?_
  refine Go_ls2 (ls' := [(0, gR 106)]) rfl ?_
  have hv12 := hC.2.2.1
  have hn10 := hC.2.2.2.2
  refine Go_aload_n 0 rfl rfl dX9_farthest_0 ?_
  refine Go_callV0 (q := vwCl[9]) (fX9_findNearest hC hH) cwX9_179 imX9_findNearest rfl rfl ⟨Nat.le_of_ble_eq_true rfl, Nat.le_of_ble_eq_true rfl⟩ sh_106 rfl (Nat.le_of_ble_eq_true rfl) sh_rf dX9_farthest_1 ?_
  have hN := MS_nr hC (nrM M nv np)
  refine Go_aload_n 0 rfl rfl dX9_farthest_4 ?_
  refine Go_getIv (v := (nrM M nv np).2.2) rfl faX9_176 sh_106 dX9_farthest_5 ?_
  exact Go_ret rfl dX9_farthest_8
set_option maxHeartbeats 4000000 in
set_option maxRecDepth 100000 in
theorem pX9_nearest {D : va_G} {ca : Nat → ClassId} {M : gMem} {nv np : Nat} (hC : MS M nv np) (hH : ∀ p, p < np → ∃ z : Nat, z < 12 ∧ M 110 p = (z : Int)) : Fn D ca mX9_nearest [gR 106] SH M [gI ((nrM M nv np).2.1)] SH (gSet (fyM M nv) 106 (r5 (M 106) (nrM M nv np))) := by
  refine Fn_of okX9_nearest (Nat.le_of_ble_eq_true rfl) (Or.inr (Or.inl ⟨_, rfl, rfl⟩)) (Nat.le_refl _) (Nat.le_refl _) ?_
  refine Go_ls2 (ls' := [(0, gR 106)]) rfl ?_
  have hv12 := hC.2.2.1
  have hn10 := hC.2.2.2.2
  refine Go_aload_n 0 rfl rfl dX9_nearest_0 ?_
  refine Go_callV0 (q := vwCl[9]) (fX9_findNearest hC hH) cwX9_179 imX9_findNearest rfl rfl ⟨Nat.le_of_ble_eq_true rfl, Nat.le_of_ble_eq_true rfl⟩ sh_106 rfl (Nat.le_of_ble_eq_true rfl) sh_rf dX9_nearest_1 ?_
  have hN := MS_nr hC (nrM M nv np)
  refine Go_aload_n 0 rfl rfl dX9_nearest_4 ?_
  refine Go_getIv (v := (nrM M nv np).2.1) rfl faX9_173 sh_106 dX9_nearest_5 ?_
  exact Go_ret rfl dX9_nearest_8
set_option maxHeartbeats 4000000 in
set_option maxRecDepth 100000 in
theorem pX9_moves {D : va_G} {ca : Nat → ClassId} {M : gMem} {nv np : Nat} (hC : MS M nv np) : Fn D ca mX9_moves [gR 106] SH M [gI (M 106 32)] SH (M) := by
  refine Fn_of okX9_moves (Nat.le_of_ble_eq_true rfl) (Or.inr (Or.inl ⟨_, rfl, rfl⟩)) (Nat.le_refl _) (Nat.le_refl _) ?_
  refine Go_ls2 (ls' := [(0, gR 106)]) rfl ?_
  have hv12 := hC.2.2.1
  have hn10 := hC.2.2.2.2
  refine Go_aload_n 0 rfl rfl dX9_moves_0 ?_
  refine Go_getI faX9_192 sh_106 dX9_moves_1 ?_
  exact Go_ret rfl dX9_moves_4
set_option maxHeartbeats 4000000 in
set_option maxRecDepth 100000 in
theorem pX9_highest {D : va_G} {ca : Nat → ClassId} {M : gMem} {nv np : Nat} (hC : MS M nv np) : Fn D ca mX9_highest [gR 106] SH M [gJ (M 106 38)] SH (M) := by
  refine Fn_of okX9_highest (Nat.le_of_ble_eq_true rfl) (Or.inr (Or.inr (Or.inr ⟨_, rfl, rfl⟩))) (Nat.le_refl _) (Nat.le_refl _) ?_
  refine Go_ls2 (ls' := [(0, gR 106)]) rfl ?_
  have hv12 := hC.2.2.1
  have hn10 := hC.2.2.2.2
  refine Go_aload_n 0 rfl rfl dX9_highest_0 ?_
  refine Go_getJ faX9_226 sh_106 dX9_highest_1 ?_
  exact Go_ret rfl dX9_highest_4
set_option maxHeartbeats 4000000 in
set_option maxRecDepth 100000 in
theorem pX9_price_bad {D : va_G} {ca : Nat → ClassId} {M : gMem} {nv np : Nat} (hC : MS M nv np) (v n : Int) (h : ¬ ((0 ≤ v ∧ v ≤ (nv : Int) - 1) ∧ 0 ≤ n ∧ n ≤ 100000000)) : Fn D ca mX9_price [gR 106, gI v, gI n] SH M [gI (-1)] SH (M) := by
  refine Fn_of okX9_price (Nat.le_of_ble_eq_true rfl) (Or.inr (Or.inl ⟨_, rfl, rfl⟩)) (Nat.le_refl _) (Nat.le_refl _) ?_
  refine Go_ls2 (ls' := [(0, gR 106), (1, gI _), (2, gI _)]) rfl ?_
  have hv12 := hC.2.2.1
  have hn10 := hC.2.2.2.2
  refine Go_aload_n 0 rfl rfl dX9_price_0 ?_
  refine Go_iload_n 1 rfl rfl dX9_price_1 ?_
  refine Go_callVI (q := vwCl[9]) (fX9_isVillage hC _) cwX9_90 imX9_isVillage rfl rfl ⟨Nat.le_of_ble_eq_true rfl, Nat.le_of_ble_eq_true rfl⟩ sh_106 rfl (Nat.le_of_ble_eq_true rfl) sh_rf dX9_price_2 ?_
  refine Go_if_eq dX9_price_5 rfl (fun h5 => ?_) (fun h5 => ?_)
  · skip
    replace h5 := bI_0.mp h5
    refine Go_iconst (by unfold in32; omega) dX9_price_20 ?_
    exact Go_ret rfl dX9_price_21
  · skip
    replace h5 := bI_n.mp h5
    refine Go_iload_n 2 rfl rfl dX9_price_8 ?_
    refine Go_i2l dX9_price_9 ?_
    refine Go_lconst (v := 0) ⟨rfl, by unfold in64; omega⟩ dX9_price_10 ?_
    refine Go_ldc2 klX9_201 (by unfold in64; omega) dX9_price_11 ?_
    refine Go_callSI (fX9_in _ _ _) cwX9_81 smX9_in ⟨Nat.le_of_ble_eq_true rfl, Nat.le_of_ble_eq_true rfl⟩ rfl (Nat.le_of_ble_eq_true rfl) sh_rf dX9_price_14 ?_
    refine Go_if_ne dX9_price_17 rfl (fun h17 => ?_) (fun h17 => ?_)
    · skip
      replace h17 := bI_n.mp h17
      exact absurd ⟨h5, h17⟩ h
    · skip
      replace h17 := bI_0.mp h17
      refine Go_iconst (by unfold in32; omega) dX9_price_20 ?_
      exact Go_ret rfl dX9_price_21
set_option maxHeartbeats 4000000 in
set_option maxRecDepth 100000 in
theorem pX9_price {D : va_G} {ca : Nat → ClassId} {M : gMem} {nv np : Nat} (hC : MS M nv np) (v : Nat) (hv : v < nv) (n : Int) (h : 0 ≤ n ∧ n ≤ 100000000) : Fn D ca mX9_price [gR 106, gI (v : Int), gI n] SH M [gI 1] SH (gSet M 108 (gUp (M 108) v n)) := by
  refine Fn_of okX9_price (Nat.le_of_ble_eq_true rfl) (Or.inr (Or.inl ⟨_, rfl, rfl⟩)) (Nat.le_refl _) (Nat.le_refl _) ?_
  refine Go_ls2 (ls' := [(0, gR 106), (1, gI _), (2, gI _)]) rfl ?_
  have hv12 := hC.2.2.1
  have hn10 := hC.2.2.2.2
  refine Go_aload_n 0 rfl rfl dX9_price_0 ?_
  refine Go_iload_n 1 rfl rfl dX9_price_1 ?_
  refine Go_callVI (q := vwCl[9]) (fX9_isVillage hC _) cwX9_90 imX9_isVillage rfl rfl ⟨Nat.le_of_ble_eq_true rfl, Nat.le_of_ble_eq_true rfl⟩ sh_106 rfl (Nat.le_of_ble_eq_true rfl) sh_rf dX9_price_2 ?_
  refine Go_if_eq dX9_price_5 rfl (fun h5 => ?_) (fun h5 => ?_)
  · skip
    replace h5 := bI_0.mp h5
    exfalso; omega
  · skip
    replace h5 := bI_n.mp h5
    refine Go_iload_n 2 rfl rfl dX9_price_8 ?_
    refine Go_i2l dX9_price_9 ?_
    refine Go_lconst (v := 0) ⟨rfl, by unfold in64; omega⟩ dX9_price_10 ?_
    refine Go_ldc2 klX9_201 (by unfold in64; omega) dX9_price_11 ?_
    refine Go_callSI (fX9_in _ _ _) cwX9_81 smX9_in ⟨Nat.le_of_ble_eq_true rfl, Nat.le_of_ble_eq_true rfl⟩ rfl (Nat.le_of_ble_eq_true rfl) sh_rf dX9_price_14 ?_
    refine Go_if_ne dX9_price_17 rfl (fun h17 => ?_) (fun h17 => ?_)
    · skip
      replace h17 := bI_n.mp h17
      refine Go_aload_n 0 rfl rfl dX9_price_22 ?_
      refine Go_getR (c' := 108) faX9_13 sh_106 (pt_106_2 (M := M) hC.1) dX9_price_23 ?_
      refine Go_iload_n 1 rfl rfl dX9_price_26 ?_
      refine Go_iload_n 2 rfl rfl dX9_price_27 ?_
      refine Go_i2l dX9_price_28 ?_
      refine Go_lastore v sh_108 rfl (by omega) dX9_price_29 ?_
      refine Go_iconst (by unfold in32; omega) dX9_price_30 ?_
      exact Go_ret rfl dX9_price_31
    · skip
      replace h17 := bI_0.mp h17
      exact absurd h h17
set_option maxHeartbeats 4000000 in
set_option maxRecDepth 100000 in
theorem pX9_priced_bad {D : va_G} {ca : Nat → ClassId} {M : gMem} {nv np : Nat} (hC : MS M nv np) (v : Int) (h : ¬ (0 ≤ v ∧ v ≤ (nv : Int) - 1)) : Fn D ca mX9_priced [gR 106, gI v] SH M [gJ 0] SH (M) := by
  refine Fn_of okX9_priced (Nat.le_of_ble_eq_true rfl) (Or.inr (Or.inr (Or.inr ⟨_, rfl, rfl⟩))) (Nat.le_refl _) (Nat.le_refl _) ?_
  refine Go_ls2 (ls' := [(0, gR 106), (1, gI _)]) rfl ?_
  have hv12 := hC.2.2.1
  have hn10 := hC.2.2.2.2
  refine Go_aload_n 0 rfl rfl dX9_priced_0 ?_
  refine Go_iload_n 1 rfl rfl dX9_priced_1 ?_
  refine Go_callVI (q := vwCl[9]) (fX9_isVillage hC _) cwX9_90 imX9_isVillage rfl rfl ⟨Nat.le_of_ble_eq_true rfl, Nat.le_of_ble_eq_true rfl⟩ sh_106 rfl (Nat.le_of_ble_eq_true rfl) sh_rf dX9_priced_2 ?_
  refine Go_if_eq dX9_priced_5 rfl (fun h5 => ?_) (fun h5 => ?_)
  · skip
    replace h5 := bI_0.mp h5
    refine Go_lconst (v := 0) ⟨rfl, by unfold in64; omega⟩ dX9_priced_17 ?_
    exact Go_ret rfl dX9_priced_18
  · skip
    replace h5 := bI_n.mp h5
    exact absurd h5 h
set_option maxHeartbeats 4000000 in
set_option maxRecDepth 100000 in
theorem pX9_priced {D : va_G} {ca : Nat → ClassId} {M : gMem} {nv np : Nat} (hC : MS M nv np) (v : Nat) (hv : v < nv) : Fn D ca mX9_priced [gR 106, gI (v : Int)] SH M [gJ (M 108 v)] SH (M) := by
  refine Fn_of okX9_priced (Nat.le_of_ble_eq_true rfl) (Or.inr (Or.inr (Or.inr ⟨_, rfl, rfl⟩))) (Nat.le_refl _) (Nat.le_refl _) ?_
  refine Go_ls2 (ls' := [(0, gR 106), (1, gI _)]) rfl ?_
  have hv12 := hC.2.2.1
  have hn10 := hC.2.2.2.2
  refine Go_aload_n 0 rfl rfl dX9_priced_0 ?_
  refine Go_iload_n 1 rfl rfl dX9_priced_1 ?_
  refine Go_callVI (q := vwCl[9]) (fX9_isVillage hC _) cwX9_90 imX9_isVillage rfl rfl ⟨Nat.le_of_ble_eq_true rfl, Nat.le_of_ble_eq_true rfl⟩ sh_106 rfl (Nat.le_of_ble_eq_true rfl) sh_rf dX9_priced_2 ?_
  refine Go_if_eq dX9_priced_5 rfl (fun h5 => ?_) (fun h5 => ?_)
  · skip
    replace h5 := bI_0.mp h5
    exfalso; omega
  · skip
    replace h5 := bI_n.mp h5
    refine Go_aload_n 0 rfl rfl dX9_priced_8 ?_
    refine Go_getR (c' := 108) faX9_13 sh_106 (pt_106_2 (M := M) hC.1) dX9_priced_9 ?_
    refine Go_iload_n 1 rfl rfl dX9_priced_12 ?_
    refine Go_laload v sh_108 rfl (by omega) dX9_priced_13 ?_
    refine Go_goto dX9_priced_14 rfl ?_
    exact Go_ret rfl dX9_priced_18
set_option maxHeartbeats 4000000 in
set_option maxRecDepth 100000 in
theorem pX9_gives_bad {D : va_G} {ca : Nat → ClassId} {M : gMem} {nv np : Nat} (hC : MS M nv np) (p v : Int) (h : ¬ ((0 ≤ p ∧ p ≤ (np : Int) - 1) ∧ (0 ≤ v ∧ v ≤ (nv : Int) - 1))) : Fn D ca mX9_gives [gR 106, gI p, gI v] SH M [gJ (-1)] SH (M) := by
  refine Fn_of okX9_gives (Nat.le_of_ble_eq_true rfl) (Or.inr (Or.inr (Or.inr ⟨_, rfl, rfl⟩))) (Nat.le_refl _) (Nat.le_refl _) ?_
  refine Go_ls2 (ls' := [(0, gR 106), (1, gI _), (2, gI _)]) rfl ?_
  have hv12 := hC.2.2.1
  have hn10 := hC.2.2.2.2
  refine Go_aload_n 0 rfl rfl dX9_gives_0 ?_
  refine Go_iload_n 1 rfl rfl dX9_gives_1 ?_
  refine Go_callVI (q := vwCl[9]) (fX9_isPlace hC _) cwX9_101 imX9_isPlace rfl rfl ⟨Nat.le_of_ble_eq_true rfl, Nat.le_of_ble_eq_true rfl⟩ sh_106 rfl (Nat.le_of_ble_eq_true rfl) sh_rf dX9_gives_2 ?_
  refine Go_if_eq dX9_gives_5 rfl (fun h5 => ?_) (fun h5 => ?_)
  · skip
    replace h5 := bI_0.mp h5
    refine Go_ldc2 klX9_142 (by unfold in64; omega) dX9_gives_16 ?_
    exact Go_ret rfl dX9_gives_19
  · skip
    replace h5 := bI_n.mp h5
    refine Go_aload_n 0 rfl rfl dX9_gives_8 ?_
    refine Go_iload_n 2 rfl rfl dX9_gives_9 ?_
    refine Go_callVI (q := vwCl[9]) (fX9_isVillage hC _) cwX9_90 imX9_isVillage rfl rfl ⟨Nat.le_of_ble_eq_true rfl, Nat.le_of_ble_eq_true rfl⟩ sh_106 rfl (Nat.le_of_ble_eq_true rfl) sh_rf dX9_gives_10 ?_
    refine Go_if_ne dX9_gives_13 rfl (fun h13 => ?_) (fun h13 => ?_)
    · skip
      replace h13 := bI_n.mp h13
      exact absurd ⟨h5, h13⟩ h
    · skip
      replace h13 := bI_0.mp h13
      refine Go_ldc2 klX9_142 (by unfold in64; omega) dX9_gives_16 ?_
      exact Go_ret rfl dX9_gives_19
set_option maxHeartbeats 4000000 in
set_option maxRecDepth 100000 in
theorem pX9_gives {D : va_G} {ca : Nat → ClassId} {M : gMem} {nv np : Nat} (hC : MS M nv np) (hH : ∀ p, p < np → ∃ z : Nat, z < 12 ∧ M 110 p = (z : Int)) (p v : Nat) (hp : p < np) (hv : v < nv) : Fn D ca mX9_gives [gR 106, gI (p : Int), gI (v : Int)] SH M [gJ (gnM (fyM M nv) p v)] SH (fyM M nv) := by
  refine Fn_of okX9_gives (Nat.le_of_ble_eq_true rfl) (Or.inr (Or.inr (Or.inr ⟨_, rfl, rfl⟩))) (Nat.le_refl _) (Nat.le_refl _) ?_
  refine Go_ls2 (ls' := [(0, gR 106), (1, gI _), (2, gI _)]) rfl ?_
  have hv12 := hC.2.2.1
  have hn10 := hC.2.2.2.2
  have hN := MS_fy hC
  refine Go_aload_n 0 rfl rfl dX9_gives_0 ?_
  refine Go_iload_n 1 rfl rfl dX9_gives_1 ?_
  refine Go_callVI (q := vwCl[9]) (fX9_isPlace hC _) cwX9_101 imX9_isPlace rfl rfl ⟨Nat.le_of_ble_eq_true rfl, Nat.le_of_ble_eq_true rfl⟩ sh_106 rfl (Nat.le_of_ble_eq_true rfl) sh_rf dX9_gives_2 ?_
  refine Go_if_eq dX9_gives_5 rfl (fun h5 => ?_) (fun h5 => ?_)
  · skip
    replace h5 := bI_0.mp h5
    exfalso; omega
  · skip
    replace h5 := bI_n.mp h5
    refine Go_aload_n 0 rfl rfl dX9_gives_8 ?_
    refine Go_iload_n 2 rfl rfl dX9_gives_9 ?_
    refine Go_callVI (q := vwCl[9]) (fX9_isVillage hC _) cwX9_90 imX9_isVillage rfl rfl ⟨Nat.le_of_ble_eq_true rfl, Nat.le_of_ble_eq_true rfl⟩ sh_106 rfl (Nat.le_of_ble_eq_true rfl) sh_rf dX9_gives_10 ?_
    refine Go_if_ne dX9_gives_13 rfl (fun h13 => ?_) (fun h13 => ?_)
    · skip
      replace h13 := bI_n.mp h13
      refine Go_aload_n 0 rfl rfl dX9_gives_20 ?_
      refine Go_callV0 (q := vwCl[9]) (fX9_findWays hC) cwX9_112 imX9_findWays rfl rfl ⟨Nat.le_of_ble_eq_true rfl, Nat.le_of_ble_eq_true rfl⟩ sh_106 rfl (Nat.le_of_ble_eq_true rfl) sh_rf dX9_gives_21 ?_
      refine Go_M (M2 := fyM M nv) rfl ?_
      generalize hNe : fyM M nv = N at hN ⊢
      refine Go_aload_n 0 rfl rfl dX9_gives_24 ?_
      refine Go_iload_n 1 rfl rfl dX9_gives_25 ?_
      refine Go_iload_n 2 rfl rfl dX9_gives_26 ?_
      obtain ⟨z, hz, ez⟩ := hH p hp
      refine Go_callVJ (q := vwCl[9]) (fX9_given hN p v z (by omega) (by omega) (by rw [← hNe]; exact ez) hz) cwX9_203 imX9_given rfl rfl ⟨Nat.le_of_ble_eq_true rfl, Nat.le_of_ble_eq_true rfl⟩ sh_106 rfl (Nat.le_of_ble_eq_true rfl) sh_rf dX9_gives_27 ?_
      exact Go_ret rfl dX9_gives_30
    · skip
      replace h13 := bI_0.mp h13
      exfalso; omega
set_option maxHeartbeats 4000000 in
set_option maxRecDepth 100000 in
theorem pX9_worth_bad {D : va_G} {ca : Nat → ClassId} {M : gMem} {nv np : Nat} (hC : MS M nv np) (p : Int) (h : ¬ (0 ≤ p ∧ p ≤ (np : Int) - 1)) : Fn D ca mX9_worth [gR 106, gI p] SH M [gJ 0] SH (M) := by
  refine Fn_of okX9_worth (Nat.le_of_ble_eq_true rfl) (Or.inr (Or.inr (Or.inr ⟨_, rfl, rfl⟩))) (Nat.le_refl _) (Nat.le_refl _) ?_
  refine Go_ls2 (ls' := [(0, gR 106), (1, gI _)]) rfl ?_
  have hv12 := hC.2.2.1
  have hn10 := hC.2.2.2.2
  refine Go_aload_n 0 rfl rfl dX9_worth_0 ?_
  refine Go_iload_n 1 rfl rfl dX9_worth_1 ?_
  refine Go_callVI (q := vwCl[9]) (fX9_isPlace hC _) cwX9_101 imX9_isPlace rfl rfl ⟨Nat.le_of_ble_eq_true rfl, Nat.le_of_ble_eq_true rfl⟩ sh_106 rfl (Nat.le_of_ble_eq_true rfl) sh_rf dX9_worth_2 ?_
  refine Go_if_ne dX9_worth_5 rfl (fun h5 => ?_) (fun h5 => ?_)
  · skip
    replace h5 := bI_n.mp h5
    exact absurd h5 h
  · skip
    replace h5 := bI_0.mp h5
    refine Go_lconst (v := 0) ⟨rfl, by unfold in64; omega⟩ dX9_worth_8 ?_
    exact Go_ret rfl dX9_worth_9
set_option maxHeartbeats 4000000 in
set_option maxRecDepth 100000 in
theorem pX9_worth {D : va_G} {ca : Nat → ClassId} {M : gMem} {nv np : Nat} (hC : MS M nv np) (hH : ∀ p, p < np → ∃ z : Nat, z < 12 ∧ M 110 p = (z : Int)) (p : Nat) (hp : p < np) : Fn D ca mX9_worth [gR 106, gI (p : Int)] SH M [gJ (wtM (fyM M nv) nv p)] SH (fyM M nv) := by
  refine Fn_of okX9_worth (Nat.le_of_ble_eq_true rfl) (Or.inr (Or.inr (Or.inr ⟨_, rfl, rfl⟩))) (Nat.le_refl _) (Nat.le_refl _) ?_
  refine Go_ls2 (ls' := [(0, gR 106), (1, gI _)]) rfl ?_
  have hv12 := hC.2.2.1
  have hn10 := hC.2.2.2.2
  have hN := MS_fy hC
  refine Go_aload_n 0 rfl rfl dX9_worth_0 ?_
  refine Go_iload_n 1 rfl rfl dX9_worth_1 ?_
  refine Go_callVI (q := vwCl[9]) (fX9_isPlace hC _) cwX9_101 imX9_isPlace rfl rfl ⟨Nat.le_of_ble_eq_true rfl, Nat.le_of_ble_eq_true rfl⟩ sh_106 rfl (Nat.le_of_ble_eq_true rfl) sh_rf dX9_worth_2 ?_
  refine Go_if_ne dX9_worth_5 rfl (fun h5 => ?_) (fun h5 => ?_)
  · skip
    replace h5 := bI_n.mp h5
    refine Go_aload_n 0 rfl rfl dX9_worth_10 ?_
    refine Go_callV0 (q := vwCl[9]) (fX9_findWays hC) cwX9_112 imX9_findWays rfl rfl ⟨Nat.le_of_ble_eq_true rfl, Nat.le_of_ble_eq_true rfl⟩ sh_106 rfl (Nat.le_of_ble_eq_true rfl) sh_rf dX9_worth_11 ?_
    refine Go_M (M2 := fyM M nv) rfl ?_
    generalize hNe : fyM M nv = N at hN ⊢
    refine Go_aload_n 0 rfl rfl dX9_worth_14 ?_
    refine Go_iload_n 1 rfl rfl dX9_worth_15 ?_
    refine Go_callVJ (q := vwCl[9]) (fX9_worthOf hN (fun p hp => by rw [← hNe]; exact hH p hp) p hp) cwX9_207 imX9_worthOf rfl rfl ⟨Nat.le_of_ble_eq_true rfl, Nat.le_of_ble_eq_true rfl⟩ sh_106 rfl (Nat.le_of_ble_eq_true rfl) sh_rf dX9_worth_16 ?_
    exact Go_ret rfl dX9_worth_19
  · skip
    replace h5 := bI_0.mp h5
    exfalso; omega
set_option maxHeartbeats 4000000 in
set_option maxRecDepth 100000 in
theorem pX9_bound {D : va_G} {ca : Nat → ClassId} {M : gMem} {nv np : Nat} (hC : MS M nv np) (hH : ∀ p, p < np → ∃ z : Nat, z < 12 ∧ M 110 p = (z : Int)) : Fn D ca mX9_bound [gR 106] SH M [gJ (bnF (fyM M nv) nv np)] SH (riM (fyM M nv) nv np) := by
  refine Fn_of okX9_bound (Nat.le_of_ble_eq_true rfl) (Or.inr (Or.inr (Or.inr ⟨_, rfl, rfl⟩))) (Nat.le_refl _) (Nat.le_refl _) ?_
  refine Go_ls2 (ls' := [(0, gR 106)]) rfl ?_
  have hv12 := hC.2.2.1
  have hn10 := hC.2.2.2.2
  have hN := MS_fy hC
  refine Go_aload_n 0 rfl rfl dX9_bound_0 ?_
  refine Go_callV0 (q := vwCl[9]) (fX9_findWays hC) cwX9_112 imX9_findWays rfl rfl ⟨Nat.le_of_ble_eq_true rfl, Nat.le_of_ble_eq_true rfl⟩ sh_106 rfl (Nat.le_of_ble_eq_true rfl) sh_rf dX9_bound_1 ?_
  refine Go_M (M2 := fyM M nv) rfl ?_
  generalize hNe : fyM M nv = N at hN ⊢
  refine Go_aload_n 0 rfl rfl dX9_bound_4 ?_
  refine Go_callVJ (q := vwCl[9]) (fX9_boundNow hN (fun p hp => by rw [← hNe]; exact hH p hp)) cwX9_220 imX9_boundNow rfl rfl ⟨Nat.le_of_ble_eq_true rfl, Nat.le_of_ble_eq_true rfl⟩ sh_106 rfl (Nat.le_of_ble_eq_true rfl) sh_rf dX9_bound_5 ?_
  exact Go_ret rfl dX9_bound_8
def rd9 (R : Nat → Int) (nv : Nat) : Nat → Int
  | 0 => 0
  | i + 1 => w32 (rd9 R nv i + if i / 12 < i % 12 ∧ i / 12 < nv ∧ i % 12 < nv ∧ 0 < R i then 1 else 0)
def bs9 (B : Nat → Int) : Nat → Int
  | 0 => 0
  | v + 1 => w32 (bs9 B v + B v)
def ks9 (K : Nat → Int) : Nat → Int
  | 0 => 0
  | p + 1 => w32 (ks9 K p + if K p = 3 then 1 else 0)
set_option maxHeartbeats 4000000 in
set_option maxRecDepth 100000 in
theorem pX9_count_0 {D : va_G} {ca : Nat → ClassId} {M : gMem} {nv np : Nat} (hC : MS M nv np) : Fn D ca mX9_count [gR 106, gI 0] SH M [gI ((nv : Int))] SH (M) := by
  refine Fn_of okX9_count (Nat.le_of_ble_eq_true rfl) (Or.inr (Or.inl ⟨_, rfl, rfl⟩)) (Nat.le_refl _) (Nat.le_refl _) ?_
  refine Go_ls2 (ls' := [(0, gR 106), (1, gI _)]) rfl ?_
  have hv12 := hC.2.2.1
  have hn10 := hC.2.2.2.2
  refine Go_iconst (by unfold in32; omega) dX9_count_0 ?_
  refine Go_istore_n (ls' := [(2, gI _), (0, gR 106), (1, gI _)]) rfl dX9_count_1 (by decide) rfl ?_
  refine Go_iload_n 2 rfl rfl dX9_count_2 ?_
  · refine Go_tableIn (off := 37) (tgt := 40) dX9_count_3 (by decide) (by decide) (by rfl) rfl ?_
    refine Go_aload_n 1 rfl rfl dX9_count_40 ?_
    refine Go_getIv (v := (nv : Int)) hC.2.1 faX9_75 sh_106 dX9_count_41 ?_
    exact Go_ret rfl dX9_count_44
set_option maxHeartbeats 4000000 in
set_option maxRecDepth 100000 in
theorem pX9_count_1 {D : va_G} {ca : Nat → ClassId} {M : gMem} {nv np : Nat} (hC : MS M nv np) : Fn D ca mX9_count [gR 106, gI 1] SH M [gI ((np : Int))] SH (M) := by
  refine Fn_of okX9_count (Nat.le_of_ble_eq_true rfl) (Or.inr (Or.inl ⟨_, rfl, rfl⟩)) (Nat.le_refl _) (Nat.le_refl _) ?_
  refine Go_ls2 (ls' := [(0, gR 106), (1, gI _)]) rfl ?_
  have hv12 := hC.2.2.1
  have hn10 := hC.2.2.2.2
  refine Go_iconst (by unfold in32; omega) dX9_count_0 ?_
  refine Go_istore_n (ls' := [(2, gI _), (0, gR 106), (1, gI _)]) rfl dX9_count_1 (by decide) rfl ?_
  refine Go_iload_n 2 rfl rfl dX9_count_2 ?_
  · refine Go_tableIn (off := 42) (tgt := 45) dX9_count_3 (by decide) (by decide) (by rfl) rfl ?_
    refine Go_aload_n 1 rfl rfl dX9_count_45 ?_
    refine Go_getIv (v := (np : Int)) hC.2.2.2.1 faX9_78 sh_106 dX9_count_46 ?_
    exact Go_ret rfl dX9_count_49
set_option maxHeartbeats 4000000 in
set_option maxRecDepth 100000 in
theorem pX9_count_2 {D : va_G} {ca : Nat → ClassId} {M : gMem} {nv np : Nat} (hC : MS M nv np) : Fn D ca mX9_count [gR 106, gI 2] SH M [gI (rd9 (M 109) nv 144)] SH (M) := by
  refine Fn_of okX9_count (Nat.le_of_ble_eq_true rfl) (Or.inr (Or.inl ⟨_, rfl, rfl⟩)) (Nat.le_refl _) (Nat.le_refl _) ?_
  refine Go_ls2 (ls' := [(0, gR 106), (1, gI _)]) rfl ?_
  have hv12 := hC.2.2.1
  have hn10 := hC.2.2.2.2
  have loop_52 : ∀ (k : Nat) (i : Nat) (x : Int), i + k = 144 → rd9 (M 109) nv i = x → Go D ca none (gRm mX9_count (SH.length - SH.length) (gSz SH - gSz SH)) mX9_count 52 [(0, gR 106), (2, gI x), (3, gI (i : Int))] [] SH M [gI (rd9 (M 109) nv 144)] SH (M) := by
    intro k
    induction k with
    | zero =>
      intro i x he hx
      have ei : i = 144 := by omega
      subst ei
      refine Go_iload_n 2 rfl rfl dX9_count_52 ?_
      refine Go_sipush ⟨by decide, by unfold in32; omega⟩ dX9_count_53 ?_
      refine Go_icmp_ge dX9_count_56 rfl (fun h56 => ?_) (fun h56 => ?_)
      · skip
        refine Go_iload_n 1 rfl rfl dX9_count_115 ?_
        exact Go_ret (by rw [← hx]) dX9_count_116
      · skip
        exact absurd h56 (by omega)
    | succ k ih_52 =>
      intro i x he hx
      refine Go_iload_n 2 rfl rfl dX9_count_52 ?_
      refine Go_sipush ⟨by decide, by unfold in32; omega⟩ dX9_count_53 ?_
      refine Go_icmp_ge dX9_count_56 rfl (fun h56 => ?_) (fun h56 => ?_)
      · skip
        exact absurd h56 (by omega)
      · skip
        refine Go_iload_n 1 rfl rfl dX9_count_59 ?_
        refine Go_iload_n 2 rfl rfl dX9_count_60 ?_
        refine Go_bipush ⟨by decide, by unfold in32; omega⟩ dX9_count_61 ?_
        refine Go_idiv (by omega) dX9_count_63 ?_
        refine Go_topI (v := ((i / 12 : Nat) : Int)) (d32n (a := i) (b := 12) (by omega) (by omega) (by omega)) ?_
        refine Go_iload_n 2 rfl rfl dX9_count_64 ?_
        refine Go_bipush ⟨by decide, by unfold in32; omega⟩ dX9_count_65 ?_
        refine Go_irem (by omega) dX9_count_67 ?_
        refine Go_topI (v := ((i % 12 : Nat) : Int)) (m32n (a := i) (b := 12) (by omega) (by omega) (by omega)) ?_
        refine Go_icmp_ge dX9_count_68 rfl (fun h68 => ?_) (fun h68 => ?_)
        · skip
          refine Go_iconst (by unfold in32; omega) dX9_count_106 ?_
          refine Go_iadd dX9_count_107 ?_
          refine Go_istore_n (ls' := [(2, gI _), (0, gR 106), (3, gI _)]) rfl dX9_count_108 (by decide) rfl ?_
          refine Go_iincn i 1 rfl rfl (by omega) 2 (ls' := [(3, gI _), (2, gI _), (0, gR 106)]) rfl dX9_count_109 (by decide) rfl ?_
          refine Go_goto dX9_count_112 rfl ?_
          refine Go_pick [2, 1, 0] (ls' := [(0, gR 106), (2, gI _), (3, gI _)]) rfl ?_
          exact ih_52 (i + 1) _ (by omega) (by simp only [rd9, hx]; rw [if_neg (by omega)])
        · skip
          refine Go_iload_n 2 rfl rfl dX9_count_71 ?_
          refine Go_bipush ⟨by decide, by unfold in32; omega⟩ dX9_count_72 ?_
          refine Go_idiv (by omega) dX9_count_74 ?_
          refine Go_topI (v := ((i / 12 : Nat) : Int)) (d32n (a := i) (b := 12) (by omega) (by omega) (by omega)) ?_
          refine Go_aload_n 0 rfl rfl dX9_count_75 ?_
          refine Go_getIv (v := (nv : Int)) hC.2.1 faX9_75 sh_106 dX9_count_76 ?_
          refine Go_icmp_ge dX9_count_79 rfl (fun h79 => ?_) (fun h79 => ?_)
          · skip
            refine Go_iconst (by unfold in32; omega) dX9_count_106 ?_
            refine Go_iadd dX9_count_107 ?_
            refine Go_istore_n (ls' := [(2, gI _), (0, gR 106), (3, gI _)]) rfl dX9_count_108 (by decide) rfl ?_
            refine Go_iincn i 1 rfl rfl (by omega) 2 (ls' := [(3, gI _), (2, gI _), (0, gR 106)]) rfl dX9_count_109 (by decide) rfl ?_
            refine Go_goto dX9_count_112 rfl ?_
            refine Go_pick [2, 1, 0] (ls' := [(0, gR 106), (2, gI _), (3, gI _)]) rfl ?_
            exact ih_52 (i + 1) _ (by omega) (by simp only [rd9, hx]; rw [if_neg (by omega)])
          · skip
            refine Go_iload_n 2 rfl rfl dX9_count_82 ?_
            refine Go_bipush ⟨by decide, by unfold in32; omega⟩ dX9_count_83 ?_
            refine Go_irem (by omega) dX9_count_85 ?_
            refine Go_topI (v := ((i % 12 : Nat) : Int)) (m32n (a := i) (b := 12) (by omega) (by omega) (by omega)) ?_
            refine Go_aload_n 0 rfl rfl dX9_count_86 ?_
            refine Go_getIv (v := (nv : Int)) hC.2.1 faX9_75 sh_106 dX9_count_87 ?_
            refine Go_icmp_ge dX9_count_90 rfl (fun h90 => ?_) (fun h90 => ?_)
            · skip
              refine Go_iconst (by unfold in32; omega) dX9_count_106 ?_
              refine Go_iadd dX9_count_107 ?_
              refine Go_istore_n (ls' := [(2, gI _), (0, gR 106), (3, gI _)]) rfl dX9_count_108 (by decide) rfl ?_
              refine Go_iincn i 1 rfl rfl (by omega) 2 (ls' := [(3, gI _), (2, gI _), (0, gR 106)]) rfl dX9_count_109 (by decide) rfl ?_
              refine Go_goto dX9_count_112 rfl ?_
              refine Go_pick [2, 1, 0] (ls' := [(0, gR 106), (2, gI _), (3, gI _)]) rfl ?_
              exact ih_52 (i + 1) _ (by omega) (by simp only [rd9, hx]; rw [if_neg (by omega)])
            · skip
              refine Go_aload_n 0 rfl rfl dX9_count_93 ?_
              refine Go_getR (c' := 109) faX9_17 sh_106 (pt_106_3 (M := M) hC.1) dX9_count_94 ?_
              refine Go_iload_n 2 rfl rfl dX9_count_97 ?_
              refine Go_ialoadv i (v := M 109 (i)) rfl sh_109 rfl (by omega) dX9_count_98 ?_
              refine Go_if_le dX9_count_99 rfl (fun h99 => ?_) (fun h99 => ?_)
              · skip
                refine Go_iconst (by unfold in32; omega) dX9_count_106 ?_
                refine Go_iadd dX9_count_107 ?_
                refine Go_istore_n (ls' := [(2, gI _), (0, gR 106), (3, gI _)]) rfl dX9_count_108 (by decide) rfl ?_
                refine Go_iincn i 1 rfl rfl (by omega) 2 (ls' := [(3, gI _), (2, gI _), (0, gR 106)]) rfl dX9_count_109 (by decide) rfl ?_
                refine Go_goto dX9_count_112 rfl ?_
                refine Go_pick [2, 1, 0] (ls' := [(0, gR 106), (2, gI _), (3, gI _)]) rfl ?_
                exact ih_52 (i + 1) _ (by omega) (by simp only [rd9, hx]; rw [if_neg (by omega)])
              · skip
                refine Go_iconst (by unfold in32; omega) dX9_count_102 ?_
                refine Go_goto dX9_count_103 rfl ?_
                refine Go_iadd dX9_count_107 ?_
                refine Go_istore_n (ls' := [(2, gI _), (0, gR 106), (3, gI _)]) rfl dX9_count_108 (by decide) rfl ?_
                refine Go_iincn i 1 rfl rfl (by omega) 2 (ls' := [(3, gI _), (2, gI _), (0, gR 106)]) rfl dX9_count_109 (by decide) rfl ?_
                refine Go_goto dX9_count_112 rfl ?_
                refine Go_pick [2, 1, 0] (ls' := [(0, gR 106), (2, gI _), (3, gI _)]) rfl ?_
                exact ih_52 (i + 1) _ (by omega) (by simp only [rd9, hx]; rw [if_pos (by omega)])
  refine Go_iconst (by unfold in32; omega) dX9_count_0 ?_
  refine Go_istore_n (ls' := [(2, gI _), (0, gR 106), (1, gI _)]) rfl dX9_count_1 (by decide) rfl ?_
  refine Go_iload_n 2 rfl rfl dX9_count_2 ?_
  · refine Go_tableIn (off := 47) (tgt := 50) dX9_count_3 (by decide) (by decide) (by rfl) rfl ?_
    refine Go_iconst (by unfold in32; omega) dX9_count_50 ?_
    refine Go_istore_n (ls' := [(3, gI _), (2, gI _), (0, gR 106), (1, gI _)]) rfl dX9_count_51 (by decide) rfl ?_
    refine Go_pick [2, 1, 0] (ls' := [(0, gR 106), (2, gI _), (3, gI _)]) rfl ?_
    exact loop_52 144 0 _ (by omega) rfl
set_option maxHeartbeats 4000000 in
set_option maxRecDepth 100000 in
theorem pX9_count_3 {D : va_G} {ca : Nat → ClassId} {M : gMem} {nv np : Nat} (hC : MS M nv np) : Fn D ca mX9_count [gR 106, gI 3] SH M [gI (M 106 9)] SH (M) := by
  refine Fn_of okX9_count (Nat.le_of_ble_eq_true rfl) (Or.inr (Or.inl ⟨_, rfl, rfl⟩)) (Nat.le_refl _) (Nat.le_refl _) ?_
  refine Go_ls2 (ls' := [(0, gR 106), (1, gI _)]) rfl ?_
  have hv12 := hC.2.2.1
  have hn10 := hC.2.2.2.2
  refine Go_iconst (by unfold in32; omega) dX9_count_0 ?_
  refine Go_istore_n (ls' := [(2, gI _), (0, gR 106), (1, gI _)]) rfl dX9_count_1 (by decide) rfl ?_
  refine Go_iload_n 2 rfl rfl dX9_count_2 ?_
  · refine Go_tableIn (off := 114) (tgt := 117) dX9_count_3 (by decide) (by decide) (by rfl) rfl ?_
    refine Go_aload_n 1 rfl rfl dX9_count_117 ?_
    refine Go_getIv (v := M 106 9) rfl faX9_32 sh_106 dX9_count_118 ?_
    exact Go_ret rfl dX9_count_121
set_option maxHeartbeats 4000000 in
set_option maxRecDepth 100000 in
theorem pX9_count_4 {D : va_G} {ca : Nat → ClassId} {M : gMem} {nv np : Nat} (hC : MS M nv np) : Fn D ca mX9_count [gR 106, gI 4] SH M [gI (bs9 (M 107) nv)] SH (M) := by
  refine Fn_of okX9_count (Nat.le_of_ble_eq_true rfl) (Or.inr (Or.inl ⟨_, rfl, rfl⟩)) (Nat.le_refl _) (Nat.le_refl _) ?_
  refine Go_ls2 (ls' := [(0, gR 106), (1, gI _)]) rfl ?_
  have hv12 := hC.2.2.1
  have hn10 := hC.2.2.2.2
  have loop_124 : ∀ (k : Nat) (v : Nat) (x : Int), v + k = nv → bs9 (M 107) v = x → Go D ca none (gRm mX9_count (SH.length - SH.length) (gSz SH - gSz SH)) mX9_count 124 [(0, gR 106), (2, gI x), (3, gI (v : Int))] [] SH M [gI (bs9 (M 107) nv)] SH (M) := by
    intro k
    induction k with
    | zero =>
      intro v x he hx
      obtain rfl : nv = v := by omega
      refine Go_iload_n 2 rfl rfl dX9_count_124 ?_
      refine Go_aload_n 0 rfl rfl dX9_count_125 ?_
      refine Go_getIv (v := (nv : Int)) hC.2.1 faX9_75 sh_106 dX9_count_126 ?_
      refine Go_icmp_ge dX9_count_129 rfl (fun h129 => ?_) (fun h129 => ?_)
      · skip
        refine Go_iload_n 1 rfl rfl dX9_count_147 ?_
        exact Go_ret (by rw [← hx]) dX9_count_148
      · skip
        exact absurd h129 (by omega)
    | succ k ih_124 =>
      intro v x he hx
      refine Go_iload_n 2 rfl rfl dX9_count_124 ?_
      refine Go_aload_n 0 rfl rfl dX9_count_125 ?_
      refine Go_getIv (v := (nv : Int)) hC.2.1 faX9_75 sh_106 dX9_count_126 ?_
      refine Go_icmp_ge dX9_count_129 rfl (fun h129 => ?_) (fun h129 => ?_)
      · skip
        exact absurd h129 (by omega)
      · skip
        refine Go_iload_n 1 rfl rfl dX9_count_132 ?_
        refine Go_aload_n 0 rfl rfl dX9_count_133 ?_
        refine Go_getR (c' := 107) faX9_7 sh_106 (pt_106_1 (M := M) hC.1) dX9_count_134 ?_
        refine Go_iload_n 2 rfl rfl dX9_count_137 ?_
        refine Go_ialoadv v (v := M 107 (v)) rfl sh_107 rfl (by omega) dX9_count_138 ?_
        refine Go_iadd dX9_count_139 ?_
        refine Go_istore_n (ls' := [(2, gI _), (0, gR 106), (3, gI _)]) rfl dX9_count_140 (by decide) rfl ?_
        refine Go_iincn v 1 rfl rfl (by omega) 2 (ls' := [(3, gI _), (2, gI _), (0, gR 106)]) rfl dX9_count_141 (by decide) rfl ?_
        refine Go_goto dX9_count_144 rfl ?_
        refine Go_pick [2, 1, 0] (ls' := [(0, gR 106), (2, gI _), (3, gI _)]) rfl ?_
        exact ih_124 (v + 1) _ (by omega) (by simp only [bs9, hx])
  refine Go_iconst (by unfold in32; omega) dX9_count_0 ?_
  refine Go_istore_n (ls' := [(2, gI _), (0, gR 106), (1, gI _)]) rfl dX9_count_1 (by decide) rfl ?_
  refine Go_iload_n 2 rfl rfl dX9_count_2 ?_
  · refine Go_tableIn (off := 119) (tgt := 122) dX9_count_3 (by decide) (by decide) (by rfl) rfl ?_
    refine Go_iconst (by unfold in32; omega) dX9_count_122 ?_
    refine Go_istore_n (ls' := [(3, gI _), (2, gI _), (0, gR 106), (1, gI _)]) rfl dX9_count_123 (by decide) rfl ?_
    refine Go_pick [2, 1, 0] (ls' := [(0, gR 106), (2, gI _), (3, gI _)]) rfl ?_
    exact loop_124 nv 0 _ (by omega) rfl
set_option maxHeartbeats 4000000 in
set_option maxRecDepth 100000 in
theorem pX9_count_5 {D : va_G} {ca : Nat → ClassId} {M : gMem} {nv np : Nat} (hC : MS M nv np) : Fn D ca mX9_count [gR 106, gI 5] SH M [gI (ks9 (M 111) np)] SH (M) := by
  refine Fn_of okX9_count (Nat.le_of_ble_eq_true rfl) (Or.inr (Or.inl ⟨_, rfl, rfl⟩)) (Nat.le_refl _) (Nat.le_refl _) ?_
  refine Go_ls2 (ls' := [(0, gR 106), (1, gI _)]) rfl ?_
  have hv12 := hC.2.2.1
  have hn10 := hC.2.2.2.2
  have loop_151 : ∀ (k : Nat) (p : Nat) (x : Int), p + k = np → ks9 (M 111) p = x → Go D ca none (gRm mX9_count (SH.length - SH.length) (gSz SH - gSz SH)) mX9_count 151 [(0, gR 106), (2, gI x), (3, gI (p : Int))] [] SH M [gI (ks9 (M 111) np)] SH (M) := by
    intro k
    induction k with
    | zero =>
      intro p x he hx
      obtain rfl : np = p := by omega
      refine Go_iload_n 2 rfl rfl dX9_count_151 ?_
      refine Go_aload_n 0 rfl rfl dX9_count_152 ?_
      refine Go_getIv (v := (np : Int)) hC.2.2.2.1 faX9_78 sh_106 dX9_count_153 ?_
      refine Go_icmp_ge dX9_count_156 rfl (fun h156 => ?_) (fun h156 => ?_)
      · skip
        refine Go_iload_n 1 rfl rfl dX9_count_183 ?_
        exact Go_ret (by rw [← hx]) dX9_count_184
      · skip
        exact absurd h156 (by omega)
    | succ k ih_151 =>
      intro p x he hx
      refine Go_iload_n 2 rfl rfl dX9_count_151 ?_
      refine Go_aload_n 0 rfl rfl dX9_count_152 ?_
      refine Go_getIv (v := (np : Int)) hC.2.2.2.1 faX9_78 sh_106 dX9_count_153 ?_
      refine Go_icmp_ge dX9_count_156 rfl (fun h156 => ?_) (fun h156 => ?_)
      · skip
        exact absurd h156 (by omega)
      · skip
        refine Go_iload_n 1 rfl rfl dX9_count_159 ?_
        refine Go_aload_n 0 rfl rfl dX9_count_160 ?_
        refine Go_getR (c' := 111) faX9_23 sh_106 (pt_106_6 (M := M) hC.1) dX9_count_161 ?_
        refine Go_iload_n 2 rfl rfl dX9_count_164 ?_
        refine Go_ialoadv p (v := M 111 (p)) rfl sh_111 rfl (by omega) dX9_count_165 ?_
        refine Go_iconst (by unfold in32; omega) dX9_count_166 ?_
        refine Go_icmp_ne dX9_count_167 rfl (fun h167 => ?_) (fun h167 => ?_)
        · skip
          refine Go_iconst (by unfold in32; omega) dX9_count_174 ?_
          refine Go_iadd dX9_count_175 ?_
          refine Go_istore_n (ls' := [(2, gI _), (0, gR 106), (3, gI _)]) rfl dX9_count_176 (by decide) rfl ?_
          refine Go_iincn p 1 rfl rfl (by omega) 2 (ls' := [(3, gI _), (2, gI _), (0, gR 106)]) rfl dX9_count_177 (by decide) rfl ?_
          refine Go_goto dX9_count_180 rfl ?_
          refine Go_pick [2, 1, 0] (ls' := [(0, gR 106), (2, gI _), (3, gI _)]) rfl ?_
          exact ih_151 (p + 1) _ (by omega) (by simp only [ks9, hx]; repeat (first | rw [if_pos (by omega)] | rw [if_neg (by omega)]))
        · skip
          refine Go_iconst (by unfold in32; omega) dX9_count_170 ?_
          refine Go_goto dX9_count_171 rfl ?_
          refine Go_iadd dX9_count_175 ?_
          refine Go_istore_n (ls' := [(2, gI _), (0, gR 106), (3, gI _)]) rfl dX9_count_176 (by decide) rfl ?_
          refine Go_iincn p 1 rfl rfl (by omega) 2 (ls' := [(3, gI _), (2, gI _), (0, gR 106)]) rfl dX9_count_177 (by decide) rfl ?_
          refine Go_goto dX9_count_180 rfl ?_
          refine Go_pick [2, 1, 0] (ls' := [(0, gR 106), (2, gI _), (3, gI _)]) rfl ?_
          exact ih_151 (p + 1) _ (by omega) (by simp only [ks9, hx]; repeat (first | rw [if_pos (by omega)] | rw [if_neg (by omega)]))
  refine Go_iconst (by unfold in32; omega) dX9_count_0 ?_
  refine Go_istore_n (ls' := [(2, gI _), (0, gR 106), (1, gI _)]) rfl dX9_count_1 (by decide) rfl ?_
  refine Go_iload_n 2 rfl rfl dX9_count_2 ?_
  · refine Go_tableIn (off := 146) (tgt := 149) dX9_count_3 (by decide) (by decide) (by rfl) rfl ?_
    refine Go_iconst (by unfold in32; omega) dX9_count_149 ?_
    refine Go_istore_n (ls' := [(3, gI _), (2, gI _), (0, gR 106), (1, gI _)]) rfl dX9_count_150 (by decide) rfl ?_
    refine Go_pick [2, 1, 0] (ls' := [(0, gR 106), (2, gI _), (3, gI _)]) rfl ?_
    exact loop_151 np 0 _ (by omega) rfl
set_option maxHeartbeats 4000000 in
set_option maxRecDepth 100000 in
theorem pX9_count_bad {D : va_G} {ca : Nat → ClassId} {M : gMem} {nv np : Nat} (hC : MS M nv np) (w : Int) (h : ¬ (0 ≤ w ∧ w ≤ 5)) : Fn D ca mX9_count [gR 106, gI w] SH M [gI (-1)] SH (M) := by
  refine Fn_of okX9_count (Nat.le_of_ble_eq_true rfl) (Or.inr (Or.inl ⟨_, rfl, rfl⟩)) (Nat.le_refl _) (Nat.le_refl _) ?_
  refine Go_ls2 (ls' := [(0, gR 106), (1, gI _)]) rfl ?_
  have hv12 := hC.2.2.1
  have hn10 := hC.2.2.2.2
  refine Go_iconst (by unfold in32; omega) dX9_count_0 ?_
  refine Go_istore_n (ls' := [(2, gI _), (0, gR 106), (1, gI _)]) rfl dX9_count_1 (by decide) rfl ?_
  refine Go_iload_n 2 rfl rfl dX9_count_2 ?_
  · refine Go_tableOut (tgt := 185) dX9_count_3 (by omega) rfl ?_
    refine Go_iconst (by unfold in32; omega) dX9_count_185 ?_
    exact Go_ret rfl dX9_count_186
