set_option maxHeartbeats 4000000 in
set_option maxRecDepth 100000 in
theorem fX8_isWithin {D : va_G} {ca : Nat → ClassId} {M : gMem} (n lo hi : Int) : Fn D ca mX8_isWithin [gJ n, gJ lo, gJ hi] SH M [gI (bI (lo ≤ n ∧ n ≤ hi))] SH (M) := by
  refine Fn_of okX8_isWithin (by decide) (Or.inr (Or.inr (Or.inl ⟨_, rfl, rfl, bI_01 _⟩))) (Nat.le_refl _) (Nat.le_refl _) ?_
  refine Go_ls2 (ls' := [(0, gJ _), (2, gJ _), (4, gJ _)]) rfl ?_
  refine Go_lload_n 0 rfl rfl dX8_isWithin_0 ?_
  refine Go_lload_n 1 rfl rfl dX8_isWithin_1 ?_
  refine Go_lcmp dX8_isWithin_2 ?_
  refine Go_if_lt dX8_isWithin_3 rfl (fun h3 => ?_) (fun h3 => ?_)
  · skip
    replace h3 := cmp_lt.mp h3
    refine Go_iconst (by unfold in32; omega) dX8_isWithin_17 ?_
    exact Go_ret (by rw [bI_f (by omega)]) dX8_isWithin_18
  · skip
    replace h3 := cmp_ge.mp h3
    refine Go_lload_n 0 rfl rfl dX8_isWithin_6 ?_
    refine Go_lload 2 rfl dX8_isWithin_7 ?_
    refine Go_lcmp dX8_isWithin_9 ?_
    refine Go_if_gt dX8_isWithin_10 rfl (fun h10 => ?_) (fun h10 => ?_)
    · skip
      replace h10 := cmp_gt.mp h10
      refine Go_iconst (by unfold in32; omega) dX8_isWithin_17 ?_
      exact Go_ret (by rw [bI_f (by omega)]) dX8_isWithin_18
    · skip
      replace h10 := cmp_le.mp h10
      refine Go_iconst (by unfold in32; omega) dX8_isWithin_13 ?_
      refine Go_goto dX8_isWithin_14 rfl ?_
      exact Go_ret (by rw [bI_t (by omega)]) dX8_isWithin_18
set_option maxHeartbeats 4000000 in
set_option maxRecDepth 100000 in
theorem fX8_isIn {D : va_G} {ca : Nat → ClassId} {M : gMem} (c p : Nat) (hc : c < 2147483648) (hp : p < 31) : Fn D ca mX8_isIn [gI (c : Int), gI (p : Int)] SH M [gI (bI (c.testBit p = true))] SH (M) := by
  refine Fn_of okX8_isIn (by decide) (Or.inr (Or.inr (Or.inl ⟨_, rfl, rfl, bI_01 _⟩))) (Nat.le_refl _) (Nat.le_refl _) ?_
  refine Go_ls2 (ls' := [(0, gI _), (1, gI _)]) rfl ?_
  refine Go_iload_n 0 rfl rfl dX8_isIn_0 ?_
  refine Go_iconst (by unfold in32; omega) dX8_isIn_1 ?_
  refine Go_iload_n 1 rfl rfl dX8_isIn_2 ?_
  refine Go_ishl dX8_isIn_3 ?_
  refine Go_iand dX8_isIn_4 ?_
  refine Go_if_eq dX8_isIn_5 rfl (fun h5 => ?_) (fun h5 => ?_)
  · skip
    refine Go_iconst (by unfold in32; omega) dX8_isIn_12 ?_
    exact Go_ret (by rw [bI_f (by rw [(bit_m (by omega) hp).mp h5]; decide)]) dX8_isIn_13
  · skip
    refine Go_iconst (by unfold in32; omega) dX8_isIn_8 ?_
    refine Go_goto dX8_isIn_9 rfl ?_
    exact Go_ret (by rw [bI_t (by simpa using fun q => h5 ((bit_m (by omega) hp).mpr q))]) dX8_isIn_13
