def gZ : gMem := fun _ _ => 0
def M0 : gMem := mnM (gSet (bnM (gSet gZ 0 zr)) 106 zr)
set_option maxRecDepth 100000 in
theorem M0_ptr : gPtr M0 := by
  unfold gPtr
  decide +kernel
set_option maxRecDepth 100000 in
theorem M0_r : M0 2 = zr ∧ M0 3 = zr ∧ M0 7 = zr ∧ M0 96 = zr ∧ M0 107 = zr ∧ M0 109 = zr ∧ M0 113 = zr ∧ M0 116 = zr ∧ M0 115 = zr := ⟨rfl, rfl, rfl, rfl, rfl, rfl, rfl, rfl, rfl⟩
set_option maxRecDepth 100000 in
theorem M0_f : M0 1 0 = 0 ∧ M0 1 1 = 0 ∧ M0 1 2 = 3 ∧ M0 106 0 = 0 ∧ M0 106 4 = 0 ∧ M0 106 9 = 3 ∧ M0 8 1 = 0 ∧ M0 8 2 = 0 ∧ M0 106 13 = 0 ∧ M0 0 8 = 0 ∧ M0 94 1 = 0 ∧ M0 106 32 = 0 ∧ M0 95 5 = 0 ∧ M0 106 38 = 0 ∧ M0 90 2 = 0 ∧ M0 90 3 = 0 := by decide +kernel
set_option maxRecDepth 100000 in
theorem M0_c : ∀ q, q < 4 → M0 (98 + 2 * q) 0 = -1 ∧ M0 114 q = -4 ∧ M0 (98 + 2 * q) 1 = 0 := by decide +kernel
set_option maxRecDepth 100000 in
theorem M0_w : M0 99 = zr ∧ M0 101 = zr ∧ M0 103 = zr ∧ M0 105 = zr := ⟨rfl, rfl, rfl, rfl⟩
theorem Inv_M0 : Inv M0 := by
  obtain ⟨r2, r3, r7, r96, r107, r109, r113, r116, r115⟩ := M0_r
  obtain ⟨a1, a2, a3, a4, a5, a6, a7, a8, a9, a10, a11, a12, a13, a14, a15, a16⟩ := M0_f
  refine ⟨0, 0, 0, 0, ⟨M0_ptr, a1, by omega, a2, by omega⟩, ⟨M0_ptr, a4, by omega, a5, by omega⟩, ?_, ?_, ⟨a7, by omega, a8, by omega, a9⟩, fun i hi => absurd hi (Nat.not_lt_zero _), fun q hq => ?_, ⟨fun v hv => absurd hv (Nat.not_lt_zero _), fun v _ _ => by rw [r96]⟩, ⟨fun a b ha _ => absurd ha (Nat.not_lt_zero _), ⟨a15, a16⟩, fun p v hp _ => absurd hp (Nat.not_lt_zero _)⟩, Or.inl a10, ⟨a11.trans a12.symm, a13.trans a14.symm⟩⟩
  · rw [r2, r3, r7, a3]
    exact ⟨by omega, by omega, by omega, fun _ _ => (show (0 : Int) ≤ 0 ∧ (0 : Int) ≤ 1000 by decide), fun _ _ => (show (0 : Int) ≤ 0 ∧ (0 : Int) ≤ 1000 by decide), fun _ _ _ _ => rfl, fun _ _ _ _ _ => rfl, fun p hp => absurd hp (Nat.not_lt_zero _), fun p hp => absurd hp (Nat.not_lt_zero _), fun p hp => absurd hp (Nat.not_lt_zero _), fun _ _ => (show (0 : Int) ≤ 0 ∧ (0 : Int) ≤ 12000 by decide)⟩
  · refine ⟨a6.trans a3.symm, fun j _ => by rw [r107, r2], fun j _ => by rw [r109, r3], fun p hp => absurd hp (Nat.not_lt_zero _), fun j _ => by rw [r113, r7]⟩
  · obtain ⟨c1, c2, c3⟩ := M0_c q hq
    obtain ⟨w1, w2, w3, w4⟩ := M0_w
    refine ⟨Or.inl ⟨c1, c2⟩, by rw [r115, c3], ⟨0, by omega, c3⟩, fun j hj => ?_⟩
    rw [r116]
    rcases (show q = 0 ∨ q = 1 ∨ q = 2 ∨ q = 3 by omega) with e0 | e0 | e0 | e0 <;> subst e0
    · exact (congrFun w1 j).symm
    · exact (congrFun w2 j).symm
    · exact (congrFun w3 j).symm
    · exact (congrFun w4 j).symm
