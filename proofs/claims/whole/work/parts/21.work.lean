theorem cpV_out {M : gMem} {d s i : Nat} (h : i < d ∨ d + 6 < i) : cpV M d s i = M i := by
  unfold cpV
  rw [gSet_n (by omega), gSet_n (by omega), gSet_n (by omega), gSet_n (by omega), gSet_n (by omega), gSet_n (by omega), gSet_n (by omega)]
theorem cpV_0 (M : gMem) (d s : Nat) : cpV M d s d = gUp (gUp (gUp (M d) 0 (M s 0)) 1 (M s 1)) 2 (M s 2) := by
  unfold cpV
  rw [gSet_n (by omega), gSet_n (by omega), gSet_n (by omega), gSet_n (by omega), gSet_n (by omega), gSet_n (by omega), gSet_s]
theorem cpV_1 (M : gMem) (d s : Nat) : cpV M d s (d + 1) = cpr 12 (M (s + 1)) (M (d + 1)) := by
  unfold cpV
  rw [gSet_n (by omega), gSet_n (by omega), gSet_n (by omega), gSet_n (by omega), gSet_n (by omega), gSet_s]
theorem cpV_2 (M : gMem) (d s : Nat) : cpV M d s (d + 2) = cpr 144 (M (s + 2)) (M (d + 2)) := by
  unfold cpV
  rw [gSet_n (by omega), gSet_n (by omega), gSet_n (by omega), gSet_n (by omega), gSet_s]
theorem cpV_3 (M : gMem) (d s : Nat) : cpV M d s (d + 3) = cpr 10 (M (s + 3)) (M (d + 3)) := by
  unfold cpV
  rw [gSet_n (by omega), gSet_n (by omega), gSet_n (by omega), gSet_s]
theorem cpV_4 (M : gMem) (d s : Nat) : cpV M d s (d + 4) = cpr 10 (M (s + 4)) (M (d + 4)) := by
  unfold cpV
  rw [gSet_n (by omega), gSet_n (by omega), gSet_s]
theorem cpV_5 (M : gMem) (d s : Nat) : cpV M d s (d + 5) = cpr 10 (M (s + 5)) (M (d + 5)) := by
  unfold cpV
  rw [gSet_n (by omega), gSet_s]
theorem cpV_6 (M : gMem) (d s : Nat) : cpV M d s (d + 6) = cpr 10 (M (s + 6)) (M (d + 6)) := by
  unfold cpV
  rw [gSet_s]
theorem gPt_pg : ∀ n, n < 11 → gPt.all (fun q => decide (q.1 < 10 + 7 * n) || decide (10 + 7 * n + 6 < q.1) || (decide (q.1 = 10 + 7 * n) && decide (3 ≤ q.2.1))) = true := by decide +kernel
theorem gPt_1 : gPt.all (fun q => decide (q.1 < 1) || decide (1 + 6 < q.1) || (decide (q.1 = 1) && decide (3 ≤ q.2.1))) = true := by decide +kernel
theorem gPtr_cp {M : gMem} {d s : Nat} (hp : gPtr M) (h : gPt.all (fun q => decide (q.1 < d) || decide (d + 6 < q.1) || (decide (q.1 = d) && decide (3 ≤ q.2.1))) = true) : gPtr (cpV M d s) := by
  intro q hq
  have h1 := List.all_eq_true.mp h q hq
  simp only [Bool.or_eq_true, Bool.and_eq_true, decide_eq_true_eq] at h1
  rcases h1 with h1 | ⟨h1, h2⟩
  · rw [cpV_out h1]
    exact hp q hq
  · have e1 : cpV M d s q.1 q.2.1 = M q.1 q.2.1 := by
      rw [h1, cpV_0, gUp_n (by omega), gUp_n (by omega), gUp_n (by omega)]
    rw [e1]
    exact hp q hq
theorem CS_cp {M : gMem} {nv np n : Nat} (hC : CS M nv np) (hn : n < 11) : CS (cpV M (10 + 7 * n) 1) nv np := by
  refine ⟨gPtr_cp hC.1 (gPt_pg n hn), ?_, hC.2.2.1, ?_, hC.2.2.2.2⟩
  · rw [cpV_out (by omega)]; exact hC.2.1
  · rw [cpV_out (by omega)]; exact hC.2.2.2.1
theorem CS_di {M : gMem} {nv np : Nat} {f : Nat → Int} (hC : CS M nv np) (hf : f 0 = M 8 0) : CS (gSet M 8 f) nv np := CS_obj hC (by decide) (fun q hq e0 => by rw [gPt_8 q hq e0]; exact hf)
def wkW (M : gMem) (nv : Nat) : Nat → Int := meO nv (trO (M 3) nv (M 89) nv) nv
def wkM (M : gMem) (nv np : Nat) : gMem := gSet (gSet (gSet (gSet M 89 (wkW M nv)) 90 (gUp (gUp (M 90) 2 (pkF (M 5) 3 np)) 3 (pkF (M 5) 1 np))) 91 (caO (M 5) (M 7) (M 4) (wkW M nv) nv (M 91) np)) 0 (gUp (M 0) 8 0)
def dgM (M : gMem) (n k : Nat) : gMem := gSet M 8 (gUp (gUp (M 8) 1 (((n + 1) % 11 : Nat) : Int)) 2 ((min (k + 1) 10 : Nat) : Int))
def kcM (M : gMem) (n k nv np : Nat) : gMem := if likeB M (10 + 7 * n) 1 = true then M else wkM (dgM M n k) nv np
def svT (M : gMem) (nv np : Nat) : (Nat → Int) × (Nat → Int) := tkS (fun c => msB (M 90 2) (M 90 3) (M 1 2) (c : Int)) (fun c => meS (M 2) (M 5) (M 6) (M 91) nv np c) (fun c => fwS (M 2) (M 91) np c nv) (fgF (M 92)) (fgW (M 93) 10) (2 ^ np)
def svM (M : gMem) (nv np : Nat) : gMem := if M 0 8 = 0 then gSet (gSet (gSet M 92 (svT M nv np).1) 93 (svT M nv np).2) 0 (gUp (M 0) 8 1) else M
set_option maxHeartbeats 4000000 in
set_option maxRecDepth 100000 in
theorem fX8_workOut {D : va_G} {ca : Nat → ClassId} {M : gMem} {nv np : Nat} (hC : CS M nv np) (hH : ∀ p, p < np → ∃ z : Nat, z < nv ∧ M 4 p = (z : Int)) : Fn D ca mX8_workOut [gR 0] SH M [] SH (wkM M nv np) := by
  refine Fn_of okX8_workOut (Nat.le_of_ble_eq_true rfl) (Or.inl ⟨rfl, rfl⟩) (Nat.le_refl _) (Nat.le_refl _) ?_
  refine Go_ls2 (ls' := [(0, gR 0)]) rfl ?_
  refine Go_aload_n 0 rfl rfl dX8_workOut_0 ?_
  refine Go_getR (c' := 88) faX8_34 sh_0 (pt_0_3 (M := M) hC.1) dX8_workOut_1 ?_
  refine Go_aload_n 0 rfl rfl dX8_workOut_4 ?_
  refine Go_getR (c' := 1) faX8_14 sh_0 (pt_0_0 (M := M) hC.1) dX8_workOut_5 ?_
  refine Go_callV0 (q := vwCl[7]) (fX7_measure hC) cwX8_327 imX7_measure rfl rfl ⟨Nat.le_of_ble_eq_true rfl, Nat.le_of_ble_eq_true rfl⟩ sh_88 rfl (Nat.le_of_ble_eq_true rfl) sh_rf dX8_workOut_8 ?_
  refine Go_aload_n 0 rfl rfl dX8_workOut_11 ?_
  refine Go_getR (c' := 90) faX8_43 sh_0 (pt_0_4 (M := M) hC.1) dX8_workOut_12 ?_
  refine Go_aload_n 0 rfl rfl dX8_workOut_15 ?_
  refine Go_getR (c' := 88) faX8_34 sh_0 (pt_0_3 (M := M) hC.1) dX8_workOut_16 ?_
  refine Go_callV0 (q := vwCl[3]) (fX3_carry (CS_row hC rfl) hH) cwX8_330 imX3_carry rfl rfl ⟨Nat.le_of_ble_eq_true rfl, Nat.le_of_ble_eq_true rfl⟩ sh_90 rfl (Nat.le_of_ble_eq_true rfl) sh_rf dX8_workOut_19 ?_
  refine Go_aload_n 0 rfl rfl dX8_workOut_22 ?_
  refine Go_iconst (by unfold in32; omega) dX8_workOut_23 ?_
  refine Go_putZ (by first | exact Or.inl rfl | exact Or.inr rfl) fpX8_72 sh_0 dX8_workOut_24 ?_
  refine Go_M (M2 := wkM M nv np) rfl ?_
  exact Go_ret rfl dX8_workOut_27
set_option maxHeartbeats 4000000 in
set_option maxRecDepth 100000 in
theorem fX8_keepChange {D : va_G} {ca : Nat → ClassId} {M : gMem} {nv np : Nat} (hC : CS M nv np) (hH : ∀ p, p < np → ∃ z : Nat, z < nv ∧ M 4 p = (z : Int)) (n k : Nat) (hn : M 8 1 = (n : Int)) (h11 : n < 11) (hk : M 8 2 = (k : Int)) (h10 : k ≤ 10) : Fn D ca mX8_keepChange [gR 0] SH M [] SH (kcM M n k nv np) := by
  refine Fn_of okX8_keepChange (Nat.le_of_ble_eq_true rfl) (Or.inl ⟨rfl, rfl⟩) (Nat.le_refl _) (Nat.le_refl _) ?_
  refine Go_ls2 (ls' := [(0, gR 0)]) rfl ?_
  refine Go_aload_n 0 rfl rfl dX8_keepChange_0 ?_
  refine Go_getR (c' := 8) faX8_21 sh_0 (pt_0_1 (M := M) hC.1) dX8_keepChange_1 ?_
  refine Go_aload_n 0 rfl rfl dX8_keepChange_4 ?_
  refine Go_getR (c' := 1) faX8_14 sh_0 (pt_0_0 (M := M) hC.1) dX8_keepChange_5 ?_
  refine Go_callVI (q := vwCl[2]) (fX2_close hC.1 n k hn h11 hk h10) cwX8_323 imX2_close rfl rfl ⟨Nat.le_of_ble_eq_true rfl, Nat.le_of_ble_eq_true rfl⟩ sh_8 rfl (Nat.le_of_ble_eq_true rfl) sh_rf dX8_keepChange_8 ?_
  refine Go_if_eq dX8_keepChange_11 rfl (fun h11x => ?_) (fun h11x => ?_)
  · skip
    replace h11x := bI_0.mp h11x
    replace h11x : likeB M (10 + 7 * n) 1 = true := by cases e0 : likeB M (10 + 7 * n) 1 with | true => rfl | false => exact absurd (by rw [e0]; decide) h11x
    rw [show kcM M n k nv np = M from if_pos h11x, show clM M n k = M from if_pos h11x]
    exact Go_ret rfl dX8_keepChange_18
  · skip
    replace h11x := bI_n.mp h11x
    rw [show kcM M n k nv np = wkM (dgM M n k) nv np from if_neg h11x, show clM M n k = dgM M n k from if_neg h11x]
    refine Go_aload_n 0 rfl rfl dX8_keepChange_14 ?_
    refine Go_callV0 (q := vwCl[8]) (fX8_workOut (M := dgM M n k) (CS_di hC rfl) hH) cwX8_307 imX8_workOut rfl rfl ⟨Nat.le_of_ble_eq_true rfl, Nat.le_of_ble_eq_true rfl⟩ sh_0 rfl (Nat.le_of_ble_eq_true rfl) sh_rf dX8_keepChange_15 ?_
    exact Go_ret rfl dX8_keepChange_18
set_option maxHeartbeats 4000000 in
set_option maxRecDepth 100000 in
theorem fX8_surveyChoices {D : va_G} {ca : Nat → ClassId} {M : gMem} {nv np : Nat} (hC : CS M nv np) : Fn D ca mX8_surveyChoices [gR 0] SH M [] SH (svM M nv np) := by
  refine Fn_of okX8_surveyChoices (Nat.le_of_ble_eq_true rfl) (Or.inl ⟨rfl, rfl⟩) (Nat.le_refl _) (Nat.le_refl _) ?_
  refine Go_ls2 (ls' := [(0, gR 0)]) rfl ?_
  refine Go_aload_n 0 rfl rfl dX8_surveyChoices_0 ?_
  refine Go_getZv (v := M 0 8) rfl faX8_72 sh_0 dX8_surveyChoices_1 ?_
  refine Go_if_ne dX8_surveyChoices_4 rfl (fun h4 => ?_) (fun h4 => ?_)
  · skip
    rw [show svM M nv np = M from if_neg h4]
    exact Go_ret rfl dX8_surveyChoices_23
  · skip
    refine Go_aload_n 0 rfl rfl dX8_surveyChoices_7 ?_
    refine Go_getR (c' := 92) faX8_50 sh_0 (pt_0_5 (M := M) hC.1) dX8_surveyChoices_8 ?_
    refine Go_aload_n 0 rfl rfl dX8_surveyChoices_11 ?_
    refine Go_getR (c' := 90) faX8_43 sh_0 (pt_0_4 (M := M) hC.1) dX8_surveyChoices_12 ?_
    refine Go_callV0 (q := vwCl[5]) (fX5_take hC) cwX8_334 imX5_take rfl rfl ⟨Nat.le_of_ble_eq_true rfl, Nat.le_of_ble_eq_true rfl⟩ sh_92 rfl (Nat.le_of_ble_eq_true rfl) sh_rf dX8_surveyChoices_15 ?_
    refine Go_aload_n 0 rfl rfl dX8_surveyChoices_18 ?_
    refine Go_iconst (by unfold in32; omega) dX8_surveyChoices_19 ?_
    refine Go_putZ (by first | exact Or.inl rfl | exact Or.inr rfl) fpX8_72 sh_0 dX8_surveyChoices_20 ?_
    rw [show svM M nv np = _ from if_pos h4]
    exact Go_ret rfl dX8_surveyChoices_23
