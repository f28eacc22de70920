/-! village, place -/
theorem zrS_v {v : Nat} (hv : v < 12) (r : Nat → Int) : ∀ n a b, n ≤ 12 → a < 12 → b < 12 → zrS v r n (a * 12 + b) = if (a = v ∧ b < n) ∨ (b = v ∧ a < n) then 0 else r (a * 12 + b)
  | 0, a, b, _, _, _ => by rw [if_neg (by omega)]; rfl
  | n + 1, a, b, hn, ha, hb => by
    show gUp (gUp (zrS v r n) (12 * v + n) 0) (12 * n + v) 0 (a * 12 + b) = _
    by_cases q : a = n ∧ b = v
    · obtain ⟨q1, q2⟩ := q
      rw [q1, q2, show n * 12 + v = 12 * n + v by omega, gUp_s]
      exact (if_pos (by omega)).symm
    · rw [gUp_n (by omega)]
      by_cases q2 : a = v ∧ b = n
      · obtain ⟨q3, q4⟩ := q2
        rw [q3, q4, show v * 12 + n = 12 * v + n by omega, gUp_s]
        exact (if_pos (by omega)).symm
      · rw [gUp_n (by omega), zrS_v hv r n a b (by omega) ha hb]
        by_cases q5 : (a = v ∧ b < n) ∨ (b = v ∧ a < n)
        · rw [if_pos q5]
          exact (if_pos (by omega)).symm
        · rw [if_neg q5]
          exact (if_neg (by omega)).symm
theorem sp12 {j : Nat} (h : j < 144) : ∃ a b, a < 12 ∧ b < 12 ∧ j = a * 12 + b := ⟨j / 12, j % 12, by omega, by omega, by omega⟩
section MTB
variable {D : va_G} {ca : Nat → ClassId} {M X : gMem} {nv np n k nv' np' : Nat}
theorem st_village (h : InvX M nv np n k) (x : Int) : StI D ca mX8_village mX9_village [gI x] M := by
  by_cases q : 0 ≤ x ∧ x ≤ 1000
  · by_cases h12 : nv < 12
    · obtain ⟨d1, n11, d3, k10, d5⟩ := h.2.2.2.2.1
      have hV := h.2.2.1
      have hE := h.2.2.2.1
      have F8 := pX8_village (D := D) (ca := ca) h.1 (Inv_H h) n k d1 n11 d3 k10 x q h12
      have eC1 : (cpV M (10 + 7 * n) 1) 1 = M 1 := C_lo (by decide)
      have eC2 : (cpV M (10 + 7 * n) 1) 2 = M 2 := C_lo (by decide)
      generalize hXe : stM (cpV M (10 + 7 * n) 1) nv x = X at F8
      have hX : ∀ i, (i = 0 ∨ 8 ≤ i) → X i = cpV M (10 + 7 * n) 1 i := fun i hi => by
        rw [← hXe]
        unfold stM
        rw [gSet_n (by omega), gSet_n (by omega)]
      have x1 : X 1 = gUp (M 1) 0 ((nv + 1 : Nat) : Int) := by
        rw [← hXe]
        unfold stM
        rw [gSet_s, eC1]
      have x2 : X 2 = gUp (M 2) nv x := by
        rw [← hXe]
        unfold stM
        rw [gSet_n (by decide), gSet_s, eC2]
      have xo : ∀ i, i < 10 → i ≠ 1 → i ≠ 2 → X i = M i := fun i hi h1 h2 => by
        rw [← hXe]
        unfold stM
        rw [gSet_n h1, gSet_n h2, C_lo hi]
      have hC' : CS X (nv + 1) np := by rw [← hXe]; exact CS_st (CS_cp h.1 n11) h12 x
      have hl : ¬ likeB X (10 + 7 * n) 1 = true := fun z => by
        have := ((likeX hX).mp z).1
        rw [x1, gUp_s, h.1.2.1] at this
        omega
      rw [kc_n hl] at F8
      have hM1 := M1_MS (nv' := nv + 1) (np' := np) h hX hC'.1
      refine ⟨_, _, _, F8, pX9_village hM1 k (by rw [M1_m hX n11 (by decide)]; exact d5) k10 x q h12, nv + 1, np, (n + 1) % 11, min (k + 1) 10, ?_⟩
      obtain ⟨h1, h2, h3, h4, h5, h6, h7, h8, h9⟩ := hV
      have hV' : VOK (nv + 1) np (X 1 2) (X 2) (X 3) (X 4) (X 5) (X 6) (X 7) := by
        rw [x1, x2, xo 3 (by decide) (by decide) (by decide), xo 4 (by decide) (by decide) (by decide), xo 5 (by decide) (by decide) (by decide), xo 6 (by decide) (by decide) (by decide), xo 7 (by decide) (by decide) (by decide), gUp_n (by decide)]
        refine ⟨by omega, h2, h3, fun j hj => ?_, h5, h6, fun a b ha hb hab => h7 a b ha hb (by omega), fun p hp => ?_, h9⟩
        · by_cases w : j = nv
          · subst w
            rw [gUp_s]
            exact q
          · rw [gUp_n w]
            exact h4 j hj
        · obtain ⟨z, z1, z2⟩ := h8 p hp
          exact ⟨z, by omega, z2⟩
      have mo : ∀ i, i ≠ 106 → i ≠ 107 → i ≠ 108 → i ≠ 109 → vgM (kpM (wkM (dgM X n k) (nv + 1) np) k) nv x i = kpM (wkM (dgM X n k) (nv + 1) np) k i := fun i g1 g2 g3 g4 => by
        unfold vgM
        rw [gSet_n g4, gSet_n g3, gSet_n g2, gSet_n g1]
      have m6 : vgM (kpM (wkM (dgM X n k) (nv + 1) np) k) nv x 106 = gUp (kpM (wkM (dgM X n k) (nv + 1) np) k 106) 0 ((nv + 1 : Nat) : Int) := rfl
      have m7 : vgM (kpM (wkM (dgM X n k) (nv + 1) np) k) nv x 107 = gUp (M 107) nv x := by
        show gUp (kpM (wkM (dgM X n k) (nv + 1) np) k 107) nv x = _
        rw [kp_m hX n11 (by decide)]
      have m8 : vgM (kpM (wkM (dgM X n k) (nv + 1) np) k) nv x 108 = gUp (M 108) nv 0 := by
        show gUp (kpM (wkM (dgM X n k) (nv + 1) np) k 108) nv 0 = _
        rw [kp_m hX n11 (by decide)]
      have m9 : vgM (kpM (wkM (dgM X n k) (nv + 1) np) k) nv x 109 = zrS nv (M 109) 12 := by
        show zrS nv (kpM (wkM (dgM X n k) (nv + 1) np) k 109) 12 = _
        rw [kp_m hX n11 (by decide)]
      have hk := MS_kp hM1 k
      refine MUT h (hX_0 hX) (hX_d hX) hC' hV' ⟨Nat.le_succ _, Nat.le_refl _⟩ (fun p _ => by rw [xo 4 (by decide) (by decide) (by decide), xo 5 (by decide) (by decide) (by decide), xo 6 (by decide) (by decide) (by decide)]; exact ⟨rfl, rfl, rfl⟩) (fun i hi => by rw [mo i (by omega) (by omega) (by omega) (by omega), kpM_o (by omega)]) (fun i g1 g2 => mo i (by omega) (by omega) (by omega) (by omega)) (fun j hj => by rw [m6, gUp_n (by omega)]) ?_ ?_ ⟨fun v hv => ?_, fun v hv hv2 => ?_⟩
      · refine EQV_of (X := X) (fun i g1 g2 => by rw [mo i (by omega) (by omega) (by omega) (by omega), kp_x hX ⟨g1, g2⟩]) (by rw [m6, gUp_n (by decide), kp_f hX n11 (by decide), x1, gUp_n (by decide)]; exact hE.1) (fun j hj => ?_) (fun j hj => ?_) (fun p hp => ?_) (fun j hj => ?_)
        · rw [m7, x2]
          by_cases w : j = nv
          · subst w
            rw [gUp_s, gUp_s]
          · rw [gUp_n w, gUp_n w]
            exact hE.2.1 j hj
        · rw [m9, xo 3 (by decide) (by decide) (by decide)]
          obtain ⟨a, b, ha, hb, ej⟩ := sp12 hj
          rw [ej, zrS_v h12 (M 109) 12 a b (by omega) ha hb]
          by_cases w : (a = nv ∧ b < 12) ∨ (b = nv ∧ a < 12)
          · rw [if_pos w, h7 a b ha hb (by omega)]
          · rw [if_neg w]
            exact hE.2.2.1 _ (by omega)
        · rw [mo 110 (by decide) (by decide) (by decide) (by decide), mo 111 (by decide) (by decide) (by decide) (by decide), mo 112 (by decide) (by decide) (by decide) (by decide), kp_m hX n11 (by decide), kp_m hX n11 (by decide), kp_m hX n11 (by decide), xo 4 (by decide) (by decide) (by decide), xo 5 (by decide) (by decide) (by decide), xo 6 (by decide) (by decide) (by decide)]
          exact hE.2.2.2.1 p hp
        · rw [mo 113 (by decide) (by decide) (by decide) (by decide), kp_m hX n11 (by decide), xo 7 (by decide) (by decide) (by decide)]
          exact hE.2.2.2.2 j hj
      · refine ⟨?_, rfl, by omega, ?_, hk.2.2.2.2⟩
        · exact gPtr_row (i := 109) (r := zrS nv (kpM (wkM (dgM X n k) (nv + 1) np) k 109) 12) (gPtr_row (i := 108) (r := gUp (kpM (wkM (dgM X n k) (nv + 1) np) k 108) nv 0) (gPtr_row (i := 107) (r := gUp (kpM (wkM (dgM X n k) (nv + 1) np) k 107) nv x) (gPtr_up (i := 106) (j := 0) (x := ((nv + 1 : Nat) : Int)) hk.1 rfl) rfl) rfl) rfl
        · rw [m6, gUp_n (by decide)]
          exact hk.2.2.2.1
      · rw [mo 96 (by decide) (by decide) (by decide) (by decide), kp_96 hX n11, m8]
        by_cases w : v = nv
        · subst w
          rw [gUp_s, h.2.2.2.2.2.2.2.1.2 v (Nat.le_refl _) h12]
          omega
        · rw [gUp_n w]
          exact h.2.2.2.2.2.2.2.1.1 v (by omega)
      · rw [mo 96 (by decide) (by decide) (by decide) (by decide), kp_96 hX n11]
        exact h.2.2.2.2.2.2.2.1.2 v (by omega) hv2
    · exact ⟨_, _, _, pX8_village_full h.1 x q h12, pX9_village_full h.2.1 x q h12, nv, np, n, k, h⟩
  · exact ⟨_, _, _, pX8_village_bad h.1 x q, pX9_village_bad h.2.1 x q, nv, np, n, k, h⟩
theorem st_place (h : InvX M nv np n k) (v y z : Int) : StI D ca mX8_place mX9_place [gI v, gI y, gI z] M := by
  by_cases q : (0 ≤ v ∧ v ≤ (nv : Int) - 1) ∧ (0 ≤ y ∧ y ≤ 4) ∧ 0 ≤ z ∧ z ≤ 100000
  · by_cases hf : np < 10
    · obtain ⟨v, e1, hv⟩ := nat_of q.1
      subst e1
      obtain ⟨d1, n11, d3, k10, d5⟩ := h.2.2.2.2.1
      have hV := h.2.2.1
      have hE := h.2.2.2.1
      have F8 := pX8_place (D := D) (ca := ca) h.1 (Inv_H h) n k d1 n11 d3 k10 v hv y z q.2.1 q.2.2 hf
      have eC : ∀ i, i < 10 → (cpV M (10 + 7 * n) 1) i = M i := fun i hi => C_lo hi
      generalize hXe : skM (cpV M (10 + 7 * n) 1) np (v : Int) y z = X at F8
      have hX : ∀ i, (i = 0 ∨ 8 ≤ i) → X i = cpV M (10 + 7 * n) 1 i := fun i hi => by
        rw [← hXe]
        unfold skM
        rw [gSet_n (by omega), gSet_n (by omega), gSet_n (by omega), gSet_n (by omega), gSet_n (by omega)]
      have x1 : X 1 = gUp (M 1) 1 ((np + 1 : Nat) : Int) := by
        rw [← hXe]
        unfold skM
        rw [gSet_s, eC 1 (by decide)]
      have x4 : X 4 = gUp (M 4) np (v : Int) := by
        rw [← hXe]
        unfold skM
        rw [gSet_n (by decide), gSet_n (by decide), gSet_n (by decide), gSet_n (by decide), gSet_s, eC 4 (by decide)]
      have x5 : X 5 = gUp (M 5) np y := by
        rw [← hXe]
        unfold skM
        rw [gSet_n (by decide), gSet_n (by decide), gSet_n (by decide), gSet_s, eC 5 (by decide)]
      have x6 : X 6 = gUp (M 6) np z := by
        rw [← hXe]
        unfold skM
        rw [gSet_n (by decide), gSet_n (by decide), gSet_s, eC 6 (by decide)]
      have x7 : X 7 = gUp (M 7) np 20 := by
        rw [← hXe]
        unfold skM
        rw [gSet_n (by decide), gSet_s, eC 7 (by decide)]
      have xo : ∀ i, i = 2 ∨ i = 3 → X i = M i := fun i hi => by
        rw [← hXe]
        unfold skM
        rw [gSet_n (by omega), gSet_n (by omega), gSet_n (by omega), gSet_n (by omega), gSet_n (by omega), eC i (by omega)]
      have hC' : CS X nv (np + 1) := by rw [← hXe]; exact CS_sk (CS_cp h.1 n11) hf (v : Int) y z
      have hl : ¬ likeB X (10 + 7 * n) 1 = true := fun w => by
        have := ((likeX hX).mp w).2.1
        rw [x1, gUp_s, h.1.2.2.2.1] at this
        omega
      rw [kc_n hl] at F8
      have hM1 := M1_MS (nv' := nv) (np' := np + 1) h hX hC'.1
      refine ⟨_, _, _, F8, pX9_place hM1 k (by rw [M1_m hX n11 (by decide)]; exact d5) k10 (v : Int) y z q hf, nv, np + 1, (n + 1) % 11, min (k + 1) 10, ?_⟩
      obtain ⟨h1, h2, h3, h4, h5, h6, h7, h8, h9, h10, h11⟩ := hV
      have hV' : VOK nv (np + 1) (X 1 2) (X 2) (X 3) (X 4) (X 5) (X 6) (X 7) := by
        rw [x1, xo 2 (by decide), xo 3 (by decide), x4, x5, x6, x7, gUp_n (by decide)]
        refine ⟨h1, by omega, h3, h4, h5, h6, h7, fun p hp => ?_, fun p hp => ?_, fun p hp => ?_, fun p hp => ?_⟩
        · by_cases w : p = np
          · subst w
            rw [gUp_s]
            exact ⟨v, hv, rfl⟩
          · rw [gUp_n w]
            exact h8 p (by omega)
        · by_cases w : p = np
          · subst w
            rw [gUp_s]
            exact q.2.1
          · rw [gUp_n w]
            exact h9 p (by omega)
        · by_cases w : p = np
          · subst w
            rw [gUp_s]
            exact q.2.2
          · rw [gUp_n w]
            exact h10 p (by omega)
        · by_cases w : p = np
          · subst w
            rw [gUp_s]
            omega
          · rw [gUp_n w]
            exact h11 p hp
      have mo : ∀ i, i ≠ 106 → i ≠ 110 → i ≠ 111 → i ≠ 112 → i ≠ 113 → pcM (kpM (wkM (dgM X n k) nv (np + 1)) k) np (v : Int) y z i = kpM (wkM (dgM X n k) nv (np + 1)) k i := fun i g1 g2 g3 g4 g5 => by
        unfold pcM
        rw [gSet_n g1, gSet_n g5, gSet_n g4, gSet_n g3, gSet_n g2]
      have m6 : pcM (kpM (wkM (dgM X n k) nv (np + 1)) k) np (v : Int) y z 106 = gUp (kpM (wkM (dgM X n k) nv (np + 1)) k 106) 4 ((np + 1 : Nat) : Int) := rfl
      have m10 : pcM (kpM (wkM (dgM X n k) nv (np + 1)) k) np (v : Int) y z 110 = gUp (M 110) np (v : Int) := by
        show gUp (kpM (wkM (dgM X n k) nv (np + 1)) k 110) np (v : Int) = _
        rw [kp_m hX n11 (by decide)]
      have m11 : pcM (kpM (wkM (dgM X n k) nv (np + 1)) k) np (v : Int) y z 111 = gUp (M 111) np y := by
        show gUp (kpM (wkM (dgM X n k) nv (np + 1)) k 111) np y = _
        rw [kp_m hX n11 (by decide)]
      have m12 : pcM (kpM (wkM (dgM X n k) nv (np + 1)) k) np (v : Int) y z 112 = gUp (M 112) np z := by
        show gUp (kpM (wkM (dgM X n k) nv (np + 1)) k 112) np z = _
        rw [kp_m hX n11 (by decide)]
      have m13 : pcM (kpM (wkM (dgM X n k) nv (np + 1)) k) np (v : Int) y z 113 = gUp (M 113) np 20 := by
        show gUp (kpM (wkM (dgM X n k) nv (np + 1)) k 113) np 20 = _
        rw [kp_m hX n11 (by decide)]
      have hk := MS_kp hM1 k
      refine MUT h (hX_0 hX) (hX_d hX) hC' hV' ⟨Nat.le_refl _, Nat.le_succ _⟩ (fun p hp => by rw [x4, x5, x6, gUp_n (by omega), gUp_n (by omega), gUp_n (by omega)]; exact ⟨rfl, rfl, rfl⟩) (fun i hi => by rw [mo i (by omega) (by omega) (by omega) (by omega) (by omega), kpM_o (by omega)]) (fun i g1 g2 => mo i (by omega) (by omega) (by omega) (by omega) (by omega)) (fun j hj => by rw [m6, gUp_n (by omega)]) ?_ ?_ (PR_of h (by rw [mo 96 (by decide) (by decide) (by decide) (by decide) (by decide), kp_96 hX n11]) (by rw [mo 108 (by decide) (by decide) (by decide) (by decide) (by decide), kp_m hX n11 (by decide)]))
      · refine EQV_of (X := X) (fun i g1 g2 => by rw [mo i (by omega) (by omega) (by omega) (by omega) (by omega), kp_x hX ⟨g1, g2⟩]) (by rw [m6, gUp_n (by decide), kp_f hX n11 (by decide), x1, gUp_n (by decide)]; exact hE.1) (fun j hj => ?_) (fun j hj => ?_) (fun p hp => ?_) (fun j hj => ?_)
        · rw [mo 107 (by decide) (by decide) (by decide) (by decide) (by decide), kp_m hX n11 (by decide), xo 2 (by decide)]
          exact hE.2.1 j hj
        · rw [mo 109 (by decide) (by decide) (by decide) (by decide) (by decide), kp_m hX n11 (by decide), xo 3 (by decide)]
          exact hE.2.2.1 j hj
        · rw [m10, m11, m12, x4, x5, x6]
          by_cases w : p = np
          · subst w
            rw [gUp_s, gUp_s, gUp_s, gUp_s, gUp_s, gUp_s]
            exact ⟨rfl, rfl, rfl⟩
          · rw [gUp_n w, gUp_n w, gUp_n w, gUp_n w, gUp_n w, gUp_n w]
            exact hE.2.2.2.1 p (by omega)
        · rw [m13, x7]
          by_cases w : j = np
          · subst w
            rw [gUp_s, gUp_s]
          · rw [gUp_n w, gUp_n w]
            exact hE.2.2.2.2 j hj
      · refine ⟨?_, hk.2.1, hk.2.2.1, rfl, by omega⟩
        exact gPtr_up (i := 106) (j := 4) (x := ((np + 1 : Nat) : Int)) (gPtr_row (i := 113) (r := gUp (kpM (wkM (dgM X n k) nv (np + 1)) k 113) np 20) (gPtr_row (i := 112) (r := gUp (kpM (wkM (dgM X n k) nv (np + 1)) k 112) np z) (gPtr_row (i := 111) (r := gUp (kpM (wkM (dgM X n k) nv (np + 1)) k 111) np y) (gPtr_row (i := 110) (r := gUp (kpM (wkM (dgM X n k) nv (np + 1)) k 110) np (v : Int)) hk.1 rfl) rfl) rfl) rfl) rfl
    · exact ⟨_, _, _, pX8_place_full h.1 v y z q hf, pX9_place_full h.2.1 v y z q hf, nv, np, n, k, h⟩
  · exact ⟨_, _, _, pX8_place_bad h.1 v y z q, pX9_place_bad h.2.1 v y z q, nv, np, n, k, h⟩
end MTB
