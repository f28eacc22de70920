/-! village, loaves, road, place, reach, number -/
section MT
variable {D : va_G} {ca : Nat → ClassId} {M X : gMem} {nv np n k nv' np' : Nat}
theorem hX_0 (hX : ∀ i, (i = 0 ∨ 8 ≤ i) → X i = cpV M (10 + 7 * n) 1 i) : ∀ i, (i = 0 ∨ 8 ≤ i) → (i < 10 + 7 * n ∨ 10 + 7 * n + 6 < i) → X i = M i := fun i h1 h2 => by rw [hX i h1, cpV_out h2]
theorem hX_d (hX : ∀ i, (i = 0 ∨ 8 ≤ i) → X i = cpV M (10 + 7 * n) 1 i) : ∀ t, t ≤ 6 → X (10 + 7 * n + t) = cpV M (10 + 7 * n) 1 (10 + 7 * n + t) := fun t _ => hX _ (by omega)
theorem C_lo {i : Nat} (h : i < 10) : cpV M (10 + 7 * n) 1 i = M i := cpV_out (by omega)
theorem likeX (hX : ∀ i, (i = 0 ∨ 8 ≤ i) → X i = cpV M (10 + 7 * n) 1 i) : likeB X (10 + 7 * n) 1 = true ↔ (M 1 0 = X 1 0 ∧ M 1 1 = X 1 1 ∧ M 1 2 = X 1 2 ∧ (∀ j, j < 12 → M 2 j = X 2 j) ∧ (∀ j, j < 144 → M 3 j = X 3 j) ∧ (∀ j, j < 10 → M 7 j = X 7 j)) := by
  rw [likeB_iff]
  unfold likeV
  have e0 : X (10 + 7 * n) = gUp (gUp (gUp (M (10 + 7 * n)) 0 (M 1 0)) 1 (M 1 1)) 2 (M 1 2) := (hX _ (by omega)).trans (cpV_0 M (10 + 7 * n) 1)
  have e1 : X (10 + 7 * n + 1) = _ := (hX _ (by omega)).trans (cpV_1 M (10 + 7 * n) 1)
  have e2 : X (10 + 7 * n + 2) = _ := (hX _ (by omega)).trans (cpV_2 M (10 + 7 * n) 1)
  have e6 : X (10 + 7 * n + 6) = _ := (hX _ (by omega)).trans (cpV_6 M (10 + 7 * n) 1)
  rw [e0, e1, e2, e6, gUp_s, gUp_n (show (1 : Nat) ≠ 2 by decide), gUp_s, gUp_n (show (0 : Nat) ≠ 2 by decide), gUp_n (show (0 : Nat) ≠ 1 by decide), gUp_s]
  constructor
  · rintro ⟨a1, a2, a3, a4, a5, a6⟩
    exact ⟨a1, a2, a3, fun j hj => (cpr_lt hj).symm.trans (a4 j hj), fun j hj => (cpr_lt hj).symm.trans (a5 j hj), fun j hj => (cpr_lt hj).symm.trans (a6 j hj)⟩
  · rintro ⟨a1, a2, a3, a4, a5, a6⟩
    exact ⟨a1, a2, a3, fun j hj => (cpr_lt hj).trans (a4 j hj), fun j hj => (cpr_lt hj).trans (a5 j hj), fun j hj => (cpr_lt hj).trans (a6 j hj)⟩
/-- a call that changed nothing, but for the page that isn't kept -/
theorem NOC (h : InvX M nv np n k) (hX : ∀ i, (i = 0 ∨ 8 ≤ i) → X i = cpV M (10 + 7 * n) 1 i) (hr : ∀ i, 1 ≤ i → i ≤ 7 → X i = M i) : InvX X nv np n k := by
  have n11 := h.2.2.2.2.1.2.1
  have h0 := hX_0 hX
  have hp : gPtr X := fun q hq => by
    by_cases c : 1 ≤ q.1 ∧ q.1 ≤ 7
    · rw [hr _ c.1 c.2]
      exact h.1.1 q hq
    · rw [hX _ (by omega)]
      exact (CS_cp h.1 n11).1 q hq
  have e : ∀ i, i < 10 ∨ 86 < i → X i = M i := fun i hi => by
    by_cases c : 1 ≤ i ∧ i ≤ 7
    · exact hr i c.1 c.2
    · exact h0 i (by omega) (by omega)
  refine InvX_gen h hp (fun i hi hd => ?_) (fun j _ => by rw [e 106 (by decide)]) (CHm_eq h.2.2.2.2.2.2.1 (fun i g1 g2 => e i (by omega)) (e 114 (by decide)) (e 115 (by decide)) (e 116 (by decide))) ?_ ?_ ?_
  · by_cases c : 1 ≤ i ∧ i ≤ 7
    · exact hr i c.1 c.2
    · exact h0 i (by omega) hd
  · unfold PRm
    rw [e 96 (by decide), e 108 (by decide)]
    exact h.2.2.2.2.2.2.2.1
  · rw [e 0 (by decide)]
    exact h.2.2.2.2.2.2.2.2.2.1.imp id (fun g => SVF_eq g (by rw [e 92 (by decide)]; exact fun _ _ => rfl) (e 93 (by decide)) (by rw [e 90 (by decide)]; exact ⟨rfl, rfl⟩) (by rw [e 1 (by decide)]) (e 2 (by decide)) (e 5 (by decide)) (e 6 (by decide)) (e 91 (by decide)))
  · unfold MOm
    rw [e 94 (by decide), e 95 (by decide), e 106 (by decide)]
    exact h.2.2.2.2.2.2.2.2.2.2
/-- behind the class's change: the model's rows are M's -/
theorem M1_m (hX : ∀ i, (i = 0 ∨ 8 ≤ i) → X i = cpV M (10 + 7 * n) 1 i) (n11 : n < 11) {i : Nat} (hi : 105 < i) : wkM (dgM X n k) nv' np' i = M i := by
  rw [wk_o (by omega), dg_o (by omega), hX i (by omega), cpV_out (by omega)]
theorem M1_MS (h : InvX M nv np n k) (hX : ∀ i, (i = 0 ∨ 8 ≤ i) → X i = cpV M (10 + 7 * n) 1 i) (hp : gPtr X) : MS (wkM (dgM X n k) nv' np') nv np := by
  have e := M1_m (k := k) (nv' := nv') (np' := np') hX h.2.2.2.2.1.2.1 (i := 106) (by decide)
  exact ⟨gPtr_wk (gPtr_dg hp n k) nv' np', by rw [e]; exact h.2.1.2.1, h.2.1.2.2.1, by rw [e]; exact h.2.1.2.2.2.1, h.2.1.2.2.2.2⟩
theorem kp_m (hX : ∀ i, (i = 0 ∨ 8 ≤ i) → X i = cpV M (10 + 7 * n) 1 i) (n11 : n < 11) {i : Nat} (hi : (106 < i ∧ i < 117) ∨ 122 < i) : kpM (wkM (dgM X n k) nv' np') k i = M i := by
  rw [kpM_o (by omega), M1_m hX n11 (by omega)]
theorem kp_f (hX : ∀ i, (i = 0 ∨ 8 ≤ i) → X i = cpV M (10 + 7 * n) 1 i) (n11 : n < 11) {j : Nat} (hj : j ≠ 13) : kpM (wkM (dgM X n k) nv' np') k 106 j = M 106 j := by
  rw [kpM_f hj, M1_m hX n11 (by omega)]
theorem kc_n {X : gMem} (h : ¬ likeB X (10 + 7 * n) 1 = true) : kcM X n k nv np = wkM (dgM X n k) nv np := if_neg h
theorem kc_y {X : gMem} (h : likeB X (10 + 7 * n) 1 = true) : kcM X n k nv np = X := if_pos h
theorem kp_x (hX : ∀ i, (i = 0 ∨ 8 ≤ i) → X i = cpV M (10 + 7 * n) 1 i) {i : Nat} (hi : 1 ≤ i ∧ i ≤ 7) : kpM (wkM (dgM X n k) nv' np') k i = X i := by
  rw [kpM_o (by omega), wk_o (by omega), dg_o (by omega)]
theorem kp_96 (hX : ∀ i, (i = 0 ∨ 8 ≤ i) → X i = cpV M (10 + 7 * n) 1 i) (n11 : n < 11) : kpM (wkM (dgM X n k) nv' np') k 96 = M 96 := by
  rw [kpM_o (by omega), wk_o (by omega), dg_o (by omega), hX_0 hX 96 (by omega) (by omega)]
theorem EQV_of {M2 : gMem} (r : ∀ i, 1 ≤ i → i ≤ 7 → M2 i = X i) (a1 : M2 106 9 = X 1 2) (a2 : ∀ j, j < 12 → M2 107 j = X 2 j) (a3 : ∀ j, j < 144 → M2 109 j = X 3 j) (a4 : ∀ p, p < np → M2 110 p = X 4 p ∧ M2 111 p = X 5 p ∧ M2 112 p = X 6 p) (a5 : ∀ j, j < 10 → M2 113 j = X 7 j) : EQV M2 np := by
  unfold EQV
  rw [r 1 (by decide) (by decide), r 2 (by decide) (by decide), r 3 (by decide) (by decide), r 4 (by decide) (by decide), r 5 (by decide) (by decide), r 6 (by decide) (by decide), r 7 (by decide) (by decide)]
  exact ⟨a1, a2, a3, a4, a5⟩
theorem PR_of {M2 : gMem} (h : InvX M nv np n k) (e1 : M2 96 = M 96) (e2 : M2 108 = M 108) : PRm M2 nv := by
  unfold PRm
  rw [e1, e2]
  exact h.2.2.2.2.2.2.2.1
theorem st_loaves (h : InvX M nv np n k) (v x : Int) : StI D ca mX8_loaves mX9_loaves [gI v, gI x] M := by
  by_cases q : (0 ≤ v ∧ v ≤ (nv : Int) - 1) ∧ 0 ≤ x ∧ x ≤ 1000
  · obtain ⟨v, e1, hv⟩ := nat_of q.1
    subst e1
    obtain ⟨d1, n11, d3, k10, d5⟩ := h.2.2.2.2.1
    have hn := h.1.2.2.1
    have hV := h.2.2.1
    have hE := h.2.2.2.1
    have F8 := pX8_loaves (D := D) (ca := ca) h.1 (Inv_H h) n k d1 n11 d3 k10 v hv x q.2
    have eC2 : (cpV M (10 + 7 * n) 1) 2 = M 2 := C_lo (by decide)
    rw [eC2] at F8
    generalize hXe : gSet (cpV M (10 + 7 * n) 1) 2 (gUp (M 2) v x) = X at F8
    have hX : ∀ i, (i = 0 ∨ 8 ≤ i) → X i = cpV M (10 + 7 * n) 1 i := fun i hi => by rw [← hXe, gSet_n (by omega)]
    have x2 : X 2 = gUp (M 2) v x := by rw [← hXe, gSet_s]
    have xo : ∀ i, i < 10 → i ≠ 2 → X i = M i := fun i hi hi2 => by rw [← hXe, gSet_n hi2, C_lo hi]
    have hC' : CS X nv np := by rw [← hXe]; exact CS_row (CS_cp h.1 n11) rfl
    have e9 : M 107 v = M 2 v := hE.2.1 v (by omega)
    by_cases c : M 2 v = x
    · have hl : likeB X (10 + 7 * n) 1 = true := (likeX hX).mpr (by
        rw [xo 1 (by decide) (by decide), xo 3 (by decide) (by decide), xo 7 (by decide) (by decide), x2, ← c, gUp_id]
        exact ⟨rfl, rfl, rfl, fun _ _ => rfl, fun _ _ => rfl, fun _ _ => rfl⟩)
      rw [kc_y hl] at F8
      have hI : InvX X nv np n k := NOC h hX (fun i h1 h7 => by
        by_cases w : i = 2
        · subst w
          rw [x2, ← c, gUp_id]
        · exact xo i (by omega) w)
      refine ⟨_, _, _, F8, ?_, nv, np, n, k, hI⟩
      have ex : X 107 v = M 2 v := by rw [hX_0 hX 107 (by decide) (by omega), e9]
      rw [← ex]
      exact pX9_loaves_same hI.2.1 v hv x q.2 (ex.trans c)
    · have hl : ¬ likeB X (10 + 7 * n) 1 = true := fun z => by
        have := ((likeX hX).mp z).2.2.2.1 v (by omega)
        rw [x2, gUp_s] at this
        exact c this
      rw [kc_n hl] at F8
      have hM1 := M1_MS (nv' := nv) (np' := np) h hX hC'.1
      have ex : wkM (dgM X n k) nv np 107 v = M 2 v := by rw [M1_m hX n11 (by decide), e9]
      refine ⟨_, _, _, F8, by rw [← ex]; exact pX9_loaves hM1 k (by rw [M1_m hX n11 (by decide)]; exact d5) k10 v hv x q.2 (by rw [ex]; exact c), nv, np, (n + 1) % 11, min (k + 1) 10, ?_⟩
      have hV' : VOK nv np (X 1 2) (X 2) (X 3) (X 4) (X 5) (X 6) (X 7) := by
        rw [xo 1 (by decide) (by decide), x2, xo 3 (by decide) (by decide), xo 4 (by decide) (by decide), xo 5 (by decide) (by decide), xo 6 (by decide) (by decide), xo 7 (by decide) (by decide)]
        obtain ⟨h1, h2, h3, h4, h5⟩ := hV
        refine ⟨h1, h2, h3, fun j hj => ?_, h5⟩
        by_cases w : j = v
        · subst w
          rw [gUp_s]
          exact q.2
        · rw [gUp_n w]
          exact h4 j hj
      refine MUT h (hX_0 hX) (hX_d hX) hC' hV' ⟨Nat.le_refl _, Nat.le_refl _⟩ (fun p _ => by rw [xo 4 (by decide) (by decide), xo 5 (by decide) (by decide), xo 6 (by decide) (by decide)]; exact ⟨rfl, rfl, rfl⟩) (fun i hi => by rw [gSet_n (by omega), kpM_o (by omega)]) (fun i h1 h2 => gSet_n (by omega)) (fun j _ => by rw [gSet_n (by decide)]) ?_ (MS_row (MS_kp hM1 k) rfl) (PR_of h (by rw [gSet_n (by decide), kp_96 hX n11]) (by rw [gSet_n (by decide), kp_m hX n11 (by decide)]))
      refine EQV_of (X := X) (fun i h1 h2 => by rw [gSet_n (by omega), kp_x hX ⟨h1, h2⟩]) (by rw [gSet_n (by decide), kp_f hX n11 (by decide), xo 1 (by decide) (by decide)]; exact hE.1) (fun j hj => ?_) (fun j hj => ?_) (fun p hp => ?_) (fun j hj => ?_)
      · rw [gSet_s, kp_m hX n11 (by decide), x2]
        by_cases w : j = v
        · subst w
          rw [gUp_s, gUp_s]
        · rw [gUp_n w, gUp_n w]
          exact hE.2.1 j hj
      · rw [gSet_n (by decide), kp_m hX n11 (by decide), xo 3 (by decide) (by decide)]
        exact hE.2.2.1 j hj
      · rw [gSet_n (by decide), gSet_n (by decide), gSet_n (by decide), kp_m hX n11 (by decide), kp_m hX n11 (by decide), kp_m hX n11 (by decide), xo 4 (by decide) (by decide), xo 5 (by decide) (by decide), xo 6 (by decide) (by decide)]
        exact hE.2.2.2.1 p hp
      · rw [gSet_n (by decide), kp_m hX n11 (by decide), xo 7 (by decide) (by decide)]
        exact hE.2.2.2.2 j hj
  · exact ⟨_, _, _, pX8_loaves_bad h.1 v x q, pX9_loaves_bad h.2.1 v x q, nv, np, n, k, h⟩
theorem st_number (h : InvX M nv np n k) (x : Int) : StI D ca mX8_number mX9_number [gI x] M := by
  by_cases q : 0 ≤ x ∧ x ≤ 20
  · obtain ⟨d1, n11, d3, k10, d5⟩ := h.2.2.2.2.1
    have hV := h.2.2.1
    have hE := h.2.2.2.1
    have F8 := pX8_number (D := D) (ca := ca) h.1 (Inv_H h) n k d1 n11 d3 k10 x q
    have eC : (cpV M (10 + 7 * n) 1) 1 = M 1 := C_lo (by decide)
    rw [eC] at F8
    generalize hXe : gSet (cpV M (10 + 7 * n) 1) 1 (gUp (M 1) 2 x) = X at F8
    have hX : ∀ i, (i = 0 ∨ 8 ≤ i) → X i = cpV M (10 + 7 * n) 1 i := fun i hi => by rw [← hXe, gSet_n (by omega)]
    have x1 : X 1 = gUp (M 1) 2 x := by rw [← hXe, gSet_s]
    have xo : ∀ i, i < 10 → i ≠ 1 → X i = M i := fun i hi hi2 => by rw [← hXe, gSet_n hi2, C_lo hi]
    have hC' : CS X nv np := by
      rw [← hXe]
      have := CS_nm (CS_cp h.1 n11) x
      rw [eC] at this
      exact this
    by_cases c : M 1 2 = x
    · have hl : likeB X (10 + 7 * n) 1 = true := (likeX hX).mpr (by
        rw [xo 2 (by decide) (by decide), xo 3 (by decide) (by decide), xo 7 (by decide) (by decide), x1, ← c, gUp_id]
        exact ⟨rfl, rfl, rfl, fun _ _ => rfl, fun _ _ => rfl, fun _ _ => rfl⟩)
      rw [kc_y hl] at F8
      have hI : InvX X nv np n k := NOC h hX (fun i h1 h7 => by
        by_cases w : i = 1
        · subst w
          rw [x1, ← c, gUp_id]
        · exact xo i (by omega) w)
      refine ⟨_, _, _, F8, ?_, nv, np, n, k, hI⟩
      have ex : X 106 9 = M 1 2 := by rw [hX_0 hX 106 (by decide) (by omega), hE.1]
      rw [← ex]
      exact pX9_number_same hI.2.1 x q (ex.trans c)
    · have hl : ¬ likeB X (10 + 7 * n) 1 = true := fun z => by
        have := ((likeX hX).mp z).2.2.1
        rw [x1, gUp_s] at this
        exact c this
      rw [kc_n hl] at F8
      have hM1 := M1_MS (nv' := nv) (np' := np) h hX hC'.1
      have ex : wkM (dgM X n k) nv np 106 9 = M 1 2 := by rw [M1_m hX n11 (by decide), hE.1]
      refine ⟨_, _, _, F8, by rw [← ex]; exact pX9_number hM1 k (by rw [M1_m hX n11 (by decide)]; exact d5) k10 x q (by rw [ex]; exact c), nv, np, (n + 1) % 11, min (k + 1) 10, ?_⟩
      have hV' : VOK nv np (X 1 2) (X 2) (X 3) (X 4) (X 5) (X 6) (X 7) := by
        rw [x1, xo 2 (by decide) (by decide), xo 3 (by decide) (by decide), xo 4 (by decide) (by decide), xo 5 (by decide) (by decide), xo 6 (by decide) (by decide), xo 7 (by decide) (by decide), gUp_s]
        obtain ⟨h1, h2, h3, h4⟩ := hV
        exact ⟨h1, h2, q, h4⟩
      refine MUT h (hX_0 hX) (hX_d hX) hC' hV' ⟨Nat.le_refl _, Nat.le_refl _⟩ (fun p _ => by rw [xo 4 (by decide) (by decide), xo 5 (by decide) (by decide), xo 6 (by decide) (by decide)]; exact ⟨rfl, rfl, rfl⟩) (fun i hi => by rw [gSet_n (by omega), kpM_o (by omega)]) (fun i h1 h2 => gSet_n (by omega)) (fun j hj => by rw [gSet_s, gUp_n (by omega)]) ?_ ?_ (PR_of h (by rw [gSet_n (by decide), kp_96 hX n11]) (by rw [gSet_n (by decide), kp_m hX n11 (by decide)]))
      · refine EQV_of (X := X) (fun i h1 h2 => by rw [gSet_n (by omega), kp_x hX ⟨h1, h2⟩]) (by rw [gSet_s, gUp_s, x1, gUp_s]) (fun j hj => ?_) (fun j hj => ?_) (fun p hp => ?_) (fun j hj => ?_)
        · rw [gSet_n (by decide), kp_m hX n11 (by decide), xo 2 (by decide) (by decide)]
          exact hE.2.1 j hj
        · rw [gSet_n (by decide), kp_m hX n11 (by decide), xo 3 (by decide) (by decide)]
          exact hE.2.2.1 j hj
        · rw [gSet_n (by decide), gSet_n (by decide), gSet_n (by decide), kp_m hX n11 (by decide), kp_m hX n11 (by decide), kp_m hX n11 (by decide), xo 4 (by decide) (by decide), xo 5 (by decide) (by decide), xo 6 (by decide) (by decide)]
          exact hE.2.2.2.1 p hp
        · rw [gSet_n (by decide), kp_m hX n11 (by decide), xo 7 (by decide) (by decide)]
          exact hE.2.2.2.2 j hj
      · have hk := MS_kp hM1 k
        exact ⟨gPtr_up (i := 106) (j := 9) (x := x) hk.1 rfl, hk.2.1, hk.2.2.1, hk.2.2.2.1, hk.2.2.2.2⟩
  · exact ⟨_, _, _, pX8_number_bad h.1 x q, pX9_number_bad h.2.1 x q, nv, np, n, k, h⟩
theorem st_reach (h : InvX M nv np n k) (v x : Int) : StI D ca mX8_reach mX9_reach [gI v, gI x] M := by
  by_cases q : (0 ≤ v ∧ v ≤ (np : Int) - 1) ∧ 0 ≤ x ∧ x ≤ 12000
  · obtain ⟨v, e1, hv⟩ := nat_of q.1
    subst e1
    obtain ⟨d1, n11, d3, k10, d5⟩ := h.2.2.2.2.1
    have hn := h.1.2.2.2.2
    have hV := h.2.2.1
    have hE := h.2.2.2.1
    have e5 : M 111 v = M 5 v := (hE.2.2.2.1 v hv).2.1
    by_cases k4 : M 5 v = 4
    · have F8 := pX8_reach (D := D) (ca := ca) h.1 (Inv_H h) n k d1 n11 d3 k10 v hv x q.2 k4
      have eC2 : (cpV M (10 + 7 * n) 1) 7 = M 7 := C_lo (by decide)
      rw [eC2] at F8
      generalize hXe : gSet (cpV M (10 + 7 * n) 1) 7 (gUp (M 7) v x) = X at F8
      have hX : ∀ i, (i = 0 ∨ 8 ≤ i) → X i = cpV M (10 + 7 * n) 1 i := fun i hi => by rw [← hXe, gSet_n (by omega)]
      have x2 : X 7 = gUp (M 7) v x := by rw [← hXe, gSet_s]
      have xo : ∀ i, i < 10 → i ≠ 7 → X i = M i := fun i hi hi2 => by rw [← hXe, gSet_n hi2, C_lo hi]
      have hC' : CS X nv np := by rw [← hXe]; exact CS_row (CS_cp h.1 n11) rfl
      have e9 : M 113 v = M 7 v := hE.2.2.2.2 v (by omega)
      by_cases c : M 7 v = x
      · have hl : likeB X (10 + 7 * n) 1 = true := (likeX hX).mpr (by
          rw [xo 1 (by decide) (by decide), xo 3 (by decide) (by decide), xo 2 (by decide) (by decide), x2, ← c, gUp_id]
          exact ⟨rfl, rfl, rfl, fun _ _ => rfl, fun _ _ => rfl, fun _ _ => rfl⟩)
        rw [kc_y hl] at F8
        have hI : InvX X nv np n k := NOC h hX (fun i h1 h7 => by
          by_cases w : i = 7
          · subst w
            rw [x2, ← c, gUp_id]
          · exact xo i (by omega) w)
        refine ⟨_, _, _, F8, ?_, nv, np, n, k, hI⟩
        have ex : X 113 v = M 7 v := by rw [hX_0 hX 113 (by decide) (by omega), e9]
        rw [← ex]
        exact pX9_reach_same hI.2.1 v hv x q.2 (by rw [hX_0 hX 111 (by decide) (by omega), e5]; exact k4) (ex.trans c)
      · have hl : ¬ likeB X (10 + 7 * n) 1 = true := fun z => by
          have := ((likeX hX).mp z).2.2.2.2.2 v (by omega)
          rw [x2, gUp_s] at this
          exact c this
        rw [kc_n hl] at F8
        have hM1 := M1_MS (nv' := nv) (np' := np) h hX hC'.1
        have ex : wkM (dgM X n k) nv np 113 v = M 7 v := by rw [M1_m hX n11 (by decide), e9]
        refine ⟨_, _, _, F8, by rw [← ex]; exact pX9_reach hM1 k (by rw [M1_m hX n11 (by decide)]; exact d5) k10 v hv x q.2 (by rw [M1_m hX n11 (by decide), e5]; exact k4) (by rw [ex]; exact c), nv, np, (n + 1) % 11, min (k + 1) 10, ?_⟩
        have hV' : VOK nv np (X 1 2) (X 2) (X 3) (X 4) (X 5) (X 6) (X 7) := by
          rw [xo 1 (by decide) (by decide), x2, xo 3 (by decide) (by decide), xo 4 (by decide) (by decide), xo 5 (by decide) (by decide), xo 6 (by decide) (by decide), xo 2 (by decide) (by decide)]
          obtain ⟨h1, h2, h3, h4, h5, h6, h7, h8, h9, h10, h11⟩ := hV
          refine ⟨h1, h2, h3, h4, h5, h6, h7, h8, h9, h10, fun j hj => ?_⟩
          by_cases w : j = v
          · subst w
            rw [gUp_s]
            exact q.2
          · rw [gUp_n w]
            exact h11 j hj
        refine MUT h (hX_0 hX) (hX_d hX) hC' hV' ⟨Nat.le_refl _, Nat.le_refl _⟩ (fun p _ => by rw [xo 4 (by decide) (by decide), xo 5 (by decide) (by decide), xo 6 (by decide) (by decide)]; exact ⟨rfl, rfl, rfl⟩) (fun i hi => by rw [gSet_n (by omega), kpM_o (by omega)]) (fun i h1 h2 => gSet_n (by omega)) (fun j _ => by rw [gSet_n (by decide)]) ?_ (MS_row (MS_kp hM1 k) rfl) (PR_of h (by rw [gSet_n (by decide), kp_96 hX n11]) (by rw [gSet_n (by decide), kp_m hX n11 (by decide)]))
        refine EQV_of (X := X) (fun i h1 h2 => by rw [gSet_n (by omega), kp_x hX ⟨h1, h2⟩]) (by rw [gSet_n (by decide), kp_f hX n11 (by decide), xo 1 (by decide) (by decide)]; exact hE.1) (fun j hj => ?_) (fun j hj => ?_) (fun p hp => ?_) (fun j hj => ?_)
        · rw [gSet_n (by decide), kp_m hX n11 (by decide), xo 2 (by decide) (by decide)]
          exact hE.2.1 j hj
        · rw [gSet_n (by decide), kp_m hX n11 (by decide), xo 3 (by decide) (by decide)]
          exact hE.2.2.1 j hj
        · rw [gSet_n (by decide), gSet_n (by decide), gSet_n (by decide), kp_m hX n11 (by decide), kp_m hX n11 (by decide), kp_m hX n11 (by decide), xo 4 (by decide) (by decide), xo 5 (by decide) (by decide), xo 6 (by decide) (by decide)]
          exact hE.2.2.2.1 p hp
        · rw [gSet_s, kp_m hX n11 (by decide), x2]
          by_cases w : j = v
          · subst w
            rw [gUp_s, gUp_s]
          · rw [gUp_n w, gUp_n w]
            exact hE.2.2.2.2 j hj
    · exact ⟨_, _, _, pX8_reach_st h.1 v hv x q.2 k4, pX9_reach_st h.2.1 v hv x q.2 (by rw [e5]; exact k4), nv, np, n, k, h⟩
  · exact ⟨_, _, _, pX8_reach_bad h.1 v x q, pX9_reach_bad h.2.1 v x q, nv, np, n, k, h⟩
/-- a road paved keeps the table's form -/
theorem VOK_pave {num : Int} {B L H K U Q : Nat → Int} (hV : VOK nv np num B L H K U Q) {a b : Nat} (ha : a < nv) (hb : b < nv) {z : Int} (hz : 0 ≤ z ∧ z ≤ 1000) : VOK nv np num B (gUp (gUp L (a * 12 + b) z) (b * 12 + a) z) H K U Q := by
  obtain ⟨h1, h2, h3, h4, h5, h6, h7, h8⟩ := hV
  refine ⟨h1, h2, h3, h4, fun j hj => ?_, fun x y hx hy => ?_, fun x y hx hy hxy => ?_, h8⟩
  · by_cases c : j = b * 12 + a
    · rw [c, gUp_s]
      exact hz
    · rw [gUp_n c]
      by_cases c2 : j = a * 12 + b
      · rw [c2, gUp_s]
        exact hz
      · rw [gUp_n c2]
        exact h5 j hj
  · by_cases c : (x = a ∧ y = b) ∨ (x = b ∧ y = a)
    · have e1 : gUp (gUp L (a * 12 + b) z) (b * 12 + a) z (x * 12 + y) = z := by
        rcases c with ⟨c1, c2⟩ | ⟨c1, c2⟩
        · by_cases w : a * 12 + b = b * 12 + a
          · rw [c1, c2, w, gUp_s]
          · rw [c1, c2, gUp_n w, gUp_s]
        · rw [c1, c2, gUp_s]
      have e2 : gUp (gUp L (a * 12 + b) z) (b * 12 + a) z (y * 12 + x) = z := by
        rcases c with ⟨c1, c2⟩ | ⟨c1, c2⟩
        · rw [c1, c2, gUp_s]
        · by_cases w : a * 12 + b = b * 12 + a
          · rw [c1, c2, w, gUp_s]
          · rw [c1, c2, gUp_n w, gUp_s]
      rw [e1, e2]
    · rw [gUp_n (by omega), gUp_n (by omega), gUp_n (by omega), gUp_n (by omega)]
      exact h6 x y hx hy
  · rw [gUp_n (by omega), gUp_n (by omega)]
    exact h7 x y hx hy hxy
theorem st_road (h : InvX M nv np n k) (a b z : Int) : StI D ca mX8_road mX9_road [gI a, gI b, gI z] M := by
  by_cases q : (0 ≤ a ∧ a ≤ (nv : Int) - 1) ∧ (0 ≤ b ∧ b ≤ (nv : Int) - 1) ∧ a ≠ b ∧ 0 ≤ z ∧ z ≤ 1000
  · obtain ⟨a, e1, ha⟩ := nat_of q.1
    obtain ⟨b, e2, hb⟩ := nat_of q.2.1
    subst e1
    subst e2
    have hab : a ≠ b := fun w => q.2.2.1 (by rw [w])
    have hz := q.2.2.2
    obtain ⟨d1, n11, d3, k10, d5⟩ := h.2.2.2.2.1
    have hn := h.1.2.2.1
    have hV := h.2.2.1
    have hE := h.2.2.2.1
    have hsy := hV.2.2.2.2.2.1
    have F8 := pX8_road (D := D) (ca := ca) h.1 (Inv_H h) n k d1 n11 d3 k10 a b ha hb hab z hz
    have eC2 : (cpV M (10 + 7 * n) 1) 3 = M 3 := C_lo (by decide)
    rw [eC2] at F8
    generalize hXe : gSet (cpV M (10 + 7 * n) 1) 3 (gUp (gUp (M 3) (a * 12 + b) z) (b * 12 + a) z) = X at F8
    have hX : ∀ i, (i = 0 ∨ 8 ≤ i) → X i = cpV M (10 + 7 * n) 1 i := fun i hi => by rw [← hXe, gSet_n (by omega)]
    have x2 : X 3 = gUp (gUp (M 3) (a * 12 + b) z) (b * 12 + a) z := by rw [← hXe, gSet_s]
    have xo : ∀ i, i < 10 → i ≠ 3 → X i = M i := fun i hi hi2 => by rw [← hXe, gSet_n hi2, C_lo hi]
    have hC' : CS X nv np := by rw [← hXe]; exact CS_row (CS_cp h.1 n11) rfl
    have e9 : M 109 (12 * a + b) = M 3 (a * 12 + b) := by rw [hE.2.2.1 _ (by omega), Nat.mul_comm]
    by_cases c : M 3 (a * 12 + b) = z
    · have x3 : X 3 = M 3 := by
        have c2 : M 3 (b * 12 + a) = z := by rw [← hsy a b (by omega) (by omega)]; exact c
        rw [x2]
        rw [show gUp (M 3) (a * 12 + b) z = M 3 by rw [← c]; exact gUp_id _ _]
        rw [← c2]
        exact gUp_id _ _
      have hl : likeB X (10 + 7 * n) 1 = true := (likeX hX).mpr (by
        rw [xo 1 (by decide) (by decide), xo 2 (by decide) (by decide), xo 7 (by decide) (by decide), x3]
        exact ⟨rfl, rfl, rfl, fun _ _ => rfl, fun _ _ => rfl, fun _ _ => rfl⟩)
      rw [kc_y hl] at F8
      have hI : InvX X nv np n k := NOC h hX (fun i h1 h7 => by
        by_cases w : i = 3
        · subst w
          exact x3
        · exact xo i (by omega) w)
      refine ⟨_, _, _, F8, ?_, nv, np, n, k, hI⟩
      have ex : X 109 (12 * a + b) = M 3 (a * 12 + b) := by rw [hX_0 hX 109 (by decide) (by omega), e9]
      rw [← ex]
      exact pX9_road_same hI.2.1 a b ha hb hab z hz (ex.trans c)
    · have hl : ¬ likeB X (10 + 7 * n) 1 = true := fun w => by
        have := ((likeX hX).mp w).2.2.2.2.1 (b * 12 + a) (by omega)
        rw [x2, gUp_s, ← hsy a b (by omega) (by omega)] at this
        exact c this
      rw [kc_n hl] at F8
      have hM1 := M1_MS (nv' := nv) (np' := np) h hX hC'.1
      have ex : wkM (dgM X n k) nv np 109 (12 * a + b) = M 3 (a * 12 + b) := by rw [M1_m hX n11 (by decide), e9]
      refine ⟨_, _, _, F8, by rw [← ex]; exact pX9_road hM1 k (by rw [M1_m hX n11 (by decide)]; exact d5) k10 a b ha hb hab z hz (by rw [ex]; exact c), nv, np, (n + 1) % 11, min (k + 1) 10, ?_⟩
      have hV' : VOK nv np (X 1 2) (X 2) (X 3) (X 4) (X 5) (X 6) (X 7) := by
        rw [xo 1 (by decide) (by decide), x2, xo 2 (by decide) (by decide), xo 4 (by decide) (by decide), xo 5 (by decide) (by decide), xo 6 (by decide) (by decide), xo 7 (by decide) (by decide)]
        exact VOK_pave hV ha hb hz
      refine MUT h (hX_0 hX) (hX_d hX) hC' hV' ⟨Nat.le_refl _, Nat.le_refl _⟩ (fun p _ => by rw [xo 4 (by decide) (by decide), xo 5 (by decide) (by decide), xo 6 (by decide) (by decide)]; exact ⟨rfl, rfl, rfl⟩) (fun i hi => by rw [gSet_n (by omega), kpM_o (by omega)]) (fun i h1 h2 => gSet_n (by omega)) (fun j _ => by rw [gSet_n (by decide)]) ?_ (MS_row (MS_kp hM1 k) rfl) (PR_of h (by rw [gSet_n (by decide), kp_96 hX n11]) (by rw [gSet_n (by decide), kp_m hX n11 (by decide)]))
      refine EQV_of (X := X) (fun i h1 h2 => by rw [gSet_n (by omega), kp_x hX ⟨h1, h2⟩]) (by rw [gSet_n (by decide), kp_f hX n11 (by decide), xo 1 (by decide) (by decide)]; exact hE.1) (fun j hj => ?_) (fun j hj => ?_) (fun p hp => ?_) (fun j hj => ?_)
      · rw [gSet_n (by decide), kp_m hX n11 (by decide), xo 2 (by decide) (by decide)]
        exact hE.2.1 j hj
      · rw [gSet_s, kp_m hX n11 (by decide), x2, show 12 * a + b = a * 12 + b by omega, show 12 * b + a = b * 12 + a by omega]
        by_cases w : j = b * 12 + a
        · rw [w, gUp_s, gUp_s]
        · rw [gUp_n w, gUp_n w]
          by_cases w2 : j = a * 12 + b
          · rw [w2, gUp_s, gUp_s]
          · rw [gUp_n w2, gUp_n w2]
            exact hE.2.2.1 j hj
      · rw [gSet_n (by decide), gSet_n (by decide), gSet_n (by decide), kp_m hX n11 (by decide), kp_m hX n11 (by decide), kp_m hX n11 (by decide), xo 4 (by decide) (by decide), xo 5 (by decide) (by decide), xo 6 (by decide) (by decide)]
        exact hE.2.2.2.1 p hp
      · rw [gSet_n (by decide), kp_m hX n11 (by decide), xo 7 (by decide) (by decide)]
        exact hE.2.2.2.2 j hj
  · exact ⟨_, _, _, pX8_road_bad h.1 a b z q, pX9_road_bad h.2.1 a b z q, nv, np, n, k, h⟩
end MT
