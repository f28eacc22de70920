/-! calls that change the valley: what they have in common -/
theorem VOK_congr {nv np : Nat} {num num' : Int} {B B' L L' H H' K K' U U' Q Q' : Nat → Int} (h : VOK nv np num B L H K U Q) (e0 : num' = num) (eB : ∀ j, j < 12 → B' j = B j) (eL : ∀ j, j < 144 → L' j = L j) (eH : ∀ p, p < np → H' p = H p ∧ K' p = K p ∧ U' p = U p) (eQ : ∀ p, p < 10 → Q' p = Q p) : VOK nv np num' B' L' H' K' U' Q' := by
  obtain ⟨h1, h2, h3, h4, h5, h6, h7, h8, h9, h10, h11⟩ := h
  refine ⟨h1, h2, by rw [e0]; exact h3, fun j hj => by rw [eB j hj]; exact h4 j hj, fun j hj => by rw [eL j hj]; exact h5 j hj, fun a b ha hb => ?_, fun a b ha hb hab => ?_, fun p hp => by rw [(eH p hp).1]; exact h8 p hp, fun p hp => by rw [(eH p hp).2.1]; exact h9 p hp, fun p hp => by rw [(eH p hp).2.2]; exact h10 p hp, fun p hp => by rw [eQ p hp]; exact h11 p hp⟩
  · rw [eL _ (by omega), eL _ (by omega)]
    exact h6 a b ha hb
  · rw [eL _ (by omega)]
    exact h7 a b ha hb hab
theorem cpr_lt {n j : Nat} {f g : Nat → Int} (h : j < n) : cpr n f g j = f j := if_pos h
theorem shS9_v {d : Nat} (hd : 0 < d) (r : Nat → Int) : ∀ n i, shS9 d r n i = if i < n then r (i + d) else r i
  | 0, i => by rw [if_neg (by omega)]; rfl
  | n + 1, i => by
    show gUp (shS9 d r n) n (shS9 d r n (n + d)) i = _
    rw [shS9_v hd r n (n + d), if_neg (by omega)]
    by_cases q : i = n
    · subst q
      rw [gUp_s, if_pos (by omega)]
    · rw [gUp_n q, shS9_v hd r n i]
      by_cases q2 : i < n
      · rw [if_pos q2, if_pos (by omega)]
      · rw [if_neg q2, if_neg (by omega)]
theorem ptS_v (s : Nat → Int) (b : Nat) (r : Nat → Int) : ∀ n j, ptS s b r n j = if b ≤ j ∧ j < b + n then s (j - b) else r j
  | 0, j => by rw [if_neg (by omega)]; rfl
  | n + 1, j => by
    show gUp (ptS s b r n) (b + n) (s n) j = _
    by_cases q : j = b + n
    · subst q
      rw [gUp_s, if_pos (by omega), show b + n - b = n by omega]
    · rw [gUp_n q, ptS_v s b r n j]
      by_cases q2 : b ≤ j ∧ j < b + n
      · rw [if_pos q2, if_pos (by omega)]
      · rw [if_neg q2, if_neg (by omega)]
theorem gtS_v (s : Nat → Int) (b : Nat) (r : Nat → Int) : ∀ n j, gtS s b r n j = if j < n then s (b + j) else r j
  | 0, j => by rw [if_neg (by omega)]; rfl
  | n + 1, j => by
    show gUp (gtS s b r n) n (s (b + n)) j = _
    by_cases q : j = n
    · subst q
      rw [gUp_s, if_pos (by omega)]
    · rw [gUp_n q, gtS_v s b r n j]
      by_cases q2 : j < n
      · rw [if_pos q2, if_pos (by omega)]
      · rw [if_neg q2, if_neg (by omega)]
/-- what keep leaves: the new slot is the valley, the older ones are where they were, or one lower -/
theorem kp_13 (M : gMem) {k : Nat} (hk : k ≤ 10) : kpM M k 106 13 = ((min (k + 1) 10 : Nat) : Int) := by
  unfold kpM
  by_cases q : k = 10
  · subst q
    rw [if_pos rfl]
    rfl
  · rw [if_neg q, show min (k + 1) 10 = k + 1 by omega]
    rfl
theorem kp_new (M : gMem) {k : Nat} (hk : k ≤ 10) : kpM M k 117 (min (k + 1) 10 - 1) = M 106 0 ∧ kpM M k 120 (min (k + 1) 10 - 1) = M 106 4 ∧ kpM M k 122 (min (k + 1) 10 - 1) = M 106 9 ∧ (∀ j, j < 12 → kpM M k 118 (12 * (min (k + 1) 10 - 1) + j) = M 107 j) ∧ (∀ j, j < 144 → kpM M k 119 (144 * (min (k + 1) 10 - 1) + j) = M 109 j) ∧ (∀ j, j < 10 → kpM M k 121 (10 * (min (k + 1) 10 - 1) + j) = M 113 j) := by
  have W : ∀ (N : gMem) (t : Nat), kpW N t 117 t = N 106 0 ∧ kpW N t 120 t = N 106 4 ∧ kpW N t 122 t = N 106 9 ∧ (∀ j, j < 12 → kpW N t 118 (12 * t + j) = N 107 j) ∧ (∀ j, j < 144 → kpW N t 119 (144 * t + j) = N 109 j) ∧ (∀ j, j < 10 → kpW N t 121 (10 * t + j) = N 113 j) := fun N t => by
    refine ⟨gUp_s _ _ _, gUp_s _ _ _, gUp_s _ _ _, fun j hj => ?_, fun j hj => ?_, fun j hj => ?_⟩
    · show ptS (N 107) (12 * t) (N 118) 12 (12 * t + j) = _
      rw [ptS_v, if_pos (by omega), show 12 * t + j - 12 * t = j by omega]
    · show ptS (N 109) (144 * t) (N 119) 144 (144 * t + j) = _
      rw [ptS_v, if_pos (by omega), show 144 * t + j - 144 * t = j by omega]
    · show ptS (N 113) (10 * t) (N 121) 10 (10 * t + j) = _
      rw [ptS_v, if_pos (by omega), show 10 * t + j - 10 * t = j by omega]
  unfold kpM
  by_cases q : k = 10
  · subst q
    rw [if_pos rfl]
    exact W (shM9 M) 9
  · rw [if_neg q, show min (k + 1) 10 - 1 = k by omega]
    exact W M k
theorem kp_old (M : gMem) {k i : Nat} (hk : k ≤ 10) (hi : i < k) (hi2 : i + 1 < min (k + 1) 10) : kpM M k 117 (min (k + 1) 10 - 1 - (i + 1)) = M 117 (k - 1 - i) ∧ kpM M k 120 (min (k + 1) 10 - 1 - (i + 1)) = M 120 (k - 1 - i) ∧ kpM M k 122 (min (k + 1) 10 - 1 - (i + 1)) = M 122 (k - 1 - i) ∧ (∀ j, j < 12 → kpM M k 118 (12 * (min (k + 1) 10 - 1 - (i + 1)) + j) = M 118 (12 * (k - 1 - i) + j)) ∧ (∀ j, j < 144 → kpM M k 119 (144 * (min (k + 1) 10 - 1 - (i + 1)) + j) = M 119 (144 * (k - 1 - i) + j)) ∧ (∀ j, j < 10 → kpM M k 121 (10 * (min (k + 1) 10 - 1 - (i + 1)) + j) = M 121 (10 * (k - 1 - i) + j)) := by
  have W : ∀ (N : gMem) (t s : Nat), s < t → kpW N t 117 s = N 117 s ∧ kpW N t 120 s = N 120 s ∧ kpW N t 122 s = N 122 s ∧ (∀ j, j < 12 → kpW N t 118 (12 * s + j) = N 118 (12 * s + j)) ∧ (∀ j, j < 144 → kpW N t 119 (144 * s + j) = N 119 (144 * s + j)) ∧ (∀ j, j < 10 → kpW N t 121 (10 * s + j) = N 121 (10 * s + j)) := fun N t s hs => by
    refine ⟨gUp_n (by omega), gUp_n (by omega), gUp_n (by omega), fun j hj => ?_, fun j hj => ?_, fun j hj => ?_⟩
    · show ptS (N 107) (12 * t) (N 118) 12 (12 * s + j) = _
      rw [ptS_v, if_neg (by omega)]
    · show ptS (N 109) (144 * t) (N 119) 144 (144 * s + j) = _
      rw [ptS_v, if_neg (by omega)]
    · show ptS (N 113) (10 * t) (N 121) 10 (10 * s + j) = _
      rw [ptS_v, if_neg (by omega)]
  unfold kpM
  by_cases q : k = 10
  · subst q
    rw [if_pos rfl, show min (10 + 1) 10 - 1 - (i + 1) = 8 - i by omega, show 10 - 1 - i = 8 - i + 1 by omega]
    obtain ⟨a1, a2, a3, a4, a5, a6⟩ := W (shM9 M) 9 (8 - i) (by omega)
    refine ⟨a1.trans ?_, a2.trans ?_, a3.trans ?_, fun j hj => (a4 j hj).trans ?_, fun j hj => (a5 j hj).trans ?_, fun j hj => (a6 j hj).trans ?_⟩
    · show shS9 1 (M 117) 9 (8 - i) = _
      rw [shS9_v (by decide), if_pos (by omega)]
    · show shS9 1 (M 120) 9 (8 - i) = _
      rw [shS9_v (by decide), if_pos (by omega)]
    · show shS9 1 (M 122) 9 (8 - i) = _
      rw [shS9_v (by decide), if_pos (by omega)]
    · show shS9 12 (M 118) 108 (12 * (8 - i) + j) = _
      rw [shS9_v (by decide), if_pos (by omega)]
      congr 1
      omega
    · show shS9 144 (M 119) 1296 (144 * (8 - i) + j) = _
      rw [shS9_v (by decide), if_pos (by omega)]
      congr 1
      omega
    · show shS9 10 (M 121) 90 (10 * (8 - i) + j) = _
      rw [shS9_v (by decide), if_pos (by omega)]
      congr 1
      omega
  · rw [if_neg q, show min (k + 1) 10 - 1 - (i + 1) = k - 1 - i by omega]
    exact W M k (k - 1 - i) (by omega)
theorem gPtr_dg {X : gMem} (hp : gPtr X) (n k : Nat) : gPtr (dgM X n k) := gPtr_di hp rfl
theorem gPt_wk : ∀ q ∈ gPt, q.1 ≠ 89 ∧ q.1 ≠ 91 ∧ (q.1 = 90 → q.2.1 < 2) ∧ (q.1 = 0 → q.2.1 < 8) := by decide +kernel
theorem gPtr_wk {Z : gMem} (hp : gPtr Z) (nv np : Nat) : gPtr (wkM Z nv np) := by
  unfold wkM
  refine gPtr_set (gPtr_set (gPtr_set (gPtr_set hp (fun q hq e0 => absurd e0 (gPt_wk q hq).1)) (fun q hq e0 => ?_)) (fun q hq e0 => absurd e0 (gPt_wk q hq).2.1)) (fun q hq e0 => ?_)
  · have := (gPt_wk q hq).2.2.1 e0
    rw [gUp_n (by omega), gUp_n (by omega)]
    rfl
  · have := (gPt_wk q hq).2.2.2 e0
    rw [gUp_n (by omega)]
    rfl
theorem wk_o {Z : gMem} {nv np i : Nat} (h : i ≠ 0 ∧ i ≠ 89 ∧ i ≠ 90 ∧ i ≠ 91) : wkM Z nv np i = Z i := by
  unfold wkM
  rw [gSet_n h.1, gSet_n h.2.2.2, gSet_n h.2.2.1, gSet_n h.2.1]
theorem dg_o {X : gMem} {n k i : Nat} (h : i ≠ 8) : dgM X n k i = X i := by
  unfold dgM
  rw [gSet_n h]
/-- the derived cells, worked out anew -/
theorem wk_DV {Z : gMem} {nv np : Nat} (hV : VOK nv np (Z 1 2) (Z 2) (Z 3) (Z 4) (Z 5) (Z 6) (Z 7)) : DVm (wkM Z nv np) nv np := by
  obtain ⟨h1, h2, h3, h4, h5, h6, h7, h8, h9, h10, h11⟩ := hV
  refine ⟨fun a b ha hb => ?_, ⟨rfl, rfl⟩, fun p v hp hv => ?_⟩
  · show wkW Z nv (a * 12 + b) = phI (dsF (Z 3) nv a b)
    exact wk_D h5 h1 ha hb
  · show caO (Z 5) (Z 7) (Z 4) (wkW Z nv) nv (Z 91) np (p * 12 + v) = phI (crF (Z 3) (Z 4) (Z 5) (Z 7) nv p v)
    rw [caO_v _ _ _ _ _ _ h1 np p v hv, if_pos hp]
    obtain ⟨z, hz, ez⟩ := h8 p hp
    unfold crF
    rw [ez, Int.toNat_natCast, show wkW Z nv (z * 12 + v) = phI (dsF (Z 3) nv z v) from wk_D h5 h1 hz hv]
    exact cv_mc (dsF_bd h5 h1 z v)
/-- a call that changed the valley -/
theorem MUT {M X M2 : gMem} {nv np n k nv' np' : Nat} (h : InvX M nv np n k)
    (hX0 : ∀ i, (i = 0 ∨ 8 ≤ i) → (i < 10 + 7 * n ∨ 10 + 7 * n + 6 < i) → X i = M i) (hXd : ∀ t, t ≤ 6 → X (10 + 7 * n + t) = cpV M (10 + 7 * n) 1 (10 + 7 * n + t)) (hC' : CS X nv' np') (hV' : VOK nv' np' (X 1 2) (X 2) (X 3) (X 4) (X 5) (X 6) (X 7)) (hnp : nv ≤ nv' ∧ np ≤ np') (hmono : ∀ p, p < np → X 4 p = M 4 p ∧ X 5 p = M 5 p ∧ X 6 p = M 6 p)
    (h2 : ∀ i, i < 106 → M2 i = wkM (dgM X n k) nv' np' i) (h2b : ∀ i, 114 ≤ i → i ≤ 122 → M2 i = kpM (wkM (dgM X n k) nv' np') k i) (h2c : ∀ j, j = 13 ∨ j = 32 ∨ j = 38 → M2 106 j = kpM (wkM (dgM X n k) nv' np') k 106 j) (hE : EQV M2 np') (hM2 : MS M2 nv' np') (hP : PRm M2 nv') : InvX M2 nv' np' ((n + 1) % 11) (min (k + 1) 10) := by
  obtain ⟨d1, n11, d3, k10, d5⟩ := h.2.2.2.2.1
  have X1 : ∀ i, i ≠ 0 → i ≠ 8 → i ≠ 89 → i ≠ 90 → i ≠ 91 → i < 106 → M2 i = X i := fun i g0 g8 g1 g2 g3 g4 => by rw [h2 i g4, wk_o ⟨g0, g1, g2, g3⟩, dg_o g8]
  have r1 := X1 1 (by decide) (by decide) (by decide) (by decide) (by decide) (by decide)
  have r2 := X1 2 (by decide) (by decide) (by decide) (by decide) (by decide) (by decide)
  have r3 := X1 3 (by decide) (by decide) (by decide) (by decide) (by decide) (by decide)
  have r4 := X1 4 (by decide) (by decide) (by decide) (by decide) (by decide) (by decide)
  have r5 := X1 5 (by decide) (by decide) (by decide) (by decide) (by decide) (by decide)
  have r6 := X1 6 (by decide) (by decide) (by decide) (by decide) (by decide) (by decide)
  have r7 := X1 7 (by decide) (by decide) (by decide) (by decide) (by decide) (by decide)
  -- the model's rows ahead of keep are M's
  have m1 : ∀ i, 105 < i → wkM (dgM X n k) nv' np' i = M i := fun i hi => by rw [wk_o (by omega), dg_o (by omega), hX0 i (by omega) (by omega)]
  have r8 : M2 8 = gUp (gUp (M 8) 1 (((n + 1) % 11 : Nat) : Int)) 2 ((min (k + 1) 10 : Nat) : Int) := by
    rw [h2 8 (by decide), wk_o (by decide)]
    unfold dgM
    rw [gSet_s, hX0 8 (by omega) (by omega)]
  refine ⟨⟨hM2.1, by rw [r1]; exact hC'.2.1, hC'.2.2.1, by rw [r1]; exact hC'.2.2.2.1, hC'.2.2.2.2⟩, hM2, by rw [r1, r2, r3, r4, r5, r6, r7]; exact hV', hE, ⟨?_, by omega, ?_, by omega, ?_⟩, ?_, ?_, hP, ?_, Or.inl ?_, ?_⟩
  · rw [r8, gUp_n (by decide), gUp_s]
  · rw [r8, gUp_s]
  · rw [h2c 13 (by omega)]
    exact kp_13 _ k10
  · -- the pages
    have hVo := h.2.2.1
    have page : ∀ i, i < 10 → ∀ t, t ≤ 6 → M2 (pgC n i + t) = M (pgC n i + t) := fun i hi t ht => by
      have hb := pgC_ne n11 hi
      have hc := pgC_b (n := n) (i := i)
      rw [X1 _ (by omega) (by omega) (by omega) (by omega) (by omega) (by omega), hX0 _ (by omega) (by unfold pgC at hb ⊢; omega)]
    have pd : ∀ t, t ≤ 6 → M2 (10 + 7 * n + t) = cpV M (10 + 7 * n) 1 (10 + 7 * n + t) := fun t ht => by
      rw [X1 _ (by omega) (by omega) (by omega) (by omega) (by omega) (by omega), hXd t ht]
    have e0 : pgC ((n + 1) % 11) 0 = 10 + 7 * n := by unfold pgC; omega
    have es : ∀ i, i < 10 → pgC ((n + 1) % 11) (i + 1) = pgC n i := fun i hi => by unfold pgC; omega
    have p0 : M2 (10 + 7 * n) = gUp (gUp (gUp (M (10 + 7 * n)) 0 (M 1 0)) 1 (M 1 1)) 2 (M 1 2) := (pd 0 (by omega)).trans (cpV_0 M (10 + 7 * n) 1)
    have p1 := (pd 1 (by omega)).trans (cpV_1 M (10 + 7 * n) 1)
    have p2 := (pd 2 (by omega)).trans (cpV_2 M (10 + 7 * n) 1)
    have p3 := (pd 3 (by omega)).trans (cpV_3 M (10 + 7 * n) 1)
    have p4 := (pd 4 (by omega)).trans (cpV_4 M (10 + 7 * n) 1)
    have p5 := (pd 5 (by omega)).trans (cpV_5 M (10 + 7 * n) 1)
    have p6 := (pd 6 (by omega)).trans (cpV_6 M (10 + 7 * n) 1)
    have q1 : M2 (10 + 7 * n) 1 = (np : Int) := by
      rw [p0, gUp_n (by decide), gUp_s]
      exact h.1.2.2.2.1
    have q00 : M2 (10 + 7 * n) 0 = (nv : Int) := by
      rw [p0, gUp_n (by decide), gUp_n (by decide), gUp_s]
      exact h.1.2.1
    intro i hi
    cases i with
    | zero =>
      rw [e0]
      obtain ⟨w1, w2, w3, w4, w5, w6⟩ := kp_new (wkM (dgM X n k) nv' np') k10
      rw [m1 106 (by decide)] at w1 w2 w3
      rw [m1 107 (by decide)] at w4
      rw [m1 109 (by decide)] at w5
      rw [m1 113 (by decide)] at w6
      have hEo := h.2.2.2.1
      refine ⟨⟨nv, np, ⟨?_, q1⟩, ?_, ⟨?_, ?_, ?_⟩, fun j hj => ?_, fun j hj => ?_, fun j hj => ?_, hnp, fun p hp => ?_⟩, fun hi2 => ?_⟩
      · rw [p0, gUp_n (by decide), gUp_n (by decide), gUp_s]
        exact h.1.2.1
      · rw [p0, p1, p2, p3, p4, p5, p6]
        refine VOK_congr hVo (gUp_s _ _ _) (fun j hj => cpr_lt hj) (fun j hj => cpr_lt hj) (fun p hp => ?_) (fun p hp => cpr_lt hp)
        have := hVo.2.1
        exact ⟨cpr_lt (by omega), cpr_lt (by omega), cpr_lt (by omega)⟩
      · rw [h2b 117 (by decide) (by decide)]
        exact w1.trans h.2.1.2.1
      · rw [h2b 120 (by decide) (by decide)]
        exact w2.trans h.2.1.2.2.2.1
      · rw [h2b 122 (by decide) (by decide), p0, gUp_s]
        exact w3.trans hEo.1
      · rw [h2b 118 (by decide) (by decide), p1, cpr_lt hj]
        exact (w4 j hj).trans (hEo.2.1 j hj)
      · rw [h2b 119 (by decide) (by decide), p2, cpr_lt hj]
        exact (w5 j hj).trans (hEo.2.2.1 j hj)
      · rw [h2b 121 (by decide) (by decide), p6, cpr_lt hj]
        exact (w6 j hj).trans (hEo.2.2.2.2 j hj)
      · have := hVo.2.1
        rw [p3, p4, p5, cpr_lt (by omega), cpr_lt (by omega), cpr_lt (by omega), r4, r5, r6]
        obtain ⟨y1, y2, y3⟩ := hmono p hp
        exact ⟨y1.symm, y2.symm, y3.symm⟩
      · have hk0 : 0 < k := by omega
        obtain ⟨⟨a, b, hPG⟩, _⟩ := h.2.2.2.2.2.1 0 hk0
        rw [show pgC ((n + 1) % 11) (0 + 1) = pgC n 0 from es 0 (by omega), q1, q00, show M2 (pgC n 0) = M (pgC n 0) from page 0 (by omega) 0 (by omega), hPG.1.1, hPG.1.2]
        have := hPG.2.2.2.2.2.2.1
        omega
    | succ i =>
      have hi3 : i < k := by omega
      have hi4 : i < 10 := by omega
      rw [es i hi4]
      obtain ⟨⟨a, b, hPG⟩, hmo⟩ := h.2.2.2.2.2.1 i hi3
      obtain ⟨w1, w2, w3, w4, w5, w6⟩ := kp_old (wkM (dgM X n k) nv' np') k10 hi3 hi
      rw [m1 117 (by decide)] at w1
      rw [m1 120 (by decide)] at w2
      rw [m1 122 (by decide)] at w3
      rw [m1 118 (by decide)] at w4
      rw [m1 119 (by decide)] at w5
      rw [m1 121 (by decide)] at w6
      obtain ⟨g1, g2, ⟨g3, g4, g5⟩, g6, g7, g8, g9, g10⟩ := hPG
      have q0 : M2 (pgC n i) = M (pgC n i) := page i hi4 0 (by omega)
      refine ⟨⟨a, b, ?_, ?_, ⟨?_, ?_, ?_⟩, fun j hj => ?_, fun j hj => ?_, fun j hj => ?_, ⟨by omega, by omega⟩, fun p hp => ?_⟩, fun hi2 => ?_⟩
      · rw [q0]
        exact g1
      · rw [q0, page i hi4 1 (by omega), page i hi4 2 (by omega), page i hi4 3 (by omega), page i hi4 4 (by omega), page i hi4 5 (by omega), page i hi4 6 (by omega)]
        exact g2
      · rw [h2b 117 (by decide) (by decide), w1]
        exact g3
      · rw [h2b 120 (by decide) (by decide), w2]
        exact g4
      · rw [h2b 122 (by decide) (by decide), w3, q0]
        exact g5
      · rw [h2b 118 (by decide) (by decide), w4 j hj, page i hi4 1 (by omega)]
        exact g6 j hj
      · rw [h2b 119 (by decide) (by decide), w5 j hj, page i hi4 2 (by omega)]
        exact g7 j hj
      · rw [h2b 121 (by decide) (by decide), w6 j hj, page i hi4 6 (by omega)]
        exact g8 j hj
      · obtain ⟨y1, y2, y3⟩ := hmono p (by omega)
        rw [page i hi4 3 (by omega), page i hi4 4 (by omega), page i hi4 5 (by omega), r4, r5, r6, y1, y2, y3]
        exact g10 p hp
      · have hi5 : i + 1 < 10 := by omega
        rw [show pgC ((n + 1) % 11) (i + 1 + 1) = pgC n (i + 1) from es (i + 1) hi5, q0, show M2 (pgC n (i + 1)) = M (pgC n (i + 1)) from page (i + 1) hi5 0 (by omega)]
        exact hmo (by omega)
  · refine CHm_eq h.2.2.2.2.2.2.1 (fun i g1 g2 => ?_) ?_ ?_ ?_
    · rw [X1 i (by omega) (by omega) (by omega) (by omega) (by omega) (by omega), hX0 i (by omega) (by omega)]
    · rw [h2b 114 (by decide) (by decide), kpM_o (by omega), m1 114 (by decide)]
    · rw [h2b 115 (by decide) (by decide), kpM_o (by omega), m1 115 (by decide)]
    · rw [h2b 116 (by decide) (by decide), kpM_o (by omega), m1 116 (by decide)]
  · have hD := wk_DV (Z := dgM X n k) (nv := nv') (np := np') (by rw [dg_o (by decide), dg_o (by decide), dg_o (by decide), dg_o (by decide), dg_o (by decide), dg_o (by decide), dg_o (by decide)]; exact hV')
    unfold DVm at hD ⊢
    rw [h2 89 (by decide), h2 3 (by decide), h2 90 (by decide), h2 5 (by decide), h2 91 (by decide), h2 4 (by decide), h2 7 (by decide)]
    exact hD
  · rw [h2 0 (by decide)]
    rfl
  · unfold MOm
    rw [X1 94 (by decide) (by decide) (by decide) (by decide) (by decide) (by decide), hX0 94 (by omega) (by omega), X1 95 (by decide) (by decide) (by decide) (by decide) (by decide) (by decide), hX0 95 (by omega) (by omega), h2c 32 (by omega), h2c 38 (by omega), kpM_f (by decide), kpM_f (by decide), m1 106 (by decide)]
    exact h.2.2.2.2.2.2.2.2.2.2
