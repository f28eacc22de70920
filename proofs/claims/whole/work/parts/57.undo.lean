/-! undo -/
theorem ff_v (n : Nat) (P : Nat → Int) : ∀ j v, ffS n P j v = if n ≤ v ∧ v < n + j then 0 else P v
  | 0, v => by rw [if_neg (by omega)]; rfl
  | j + 1, v => by
    show gUp (ffS n P j) (n + j) 0 v = _
    by_cases q : v = n + j
    · subst q
      rw [gUp_s, if_pos (by omega)]
    · rw [gUp_n q, ff_v n P j v]
      by_cases q2 : n ≤ v ∧ v < n + j
      · rw [if_pos q2, if_pos (by omega)]
      · rw [if_neg q2, if_neg (by omega)]
theorem gPt_un : ∀ q ∈ gPt, q.1 = 106 → q.2.1 ≠ 13 ∧ q.2.1 ≠ 0 ∧ q.2.1 ≠ 4 ∧ q.2.1 ≠ 9 := by decide +kernel
section UN
variable {D : va_G} {ca : Nat → ClassId} {M : gMem} {nv np n k : Nat}
theorem mono0 (h : InvX M nv np n k) : ∀ i, i < k → M (pgC n i) 0 ≤ M (pgC n 0) 0 ∧ M (pgC n i) 1 ≤ M (pgC n 0) 1
  | 0, _ => ⟨Int.le_refl _, Int.le_refl _⟩
  | i + 1, hi => by
    have h1 := mono0 h i (by omega)
    have h2 := (h.2.2.2.2.2.1 i (by omega)).2 hi
    omega
theorem st_undo (h : InvX M nv np n k) : StI D ca mX8_undo mX9_undo [] M := by
  obtain ⟨d1, n11, d3, k10, d5⟩ := h.2.2.2.2.1
  by_cases c : k = 0
  · subst c
    exact ⟨_, _, _, pX8_undo_no h.1 d3, pX9_undo_no h.2.1 d5, nv, np, n, 0, h⟩
  · have h1 : 1 ≤ k := by omega
    obtain ⟨⟨a, b, hPG⟩, _⟩ := h.2.2.2.2.2.1 0 (by omega)
    have ep : pgC n 0 = 10 + 7 * ((n + 11 - 1) % 11) := by unfold pgC; omega
    have hm0 := mono0 h
    generalize hP : 10 + 7 * ((n + 11 - 1) % 11) = P at ep
    rw [ep] at hPG hm0
    obtain ⟨⟨p0, p1⟩, pV, ⟨s0, s1, s2⟩, s3, s4, s5, ⟨pa, pb⟩, p10_⟩ := hPG
    rw [show k - 1 - 0 = k - 1 by omega] at s0 s1 s2 s3 s4 s5
    have P10 : 10 ≤ P ∧ P ≤ 80 := by omega
    have hV := h.2.2.1
    have hE := h.2.2.2.1
    have np10 := h.1.2.2.2.2
    have b10 : b ≤ 10 := pV.2.1
    have a12 : a ≤ 12 := pV.1
    -- the valley turned back
    have t1 : tbM M n k 1 = gUp (gUp (gUp (M 1) 0 (M P 0)) 1 (M P 1)) 2 (M P 2) := by
      unfold tbM
      rw [hP, cpV_0, gSet_n (show 1 ≠ 8 by decide), gSet_n (show P ≠ 8 by omega)]
    have t2 : tbM M n k 2 = cpr 12 (M (P + 1)) (M 2) := by
      unfold tbM
      rw [hP, show (2 : Nat) = 1 + 1 from rfl, cpV_1, gSet_n (show P + 1 ≠ 8 by omega), gSet_n (show 1 + 1 ≠ 8 by decide)]
    have t3 : tbM M n k 3 = cpr 144 (M (P + 2)) (M 3) := by
      unfold tbM
      rw [hP, show (3 : Nat) = 1 + 2 from rfl, cpV_2, gSet_n (show P + 2 ≠ 8 by omega), gSet_n (show 1 + 2 ≠ 8 by decide)]
    have t4 : tbM M n k 4 = cpr 10 (M (P + 3)) (M 4) := by
      unfold tbM
      rw [hP, show (4 : Nat) = 1 + 3 from rfl, cpV_3, gSet_n (show P + 3 ≠ 8 by omega), gSet_n (show 1 + 3 ≠ 8 by decide)]
    have t5 : tbM M n k 5 = cpr 10 (M (P + 4)) (M 5) := by
      unfold tbM
      rw [hP, show (5 : Nat) = 1 + 4 from rfl, cpV_4, gSet_n (show P + 4 ≠ 8 by omega), gSet_n (show 1 + 4 ≠ 8 by decide)]
    have t6 : tbM M n k 6 = cpr 10 (M (P + 5)) (M 6) := by
      unfold tbM
      rw [hP, show (6 : Nat) = 1 + 5 from rfl, cpV_5, gSet_n (show P + 5 ≠ 8 by omega), gSet_n (show 1 + 5 ≠ 8 by decide)]
    have t7 : tbM M n k 7 = cpr 10 (M (P + 6)) (M 7) := by
      unfold tbM
      rw [hP, show (7 : Nat) = 1 + 6 from rfl, cpV_6, gSet_n (show P + 6 ≠ 8 by omega), gSet_n (show 1 + 6 ≠ 8 by decide)]
    have F8 := pX8_undo (D := D) (ca := ca) h.1 n k d1 n11 d3 k10 h1 a b (by rw [hP]; exact p0) a12 (by rw [hP]; exact p1) b10 (fun p hp => by
      rw [t4, cpr_lt (by omega)]
      exact pV.2.2.2.2.2.2.2.1 p hp)
    have u0 : ∀ i, i ≠ 96 → udM M n k a i = tbM M n k i := fun i hi => by
      unfold udM
      rw [gSet_n hi]
    have u96 : udM M n k a 96 = ffS a (M 96) (12 - a) := by
      unfold udM
      rw [gSet_s, tbM_out (by decide)]
    have hpu : gPtr (udM M n k a) := gPtr_row (tbM_p h.1.1) rfl
    have m1 : ∀ i, 105 < i → wkM (udM M n k a) a b i = M i := fun i hi => by rw [wk_o (by omega), u0 i (by omega), tbM_out (by omega)]
    have hM1 : MS (wkM (udM M n k a) a b) nv np := ⟨gPtr_wk hpu a b, by rw [m1 106 (by decide)]; exact h.2.1.2.1, h.2.1.2.2.1, by rw [m1 106 (by decide)]; exact h.2.1.2.2.2.1, h.2.1.2.2.2.2⟩
    have F9 := pX9_undo (D := D) (ca := ca) hM1 k (by rw [m1 106 (by decide)]; exact d5) k10 h1
    refine ⟨_, _, _, F8, F9, a, b, (n + 11 - 1) % 11, k - 1, ?_⟩
    -- the rows behind both
    have n0 : ∀ i, i ≠ 106 → i ≠ 107 → i ≠ 109 → i ≠ 113 → unM (wkM (udM M n k a) a b) k i = wkM (udM M n k a) a b i := fun i g1 g2 g3 g4 => by
      unfold unM
      rw [gSet_n g1, gSet_n g4, gSet_n g2, gSet_n g3, gSet_n g1]
    have n6 : unM (wkM (udM M n k a) a b) k 106 = gUp (gUp (gUp (gUp (M 106) 13 ((k - 1 : Nat) : Int)) 0 (M 117 (k - 1))) 4 (M 120 (k - 1))) 9 (M 122 (k - 1)) := by
      unfold unM
      rw [gSet_s, m1 106 (by decide), m1 117 (by decide), m1 120 (by decide), m1 122 (by decide)]
    have n7 : unM (wkM (udM M n k a) a b) k 107 = gtS (M 118) (12 * (k - 1)) (M 107) 12 := by
      unfold unM
      rw [gSet_n (by decide), gSet_n (by decide), gSet_s, m1 107 (by decide), m1 118 (by decide)]
    have n9 : unM (wkM (udM M n k a) a b) k 109 = gtS (M 119) (144 * (k - 1)) (M 109) 144 := by
      unfold unM
      rw [gSet_n (by decide), gSet_n (by decide), gSet_n (by decide), gSet_s, m1 109 (by decide), m1 119 (by decide)]
    have n13 : unM (wkM (udM M n k a) a b) k 113 = gtS (M 121) (10 * (k - 1)) (M 113) 10 := by
      unfold unM
      rw [gSet_n (by decide), gSet_s, m1 113 (by decide), m1 121 (by decide)]
    generalize hN : unM (wkM (udM M n k a) a b) k = N at n0 n6 n7 n9 n13
    have r : ∀ i, 1 ≤ i → i ≤ 7 → N i = tbM M n k i := fun i g1 g2 => by rw [n0 i (by omega) (by omega) (by omega) (by omega), wk_o (by omega), u0 i (by omega)]
    have pg : ∀ i, 9 ≤ i → i ≤ 88 → N i = M i := fun i g1 g2 => by rw [n0 i (by omega) (by omega) (by omega) (by omega), wk_o (by omega), u0 i (by omega), tbM_out (by omega)]
    have hi' : ∀ i, 107 < i → i ≠ 109 → i ≠ 113 → N i = M i := fun i g1 g2 g3 => by rw [n0 i (by omega) (by omega) (by omega) (by omega), m1 i (by omega)]
    have mid : ∀ i, 92 ≤ i → i ≤ 105 → i ≠ 96 → N i = M i := fun i g1 g2 g3 => by rw [n0 i (by omega) (by omega) (by omega) (by omega), wk_o (by omega), u0 i g3, tbM_out (by omega)]
    have r1 := (r 1 (by decide) (by decide)).trans t1
    have r2 := (r 2 (by decide) (by decide)).trans t2
    have r3 := (r 3 (by decide) (by decide)).trans t3
    have r4 := (r 4 (by decide) (by decide)).trans t4
    have r5 := (r 5 (by decide) (by decide)).trans t5
    have r6 := (r 6 (by decide) (by decide)).trans t6
    have r7 := (r 7 (by decide) (by decide)).trans t7
    have r8 : N 8 = gUp (gUp (M 8) 1 (((n + 11 - 1) % 11 : Nat) : Int)) 2 ((k - 1 : Nat) : Int) := by rw [n0 8 (by decide) (by decide) (by decide) (by decide), wk_o (by decide), u0 8 (by decide), tbM_8]
    have gN : gPtr N := by
      rw [← hN]
      unfold unM
      have hp1 := hM1.1
      refine gPtr_set (gPtr_row (gPtr_row (gPtr_row (gPtr_up hp1 rfl) rfl) rfl) rfl) (fun t ht e0 => ?_)
      have g1 := gPt_106 t ht e0
      have g2 : t.2.1 ≠ 13 ∧ t.2.1 ≠ 0 ∧ t.2.1 ≠ 4 ∧ t.2.1 ≠ 9 := gPt_un t ht e0
      rw [gUp_n g2.2.2.2, gUp_n g2.2.2.1, gUp_n g2.2.1]
      rfl
    have hVn : VOK a b (N 1 2) (N 2) (N 3) (N 4) (N 5) (N 6) (N 7) := by
      rw [r1, r2, r3, r4, r5, r6, r7]
      exact VOK_congr pV (gUp_s _ _ _) (fun j hj => cpr_lt hj) (fun j hj => cpr_lt hj) (fun p hp => ⟨cpr_lt (by omega), cpr_lt (by omega), cpr_lt (by omega)⟩) (fun p hp => cpr_lt hp)
    refine ⟨⟨gN, ?_, a12, ?_, b10⟩, ⟨gN, ?_, a12, ?_, b10⟩, hVn, ⟨?_, fun j hj => ?_, fun j hj => ?_, fun p hp => ?_, fun j hj => ?_⟩, ⟨?_, by omega, ?_, by omega, ?_⟩, fun i hi => ?_, ?_, ⟨fun v hv => ?_, fun v hv hv2 => ?_⟩, ?_, Or.inl ?_, ⟨?_, ?_⟩⟩
    · rw [r1, gUp_n (by decide), gUp_n (by decide), gUp_s]
      exact p0
    · rw [r1, gUp_n (by decide), gUp_s]
      exact p1
    · rw [n6, gUp_n (by decide), gUp_n (by decide), gUp_s]
      exact s0
    · rw [n6, gUp_n (by decide), gUp_s]
      exact s1
    · rw [n6, gUp_s, r1, gUp_s]
      exact s2
    · rw [n7, gtS_v, if_pos hj, r2, cpr_lt hj]
      exact s3 j hj
    · rw [n9, gtS_v, if_pos hj, r3, cpr_lt hj]
      exact s4 j hj
    · rw [hi' 110 (by decide) (by decide) (by decide), hi' 111 (by decide) (by decide) (by decide), hi' 112 (by decide) (by decide) (by decide), r4, r5, r6, cpr_lt (by omega), cpr_lt (by omega), cpr_lt (by omega), (p10_ p hp).1, (p10_ p hp).2.1, (p10_ p hp).2.2]
      exact hE.2.2.2.1 p (by omega)
    · rw [n13, gtS_v, if_pos hj, r7, cpr_lt hj]
      exact s5 j hj
    · rw [r8, gUp_n (by decide), gUp_s]
    · rw [r8, gUp_s]
    · rw [n6, gUp_n (by decide), gUp_n (by decide), gUp_n (by decide), gUp_s]
    · have es : ∀ i, i < 10 → pgC ((n + 11 - 1) % 11) i = pgC n (i + 1) := fun i hi => by unfold pgC; omega
      have page : ∀ i t, t ≤ 6 → N (pgC n i + t) = M (pgC n i + t) := fun i t ht => pg _ (by have := pgC_b (n := n) (i := i); omega) (by have := pgC_b (n := n) (i := i); omega)
      have i10 : i + 1 < 10 := by omega
      obtain ⟨⟨a', b', g1, g2, ⟨g3, g4, g5⟩, g6, g7, g8, g9, g10⟩, gm⟩ := h.2.2.2.2.2.1 (i + 1) (by omega)
      have hm := hm0 (i + 1) (by omega)
      rw [g1.1, g1.2, p0, p1] at hm
      rw [es i (by omega), show k - 1 - 1 - i = k - 1 - (i + 1) by omega]
      have q0 : N (pgC n (i + 1)) = M (pgC n (i + 1)) := page (i + 1) 0 (by omega)
      refine ⟨⟨a', b', ?_, ?_, ⟨?_, ?_, ?_⟩, fun j hj => ?_, fun j hj => ?_, fun j hj => ?_, ⟨by omega, by omega⟩, fun p hp => ?_⟩, fun hi2 => ?_⟩
      · rw [q0]
        exact g1
      · rw [q0, page (i + 1) 1 (by omega), page (i + 1) 2 (by omega), page (i + 1) 3 (by omega), page (i + 1) 4 (by omega), page (i + 1) 5 (by omega), page (i + 1) 6 (by omega)]
        exact g2
      · rw [hi' 117 (by decide) (by decide) (by decide)]
        exact g3
      · rw [hi' 120 (by decide) (by decide) (by decide)]
        exact g4
      · rw [hi' 122 (by decide) (by decide) (by decide), q0]
        exact g5
      · rw [hi' 118 (by decide) (by decide) (by decide), page (i + 1) 1 (by omega)]
        exact g6 j hj
      · rw [hi' 119 (by decide) (by decide) (by decide), page (i + 1) 2 (by omega)]
        exact g7 j hj
      · rw [hi' 121 (by decide) (by decide) (by decide), page (i + 1) 6 (by omega)]
        exact g8 j hj
      · have hpb : p < b := by omega
        rw [page (i + 1) 3 (by omega), page (i + 1) 4 (by omega), page (i + 1) 5 (by omega), r4, r5, r6, cpr_lt (by omega), cpr_lt (by omega), cpr_lt (by omega), (p10_ p hpb).1, (p10_ p hpb).2.1, (p10_ p hpb).2.2]
        exact g10 p hp
      · rw [es (i + 1) i10, q0, show N (pgC n (i + 1 + 1)) = M (pgC n (i + 1 + 1)) from page (i + 1 + 1) 0 (by omega)]
        exact gm (by omega)
    · exact CHm_eq h.2.2.2.2.2.2.1 (fun i g1 g2 => mid i (by omega) (by omega) (by omega)) (hi' 114 (by decide) (by decide) (by decide)) (hi' 115 (by decide) (by decide) (by decide)) (hi' 116 (by decide) (by decide) (by decide))
    · rw [n0 96 (by decide) (by decide) (by decide) (by decide), wk_o (by decide), u96, ff_v, if_neg (by omega), hi' 108 (by decide) (by decide) (by decide)]
      exact h.2.2.2.2.2.2.2.1.1 v (by omega)
    · rw [n0 96 (by decide) (by decide) (by decide) (by decide), wk_o (by decide), u96, ff_v, if_pos (by omega)]
    · have hDV := wk_DV (Z := udM M n k a) (nv := a) (np := b) (by
        rw [u0 1 (by decide), u0 2 (by decide), u0 3 (by decide), u0 4 (by decide), u0 5 (by decide), u0 6 (by decide), u0 7 (by decide), ← r 1 (by decide) (by decide), ← r 2 (by decide) (by decide), ← r 3 (by decide) (by decide), ← r 4 (by decide) (by decide), ← r 5 (by decide) (by decide), ← r 6 (by decide) (by decide), ← r 7 (by decide) (by decide)]
        exact hVn)
      unfold DVm at hDV ⊢
      rw [n0 89 (by decide) (by decide) (by decide) (by decide), n0 3 (by decide) (by decide) (by decide) (by decide), n0 90 (by decide) (by decide) (by decide) (by decide), n0 5 (by decide) (by decide) (by decide) (by decide), n0 91 (by decide) (by decide) (by decide) (by decide), n0 4 (by decide) (by decide) (by decide) (by decide), n0 7 (by decide) (by decide) (by decide) (by decide)]
      exact hDV
    · rw [n0 0 (by decide) (by decide) (by decide) (by decide)]
      rfl
    · rw [mid 94 (by decide) (by decide) (by decide), n6, gUp_n (by decide), gUp_n (by decide), gUp_n (by decide), gUp_n (by decide)]
      exact h.2.2.2.2.2.2.2.2.2.2.1
    · rw [mid 95 (by decide) (by decide) (by decide), n6, gUp_n (by decide), gUp_n (by decide), gUp_n (by decide), gUp_n (by decide)]
      exact h.2.2.2.2.2.2.2.2.2.2.2
end UN
