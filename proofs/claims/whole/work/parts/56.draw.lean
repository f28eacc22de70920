/-! draw -/
theorem rf_congr {nv n : Nat} {z : Int} {w w' : Nat → Int} (h : ∀ j, j < 60 → w j = w' j) : ∀ k r, r + k = 20 → rfF nv z w n k r = rfF nv z w' n k r
  | 0, r, _ => rfl
  | k + 1, r, hr => by
    simp only [rfF]
    unfold tkP
    rw [rf_congr h k (r + 1) (by omega), h (r * 3) (by omega), h (r * 3 + 1) (by omega), h (r * 3 + 2) (by omega)]
theorem rf_ok {nv n : Nat} {z : Int} {w : Nat → Int} : ∀ k r, r + k = 20 → ¬ rfF nv z w n k r < 0 → ∀ i, r ≤ i → i < n → i < 20 ∧ (((i + 1) * 3 : Nat) : Int) ≤ z ∧ tkP nv w i
  | 0, r, hr, h, i, h1, h2 => by
    simp only [rfF] at h
    rw [if_neg (by omega)] at h
    omega
  | k + 1, r, hr, h, i, h1, h2 => by
    simp only [rfF] at h
    rw [if_neg (by omega)] at h
    by_cases c : (((r + 1) * 3 : Nat) : Int) ≤ z
    · rw [if_pos c] at h
      by_cases c2 : tkP nv w r
      · rw [if_pos c2] at h
        by_cases q : i = r
        · subst q
          exact ⟨by omega, c, c2⟩
        · exact rf_ok k (r + 1) (by omega) h i (by omega) h2
      · rw [if_neg c2] at h
        omega
    · rw [if_neg c] at h
      omega
theorem pf_VOK {nv np : Nat} {num : Int} {B L H K U Q w : Nat → Int} (hV : VOK nv np num B L H K U Q) : ∀ c, (∀ r, r < c → tkP nv w r) → VOK nv np num B (pfS w L c) H K U Q
  | 0, _ => hV
  | c + 1, h => by
    obtain ⟨⟨a0, a1⟩, ⟨b0, b1⟩, hab, hz⟩ := h c (by omega)
    exact VOK_pave (pf_VOK hV c (fun r hr => h r (by omega))) (by omega) (by omega) hz
theorem pf_hi {nv : Nat} (hn : nv ≤ 12) {L w : Nat → Int} {j : Nat} (hj : 144 ≤ j) : ∀ c, (∀ r, r < c → tkP nv w r) → pfS w L c j = L j
  | 0, _ => rfl
  | c + 1, h => by
    obtain ⟨⟨a0, a1⟩, ⟨b0, b1⟩, hab, hz⟩ := h c (by omega)
    show gUp (gUp (pfS w L c) _ _) _ _ j = _
    rw [gUp_n (by omega), gUp_n (by omega), pf_hi hn hj c (fun r hr => h r (by omega))]
theorem pf_eq {L L' w w' : Nat → Int} : ∀ c, (∀ i, i < c * 3 → w i = w' i) → ∀ j, L j = L' j → pfS w L c j = pf9 w' L' c j
  | 0, _, j, hj => hj
  | c + 1, h, j, hj => by
    have ih := pf_eq c (fun i hi => h i (by omega)) j hj
    show gUp (gUp (pfS w L c) _ _) _ _ j = gUp (gUp (pf9 w' L' c) _ _) _ _ j
    rw [← h (c * 3) (by omega), ← h (c * 3 + 1) (by omega), ← h (c * 3 + 2) (by omega), Nat.mul_comm 12 (w (c * 3)).toNat, Nat.mul_comm 12 (w (c * 3 + 1)).toNat]
    by_cases q : j = (w (c * 3 + 1)).toNat * 12 + (w (c * 3)).toNat
    · rw [← q, gUp_s, gUp_s]
    · rw [gUp_n q, gUp_n q]
      by_cases q2 : j = (w (c * 3)).toNat * 12 + (w (c * 3 + 1)).toNat
      · rw [← q2, gUp_s, gUp_s]
      · rw [gUp_n q2, gUp_n q2]
        exact ih
theorem cy_v (s r : Nat → Int) : ∀ n j, cyS s r n j = if j < n then s j else r j
  | 0, j => by rw [if_neg (by omega)]; rfl
  | n + 1, j => by
    show gUp (cyS s r n) n (s n) j = _
    by_cases q : j = n
    · subst q
      rw [gUp_s, if_pos (by omega)]
    · rw [gUp_n q, cy_v s r n j]
      by_cases q2 : j < n
      · rw [if_pos q2, if_pos (by omega)]
      · rw [if_neg q2, if_neg (by omega)]
theorem ch_iff (R Y : Nat → Int) : ∀ n, ch9 R Y n = true ↔ ¬ ∀ j, j < n → R j = Y j
  | 0 => ⟨fun h => (by cases h), fun h => absurd (fun j hj => absurd hj (Nat.not_lt_zero _)) h⟩
  | n + 1 => by
    show (ch9 R Y n || decide (R n ≠ Y n)) = true ↔ _
    rw [Bool.or_eq_true, ch_iff R Y n, decide_eq_true_eq]
    constructor
    · intro h q
      rcases h with h | h
      · exact h (fun j hj => q j (by omega))
      · exact h (q n (by omega))
    · intro h
      by_cases c : R n = Y n
      · refine Or.inl (fun q => h (fun j hj => ?_))
        by_cases e0 : j = n
        · rw [e0]; exact c
        · exact q j (by omega)
      · exact Or.inr c
theorem kp_123 {M : gMem} {r : Nat → Int} {k i : Nat} (h : i = 106 ∨ (114 ≤ i ∧ i ≤ 122)) : kpM (gSet M 123 r) k i = kpM M k i := by
  have hi : i = 106 ∨ i = 114 ∨ i = 115 ∨ i = 116 ∨ i = 117 ∨ i = 118 ∨ i = 119 ∨ i = 120 ∨ i = 121 ∨ i = 122 := by omega
  unfold kpM
  split
  · rcases hi with e0 | e0 | e0 | e0 | e0 | e0 | e0 | e0 | e0 | e0 <;> (subst e0; rfl)
  · rcases hi with e0 | e0 | e0 | e0 | e0 | e0 | e0 | e0 | e0 | e0 <;> (subst e0; rfl)
section DR
variable {D : va_G} {ca : Nat → ClassId} {M X : gMem} {nv np n k nv' np' : Nat}
/-- the drafted roads are those that the class paves -/
theorem dw_v (h : InvX M nv np n k) {q : Nat} (hq : q < 4) {c : Nat} (hc : c ≤ 20) {N : gMem} (e9 : N 109 = M 109) (e16 : N 116 = M 116) {j : Nat} (hj : j < 144) : dwR N q c j = pfS (M (98 + 2 * q + 1)) (M 3) c j := by
  unfold dwR
  refine (pf_eq (w := M (98 + 2 * q + 1)) (w' := mpW N q) (L := M 3) c (fun i hi => ?_) j ?_).symm
  · unfold mpW
    rw [e16]
    exact ((h.2.2.2.2.2.2.1 q hq).2.2.2 i (by omega)).symm
  · rw [cy_v, if_pos hj, e9]
    exact (h.2.2.2.1.2.2.1 j hj).symm
theorem st_draw (h : InvX M nv np n k) (x z y : Int) (hy : in32 y) : StI D ca mX8_draw mX9_draw [gI x, gI z, gI y] M := by
  by_cases q : (0 ≤ x ∧ x ≤ 3) ∧ (0 ≤ z ∧ z ≤ 2) ∧ 0 ≤ y
  · obtain ⟨m, e1⟩ := Int.eq_ofNat_of_zero_le q.1.1
    obtain ⟨c, e2⟩ := Int.eq_ofNat_of_zero_le q.2.2
    subst e1
    subst e2
    have hm : m < 4 := by omega
    have hz := q.2.1
    have hc : c < 2147483648 := by
      unfold in32 at hy
      omega
    obtain ⟨g1, g2, ⟨s, hs, es⟩, g4⟩ := h.2.2.2.2.2.2.1 m hm
    have ew : ∀ j, j < 60 → M (98 + 2 * m + 1) j = mpW M m j := fun j hj => (g4 j hj).symm
    have hrt : rtF nv M (98 + 2 * m) z c = if M (98 + 2 * m) 0 = -1 then -11 else if M (98 + 2 * m) 0 = z then rfF nv (s : Int) (M (98 + 2 * m + 1)) c 20 0 else -13 := by
      unfold rtF
      rw [es]
    by_cases hl : M 114 m = z
    · have e0 : M (98 + 2 * m) 0 = z := by
        rcases g1 with g1 | g1
        · omega
        · rw [g1.1]; exact hl
      rw [if_neg (by omega), if_pos e0] at hrt
      have erf := rf_congr (nv := nv) (n := c) (z := (s : Int)) ew 20 0 (by omega)
      by_cases hneg : rtF nv M (98 + 2 * m) z c < 0
      · refine ⟨_, _, _, pX8_draw_no h.1 m hm z hz c hc hneg, ?_, nv, np, n, k, h⟩
        exact pX9_draw_no h.2.1 m hm z hz c hc hl s (by rw [g2]; exact es) hs _ (by rw [hrt, erf]) hneg
      · have hok := rf_ok (nv := nv) (n := c) (z := (s : Int)) (w := M (98 + 2 * m + 1)) 20 0 (by omega) (by rw [← hrt]; exact hneg)
        have hok8 : ∀ r, r < c → r < 20 ∧ (((r + 1) * 3 : Nat) : Int) ≤ M (98 + 2 * m) 1 ∧ tkP nv (M (98 + 2 * m + 1)) r := fun r hr => by
          rw [es]
          exact hok r (Nat.zero_le _) hr
        have htk : ∀ r, r < c → tkP nv (M (98 + 2 * m + 1)) r := fun r hr => (hok8 r hr).2.2
        have hc20 : c ≤ 20 := by
          by_cases w : c ≤ 20
          · exact w
          · have := (hok8 20 (by omega)).1
            omega
        obtain ⟨d1, n11, d3, k10, d5⟩ := h.2.2.2.2.1
        have hn := h.1.2.2.1
        have hV := h.2.2.1
        have hE := h.2.2.2.1
        have F8 := pX8_draw (D := D) (ca := ca) h.1 (Inv_H h) n k d1 n11 d3 k10 m hm z hz c hc hneg hok8
        have eC3 : (cpV M (10 + 7 * n) 1) 3 = M 3 := C_lo (by decide)
        have eCw : (cpV M (10 + 7 * n) 1) (98 + 2 * m + 1) = M (98 + 2 * m + 1) := cpV_out (by omega)
        rw [eC3, eCw] at F8
        generalize hXe : gSet (cpV M (10 + 7 * n) 1) 3 (pfS (M (98 + 2 * m + 1)) (M 3) c) = X at F8
        have hX : ∀ i, (i = 0 ∨ 8 ≤ i) → X i = cpV M (10 + 7 * n) 1 i := fun i hi => by rw [← hXe, gSet_n (by omega)]
        have x2 : X 3 = pfS (M (98 + 2 * m + 1)) (M 3) c := by rw [← hXe, gSet_s]
        have xo : ∀ i, i < 10 → i ≠ 3 → X i = M i := fun i hi hi2 => by rw [← hXe, gSet_n hi2, C_lo hi]
        have hC' : CS X nv np := by rw [← hXe]; exact CS_row (CS_cp h.1 n11) rfl
        have hok9 : ∀ N : gMem, N 116 = M 116 → ∀ r, r < c → r < 20 ∧ (((r + 1) * 3 : Nat) : Int) ≤ (s : Int) ∧ tkP nv (mpW N m) r := fun N eN r hr => by
          obtain ⟨t1, t2, t3⟩ := hok r (Nat.zero_le _) hr
          refine ⟨t1, t2, ?_⟩
          have en : mpW N m = mpW M m := by
            unfold mpW
            rw [eN]
          rw [en]
          unfold tkP at t3 ⊢
          rw [← ew (r * 3) (by omega), ← ew (r * 3 + 1) (by omega), ← ew (r * 3 + 2) (by omega)]
          exact t3
        by_cases hlk : likeB X (10 + 7 * n) 1 = true
        · have hsame := ((likeX hX).mp hlk).2.2.2.2.1
          rw [x2] at hsame
          have x3 : X 3 = M 3 := by
            rw [x2]
            funext j
            by_cases w : j < 144
            · exact (hsame j w).symm
            · exact pf_hi hn (by omega) c htk
          rw [kc_y hlk] at F8
          have hI : InvX X nv np n k := NOC h hX (fun i h1 h7 => by
            by_cases w : i = 3
            · subst w
              exact x3
            · exact xo i (by omega) w)
          have r9 : X 109 = M 109 := hX_0 hX 109 (by decide) (by omega)
          have r16 : X 116 = M 116 := hX_0 hX 116 (by decide) (by omega)
          have r14 : X 114 = M 114 := hX_0 hX 114 (by decide) (by omega)
          have r15 : X 115 = M 115 := hX_0 hX 115 (by decide) (by omega)
          have F9 := pX9_draw (D := D) (ca := ca) hI.2.1 k hI.2.2.2.2.1.2.2.2.2 k10 m hm z hz c hc (by rw [r14]; exact hl) s (by rw [r15, g2]; exact es) hs (hok9 X r16)
          have hd : ∀ j, j < 144 → X 109 j = dwR X m c j := fun j hj => by
            rw [dw_v h hm hc20 r9 r16 hj, r9, hE.2.2.1 j hj]
            exact hsame j hj
          have hch : ¬ ch9 (X 109) (dwR X m c) 144 = true := fun w => (ch_iff _ _ _).mp w hd
          refine ⟨_, _, _, F8, F9, nv, np, n, k, ?_⟩
          unfold dwM
          rw [if_neg hch]
          have e109 : dwE (gSet X 123 (dwR X m c)) 109 = X 109 := by
            show cyS (dwR X m c) (X 109) 144 = X 109
            funext j
            rw [cy_v]
            by_cases w : j < 144
            · rw [if_pos w]
              exact (hd j w).symm
            · rw [if_neg w]
          refine InvX_m hI (fun i h1 h2 _ _ => ?_) (fun _ _ => rfl)
          by_cases w : i = 109
          · subst w
            exact e109
          · unfold dwE
            rw [gSet_n w, gSet_n h2]
        · rw [kc_n hlk] at F8
          have hM1 := M1_MS (nv' := nv) (np' := np) h hX hC'.1
          have r9 : wkM (dgM X n k) nv np 109 = M 109 := M1_m hX n11 (by decide)
          have r16 : wkM (dgM X n k) nv np 116 = M 116 := M1_m hX n11 (by decide)
          have r14 : wkM (dgM X n k) nv np 114 = M 114 := M1_m hX n11 (by decide)
          have r15 : wkM (dgM X n k) nv np 115 = M 115 := M1_m hX n11 (by decide)
          have F9 := pX9_draw (D := D) (ca := ca) hM1 k (by rw [M1_m hX n11 (by decide)]; exact d5) k10 m hm z hz c hc (by rw [r14]; exact hl) s (by rw [r15, g2]; exact es) hs (hok9 _ r16)
          have hd : ∀ j, j < 144 → dwR (wkM (dgM X n k) nv np) m c j = X 3 j := fun j hj => by rw [dw_v h hm hc20 r9 r16 hj, x2]
          have hch : ch9 (wkM (dgM X n k) nv np 109) (dwR (wkM (dgM X n k) nv np) m c) 144 = true := (ch_iff _ _ _).mpr (fun w => hlk ((likeX hX).mpr (by
            rw [xo 1 (by decide) (by decide), xo 2 (by decide) (by decide), xo 7 (by decide) (by decide)]
            refine ⟨rfl, rfl, rfl, fun _ _ => rfl, fun j hj => ?_, fun _ _ => rfl⟩
            rw [← hd j hj, ← w j hj, r9]
            exact (hE.2.2.1 j hj).symm)))
          refine ⟨_, _, _, F8, F9, nv, np, (n + 1) % 11, min (k + 1) 10, ?_⟩
          unfold dwM
          rw [if_pos hch]
          have hM3 : MS (gSet (wkM (dgM X n k) nv np) 123 (dwR (wkM (dgM X n k) nv np) m c)) nv np := MS_row hM1 rfl
          have no : ∀ i, i < 106 ∨ (106 < i ∧ i < 117) ∨ 123 < i → i ≠ 109 → dwE (kpM (gSet (wkM (dgM X n k) nv np) 123 (dwR (wkM (dgM X n k) nv np) m c)) k) i = wkM (dgM X n k) nv np i := fun i hi h9 => by
            unfold dwE
            rw [gSet_n h9, kpM_o (by omega), gSet_n (by omega)]
          have n9 : ∀ j, j < 144 → dwE (kpM (gSet (wkM (dgM X n k) nv np) 123 (dwR (wkM (dgM X n k) nv np) m c)) k) 109 j = X 3 j := fun j hj => by
            unfold dwE
            rw [gSet_s, cy_v, if_pos hj, kpM_o (by decide), gSet_s]
            exact hd j hj
          have hV' : VOK nv np (X 1 2) (X 2) (X 3) (X 4) (X 5) (X 6) (X 7) := by
            rw [xo 1 (by decide) (by decide), x2, xo 2 (by decide) (by decide), xo 4 (by decide) (by decide), xo 5 (by decide) (by decide), xo 6 (by decide) (by decide), xo 7 (by decide) (by decide)]
            exact pf_VOK hV c htk
          have x17 : ∀ i, 1 ≤ i → i ≤ 7 → dwE (kpM (gSet (wkM (dgM X n k) nv np) 123 (dwR (wkM (dgM X n k) nv np) m c)) k) i = X i := fun i h1 h2 => by rw [no i (by omega) (by omega), wk_o (by omega), dg_o (by omega)]
          refine MUT h (hX_0 hX) (hX_d hX) hC' hV' ⟨Nat.le_refl _, Nat.le_refl _⟩ (fun p _ => by rw [xo 4 (by decide) (by decide), xo 5 (by decide) (by decide), xo 6 (by decide) (by decide)]; exact ⟨rfl, rfl, rfl⟩) (fun i hi => no i (by omega) (by omega)) (fun i h1 h2 => ?_) (fun j _ => ?_) ?_ (MS_row (MS_kp hM3 k) rfl) (PR_of h ?_ ?_)
          · unfold dwE
            rw [gSet_n (by omega), kp_123 (by omega)]
          · unfold dwE
            rw [gSet_n (by decide), kp_123 (by omega)]
          · refine EQV_of (X := X) x17 ?_ (fun j hj => ?_) n9 (fun p hp => ?_) (fun j hj => ?_)
            · unfold dwE
              rw [gSet_n (by decide), kp_123 (by omega), kp_f hX n11 (by decide), xo 1 (by decide) (by decide)]
              exact hE.1
            · rw [no 107 (by decide) (by decide), M1_m hX n11 (by decide), xo 2 (by decide) (by decide)]
              exact hE.2.1 j hj
            · rw [no 110 (by decide) (by decide), no 111 (by decide) (by decide), no 112 (by decide) (by decide), M1_m hX n11 (by decide), M1_m hX n11 (by decide), M1_m hX n11 (by decide), xo 4 (by decide) (by decide), xo 5 (by decide) (by decide), xo 6 (by decide) (by decide)]
              exact hE.2.2.2.1 p hp
            · rw [no 113 (by decide) (by decide), M1_m hX n11 (by decide), xo 7 (by decide) (by decide)]
              exact hE.2.2.2.2 j hj
          · rw [no 96 (by decide) (by decide), wk_o (by decide), dg_o (by decide), hX_0 hX 96 (by decide) (by omega)]
          · rw [no 108 (by decide) (by decide), M1_m hX n11 (by decide)]
    · have er : rtF nv M (98 + 2 * m) z c = if M 114 m = -4 then -11 else -13 := by
        rw [hrt]
        rcases g1 with g1 | g1
        · rw [if_pos g1.1, if_pos g1.2]
        · rw [if_neg (by omega), if_neg (by rw [g1.1]; exact hl), if_neg (by omega)]
      refine ⟨_, _, _, pX8_draw_no h.1 m hm z hz c hc (by rw [er]; split <;> omega), ?_, nv, np, n, k, h⟩
      rw [er]
      exact pX9_draw_lane h.2.1 m hm z hz c hc hl
  · exact ⟨_, _, _, pX8_draw_bad h.1 x z y q, pX9_draw_bad h.2.1 x z y q, nv, np, n, k, h⟩
end DR
