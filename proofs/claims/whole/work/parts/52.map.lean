/-! map, lay -/
theorem gPt_ch : ∀ q, q < 4 → ∀ t ∈ gPt, (t.1 = 98 + 2 * q → t.2.1 = 2) ∧ t.1 ≠ 98 + 2 * q + 1 := by decide +kernel
theorem rnW_v (w : Nat → Int) : ∀ n j, rnW w n j = if j < n then 0 else w j
  | 0, j => by rw [if_neg (by omega)]; rfl
  | n + 1, j => by
    show gUp (rnW w n) n 0 j = _
    by_cases q : j = n
    · subst q
      rw [gUp_s, if_pos (by omega)]
    · rw [gUp_n q, rnW_v w n j]
      by_cases q2 : j < n
      · rw [if_pos q2, if_pos (by omega)]
      · rw [if_neg q2, if_neg (by omega)]
theorem zcS_v (b : Nat) (r : Nat → Int) : ∀ n j, zcS b r n j = if b ≤ j ∧ j < b + n then 0 else r j
  | 0, j => by rw [if_neg (by omega)]; rfl
  | n + 1, j => by
    show gUp (zcS b r n) (b + n) 0 j = _
    by_cases q : j = b + n
    · subst q
      rw [gUp_s, if_pos (by omega)]
    · rw [gUp_n q, zcS_v b r n j]
      by_cases q2 : b ≤ j ∧ j < b + n
      · rw [if_pos q2, if_pos (by omega)]
      · rw [if_neg q2, if_neg (by omega)]
section MP
variable {D : va_G} {ca : Nat → ClassId} {M M' : gMem} {nv np n k : Nat}
/-- maps alone may change -/
theorem InvX_ch (h : InvX M nv np n k) (hp : gPtr M') (he : ∀ i, i < 98 ∨ 105 < i → i ≠ 114 → i ≠ 115 → i ≠ 116 → M' i = M i) (hC : CHm M') : InvX M' nv np n k := by
  have e : ∀ i, i < 98 → M' i = M i := fun i hi => he i (by omega) (by omega) (by omega) (by omega)
  have e6 := he 106 (by decide) (by decide) (by decide) (by decide)
  refine InvX_gen h hp (fun i hi _ => he i (by have := hi.2.1; omega) (by have := hi.2.2.2.1; omega) (by have := hi.2.2.2.1; omega) (by have := hi.2.2.2.1; omega)) (fun j _ => by rw [e6]) hC ?_ ?_ ?_
  · unfold PRm
    rw [e 96 (by decide), he 108 (by decide) (by decide) (by decide) (by decide)]
    exact h.2.2.2.2.2.2.2.1
  · rw [e 0 (by decide)]
    exact h.2.2.2.2.2.2.2.2.2.1.imp id (fun g => SVF_eq g (by rw [e 92 (by decide)]; exact fun _ _ => rfl) (e 93 (by decide)) (by rw [e 90 (by decide)]; exact ⟨rfl, rfl⟩) (by rw [e 1 (by decide)]) (e 2 (by decide)) (e 5 (by decide)) (e 6 (by decide)) (e 91 (by decide)))
  · unfold MOm
    rw [e 94 (by decide), e 95 (by decide), e6]
    exact h.2.2.2.2.2.2.2.2.2.2
theorem gPtr_rn (hp : gPtr M) {q : Nat} (hq : q < 4) (z x : Int) : gPtr (rnM M (98 + 2 * q) z x) := by
  unfold rnM
  refine gPtr_set (gPtr_set hp (fun t ht e0 => ?_)) (fun t ht e0 => absurd e0 (gPt_ch q hq t ht).2)
  rw [(gPt_ch q hq t ht).1 e0]
  rfl
theorem rn_v (M : gMem) (q : Nat) (z x : Int) : rnM M (98 + 2 * q) z x (98 + 2 * q) = gUp (gUp (M (98 + 2 * q)) 0 z) 1 x ∧ rnM M (98 + 2 * q) z x (98 + 2 * q + 1) = rnW (M (98 + 2 * q + 1)) 60 ∧ ∀ i, i ≠ 98 + 2 * q → i ≠ 98 + 2 * q + 1 → rnM M (98 + 2 * q) z x i = M i := by
  unfold rnM
  refine ⟨?_, gSet_s _ _ _, fun i h1 h2 => ?_⟩
  · rw [gSet_n (by omega), gSet_s]
  · rw [gSet_n h2, gSet_n h1]
theorem st_map (h : InvX M nv np n k) (x z y : Int) : StI D ca mX8_map mX9_map [gI x, gI z, gI y] M := by
  by_cases q : (0 ≤ x ∧ x ≤ 3) ∧ (0 ≤ z ∧ z ≤ 2) ∧ y ≤ 60
  · by_cases q0 : y < 0
    · exact ⟨_, _, _, pX8_map_neg h.1 x z y ⟨q.1, q.2.1, q0⟩, pX9_map_neg h.2.1 x z y ⟨q.1, q.2.1, q0⟩, nv, np, n, k, h⟩
    · obtain ⟨c, e1⟩ := Int.eq_ofNat_of_zero_le q.1.1
      subst e1
      have hc : c < 4 := by omega
      have hp1 := gPtr_rn h.1.1 hc z y
      obtain ⟨v1, v2, v3⟩ := rn_v M c z y
      have hM1 : MS (rnM M (98 + 2 * c) z y) nv np := ⟨hp1, by rw [v3 106 (by omega) (by omega)]; exact h.2.1.2.1, h.2.1.2.2.1, by rw [v3 106 (by omega) (by omega)]; exact h.2.1.2.2.2.1, h.2.1.2.2.2.2⟩
      refine ⟨_, _, _, pX8_map h.1 c hc z y q.2.1 ⟨by omega, q.2.2⟩, pX9_map hM1 c hc z y q.2.1 ⟨by omega, q.2.2⟩, nv, np, n, k, ?_⟩
      have m0 : ∀ i, i ≠ 114 → i ≠ 115 → i ≠ 116 → mpM (rnM M (98 + 2 * c) z y) c z y i = rnM M (98 + 2 * c) z y i := fun i g1 g2 g3 => by
        unfold mpM
        rw [gSet_n g3, gSet_n g2, gSet_n g1]
      have m14 : mpM (rnM M (98 + 2 * c) z y) c z y 114 = gUp (M 114) c z := by
        show gUp (rnM M (98 + 2 * c) z y 114) c z = _
        rw [v3 114 (by omega) (by omega)]
      have m15 : mpM (rnM M (98 + 2 * c) z y) c z y 115 = gUp (M 115) c y := by
        show gUp (rnM M (98 + 2 * c) z y 115) c y = _
        rw [v3 115 (by omega) (by omega)]
      have m16 : mpM (rnM M (98 + 2 * c) z y) c z y 116 = zcS (60 * c) (M 116) 60 := by
        show zcS (60 * c) (rnM M (98 + 2 * c) z y 116) 60 = _
        rw [v3 116 (by omega) (by omega)]
      refine InvX_ch h (MS_row (i := 116) (r := zcS (60 * c) ((rnM M (98 + 2 * c) z y) 116) 60) (MS_row (i := 115) (r := gUp ((rnM M (98 + 2 * c) z y) 115) c y) (MS_row (i := 114) (r := gUp ((rnM M (98 + 2 * c) z y) 114) c z) hM1 rfl) rfl) rfl).1 (fun i g0 g1 g2 g3 => by rw [m0 i g1 g2 g3, v3 i (by omega) (by omega)]) (fun p hp => ?_)
      rw [m14, m15, m16, m0 (98 + 2 * p) (by omega) (by omega) (by omega), m0 (98 + 2 * p + 1) (by omega) (by omega) (by omega)]
      by_cases w : p = c
      · subst w
        rw [v1, v2, gUp_s, gUp_s, gUp_s, gUp_n (show (0 : Nat) ≠ 1 by decide), gUp_s]
        obtain ⟨s, e2⟩ := Int.eq_ofNat_of_zero_le (show 0 ≤ y by omega)
        refine ⟨Or.inr ⟨rfl, q.2.1⟩, rfl, ⟨s, by omega, e2⟩, fun j hj => ?_⟩
        rw [zcS_v, if_pos (by omega), rnW_v, if_pos hj]
      · rw [v3 (98 + 2 * p) (by omega) (by omega), v3 (98 + 2 * p + 1) (by omega) (by omega), gUp_n w, gUp_n w]
        obtain ⟨g1, g2, g3, g4⟩ := h.2.2.2.2.2.2.1 p hp
        refine ⟨g1, g2, g3, fun j hj => ?_⟩
        rw [zcS_v, if_neg (by omega)]
        exact g4 j hj
  · exact ⟨_, _, _, pX8_map_bad h.1 x z y q, pX9_map_bad h.2.1 x z y q, nv, np, n, k, h⟩
theorem st_lay (h : InvX M nv np n k) (x i v : Int) : StI D ca mX8_lay mX9_lay [gI x, gI i, gJ v] M := by
  by_cases q : 0 ≤ x ∧ x ≤ 3
  · obtain ⟨c, e1⟩ := Int.eq_ofNat_of_zero_le q.1
    subst e1
    have hc : c < 4 := by omega
    obtain ⟨g1, g2, ⟨s, hs, es⟩, g4⟩ := h.2.2.2.2.2.2.1 c hc
    by_cases l : M (98 + 2 * c) 0 = -1
    · have l9 : M 114 c = -4 := by
        rcases g1 with g1 | g1
        · exact g1.2
        · omega
      exact ⟨_, _, _, pX8_lay_null h.1 c hc i v l, pX9_lay_null h.2.1 c hc i v l9, nv, np, n, k, h⟩
    · have l9 : M (98 + 2 * c) 0 = M 114 c ∧ 0 ≤ M 114 c ∧ M 114 c ≤ 2 := g1.resolve_left (fun z => l z.1)
      by_cases j : 0 ≤ i ∧ i ≤ (s : Int) - 1
      · obtain ⟨i, e2, hi⟩ := nat_of j
        subst e2
        have w0 : ∀ t, t ≠ 98 + 2 * c + 1 → wrM M (98 + 2 * c) i v t = M t := fun t ht => by
          unfold wrM
          rw [gSet_n ht]
        have w1 : wrM M (98 + 2 * c) i v (98 + 2 * c + 1) = gUp (M (98 + 2 * c + 1)) i (wrF (M (98 + 2 * c) 0) v) := by
          unfold wrM
          rw [gSet_s]
        have hp1 : gPtr (wrM M (98 + 2 * c) i v) := gPtr_set h.1.1 (fun t ht e0 => absurd e0 (gPt_ch c hc t ht).2)
        have hM1 : MS (wrM M (98 + 2 * c) i v) nv np := ⟨hp1, by rw [w0 106 (by omega)]; exact h.2.1.2.1, h.2.1.2.2.1, by rw [w0 106 (by omega)]; exact h.2.1.2.2.2.1, h.2.1.2.2.2.2⟩
        have r14 := w0 114 (by omega)
        have r15 := w0 115 (by omega)
        have r16 := w0 116 (by omega)
        refine ⟨_, _, _, pX8_lay h.1 c hc s es hs i hi v l, pX9_lay hM1 c hc s (by rw [r15, g2]; exact es) hs i hi v (by rw [r14]; omega), nv, np, n, k, ?_⟩
        rw [r14, r16, ← l9.1]
        refine InvX_ch h (MS_row (i := 116) (r := gUp (M 116) (60 * c + i) (wrF (M (98 + 2 * c) 0) v)) hM1 rfl).1 (fun t g0 _ _ g3 => by rw [gSet_n g3, w0 t (by omega)]) (fun p hp => ?_)
        rw [gSet_n (show 98 + 2 * p ≠ 116 by omega), gSet_n (show 98 + 2 * p + 1 ≠ 116 by omega), gSet_n (show 114 ≠ 116 by decide), gSet_n (show 115 ≠ 116 by decide), gSet_s, w0 (98 + 2 * p) (by omega), r14, r15]
        obtain ⟨b1, b2, b3, b4⟩ := h.2.2.2.2.2.2.1 p hp
        refine ⟨b1, b2, b3, fun j hj => ?_⟩
        by_cases w : p = c
        · subst w
          rw [w1]
          by_cases u : j = i
          · subst u
            rw [gUp_s, gUp_s]
          · rw [gUp_n (by omega), gUp_n u]
            exact b4 j hj
        · rw [w0 (98 + 2 * p + 1) (by omega), gUp_n (by omega)]
          exact b4 j hj
      · exact ⟨_, _, _, pX8_lay_ix h.1 c hc s es hs i v l j, pX9_lay_ix h.2.1 c hc s (by rw [g2]; exact es) hs i v (by omega) j, nv, np, n, k, h⟩
  · exact ⟨_, _, _, pX8_lay_bad h.1 x i v q, pX9_lay_bad h.2.1 x i v q, nv, np, n, k, h⟩
end MP
