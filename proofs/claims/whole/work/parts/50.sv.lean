/-! the survey's calls -/
theorem SvI_eq {ok : Nat → Bool} {W : Nat → T3} {z : T3} {n : Nat} {s s' : (Nat → Int) × (Nat → Int)} (h : SvI ok W z n s) (e1 : ∀ j, j < 9 → s'.1 j = s.1 j) (e2 : ∀ p, p < 10 → s'.2 p = s.2 p) : SvI ok W z n s' := by
  obtain ⟨h1, h2, h3, h4⟩ := h
  refine ⟨TI_eq h1 (e1 0 (by decide)) (e1 1 (by decide)) (e1 5 (by decide)) (e1 6 (by decide)), ?_, ?_, fun p hp => (e2 p hp).trans (h4 p hp)⟩
  · rw [e1 2 (by decide), e1 3 (by decide), e1 4 (by decide)]
    exact h2
  · rw [e1 7 (by decide), e1 8 (by decide)]
    exact h3
theorem fdS_congr {sk sk' : Nat → Bool} {W W' : Nat → T3} {z : T3} : ∀ n, (∀ c, c < n → sk c = sk' c ∧ W c = W' c) → fdS sk W z n = fdS sk' W' z n
  | 0, _ => rfl
  | n + 1, h => by
    simp only [fdS]
    rw [fdS_congr n (fun c hc => h c (by omega)), (h n (by omega)).1, (h n (by omega)).2]
theorem fdS_z {sk : Nat → Bool} {W : Nat → T3} {z z' : T3} : ∀ n, (fdS sk W z n).2 = (fdS sk W z' n).2
  | 0 => rfl
  | n + 1 => by
    have ih := fdS_z (sk := sk) (W := W) (z := z) (z' := z') n
    have e1 : ∀ z : T3, fdS sk W z (n + 1) = if sk n = true then (W n, fdN (fdS sk W z n).2 (n : Int) (W n)) else fdS sk W z n := fun z => rfl
    rw [e1, e1]
    by_cases q : sk n = true
    · rw [if_pos q, if_pos q, ih]
    · rw [if_neg q, if_neg q, ih]
theorem nrS_congr {sk sk' : Nat → Bool} {W W' : Nat → T3} {z : T3} : ∀ n, (∀ c, c < n → sk c = sk' c ∧ W c = W' c) → nrS sk W z n = nrS sk' W' z n
  | 0, _ => rfl
  | n + 1, h => by
    simp only [nrS]
    rw [nrS_congr n (fun c hc => h c (by omega)), (h n (by omega)).1, (h n (by omega)).2]
theorem nr_4 {sk : Nat → Bool} {W : Nat → T3} {z : T3} : ∀ n, (nrS sk W z n).2.1 = -4 → (nrS sk W z n).2.2 = -4
  | 0, _ => rfl
  | n + 1, h => by
    have e1 : nrS sk W z (n + 1) = if sk n = true then (W n, nrN (nrS sk W z n).2 (n : Int) (W n)) else nrS sk W z n := rfl
    rw [e1] at h ⊢
    by_cases q : sk n = true
    · rw [if_pos q] at h ⊢
      have h' : (nrN (nrS sk W z n).2 (n : Int) (W n)).1 = -4 := h
      show (nrN (nrS sk W z n).2 (n : Int) (W n)).2 = -4
      unfold nrN at h' ⊢
      split at h'
      · have : ((n : Nat) : Int) = -4 := h'
        omega
      · rename_i q2
        rw [if_neg q2]
        exact nr_4 n h'
    · rw [if_neg q] at h ⊢
      exact nr_4 n h
section SV
variable {D : va_G} {ca : Nat → ClassId} {M : gMem} {nv np n k : Nat}
abbrev okM (M : gMem) (np c : Nat) : Bool := alP (M 5) np (M 1 2) c
theorem sk_0 (h : InvX M nv np n k) {N : gMem} (e : sm9 M N) {c : Nat} (hc : c < 2 ^ np) : skF N np (-4) 0 c = okM M np c := by
  have h2 := p10 h.1.2.2.2.2
  unfold skF
  have e1 : a32 (c : Int) 0 = 0 := by
    have := a32n (a := c) (b := 0) (by omega)
    rw [Nat.and_zero] at this
    exact this
  rw [decide_eq_true (show (c : Int) ≠ -4 by omega), decide_eq_true e1, sm_al h e]
  rfl
theorem sk_p (h : InvX M nv np n k) {N : gMem} (e : sm9 M N) {c p : Nat} (hc : c < 2 ^ np) (hp : p < 10) : skF N np (-4) (l32 1 (p : Int)) c = (okM M np c && !c.testBit p) := by
  have h2 := p10 h.1.2.2.2.2
  unfold skF
  rw [decide_eq_true (show (c : Int) ≠ -4 by omega), sm_al h e, Bool.true_and, Bool.and_comm]
  congr 1
  by_cases q : c.testBit p = true
  · rw [q, decide_eq_false (fun z => by rw [(bit_m (by omega) (by omega)).mp z] at q; exact absurd q (by decide))]
    rfl
  · rw [Bool.not_eq_true] at q
    rw [q, decide_eq_true ((bit_m (by omega) (by omega)).mpr q)]
    rfl
theorem sk_b (h : InvX M nv np n k) {N : gMem} (e : sm9 M N) {c d : Nat} (hc : c < 2 ^ np) : skF N np (d : Int) 0 c = (okM M np c && decide (c ≠ d)) := by
  have h2 := p10 h.1.2.2.2.2
  unfold skF
  have e1 : a32 (c : Int) 0 = 0 := by
    have := a32n (a := c) (b := 0) (by omega)
    rw [Nat.and_zero] at this
    exact this
  rw [decide_eq_true e1, sm_al h e, Bool.true_and, Bool.and_comm]
  congr 1
  apply decide_eq_decide.mpr
  constructor <;> (intro q z; exact q (by omega))
theorem fd_0 (h : InvX M nv np n k) {N : gMem} (e : sm9 M N) (z : T3) : (fdM N nv np (-4) 0).2 = (fdS (okM M np) (WgM M nv np) z (2 ^ np)).2 := by
  unfold fdM
  rw [fdS_congr (sk' := okM M np) (W' := WgM M nv np) (2 ^ np) (fun c hc => ⟨sk_0 h e hc, sm_W h e c⟩)]
  exact fdS_z _
theorem fd_p (h : InvX M nv np n k) {N : gMem} (e : sm9 M N) (z : T3) {p : Nat} (hp : p < 10) : (fdM N nv np (-4) (l32 1 (p : Int))).2 = (fdS (fun c => okM M np c && !c.testBit p) (WgM M nv np) z (2 ^ np)).2 := by
  unfold fdM
  rw [fdS_congr (sk' := fun c => okM M np c && !c.testBit p) (W' := WgM M nv np) (2 ^ np) (fun c hc => ⟨sk_p h e hc hp, sm_W h e c⟩)]
  exact fdS_z _
theorem fd_b (h : InvX M nv np n k) {N : gMem} (e : sm9 M N) (z : T3) {d : Nat} : (fdM N nv np (d : Int) 0).2 = (fdS (fun c => okM M np c && decide (c ≠ d)) (WgM M nv np) z (2 ^ np)).2 := by
  unfold fdM
  rw [fdS_congr (sk' := fun c => okM M np c && decide (c ≠ d)) (W' := WgM M nv np) (2 ^ np) (fun c hc => ⟨sk_b h e hc, sm_W h e c⟩)]
  exact fdS_z _
theorem nr_0 (h : InvX M nv np n k) : nrM M nv np = nrS (okM M np) (WgM M nv np) (M 106 22, M 106 23, M 106 24) (2 ^ np) := by
  unfold nrM
  exact nrS_congr (2 ^ np) (fun c hc => ⟨Inv_al h c, sm_W h (sm9_rf M) c⟩)
/-- the survey that stands -/
theorem sv_F (h : InvX M nv np n k) (hs : SVF M nv np) (z : T3) : SvI (okM M np) (WgM M nv np) z (2 ^ np) (M 92, M 93) := by
  obtain ⟨f0, w0, h1, h2⟩ := hs
  rw [tkS_congr (ok' := okM M np) (ms' := fun c => (WgM M nv np c).1 * 1099511627776 + (WgM M nv np c).2.1) (fr' := fun c => (WgM M nv np c).2.2) (2 ^ np) (fun c hc => ⟨Inv_ok h c hc, (Inv_W h c).2.2.2.1, (Inv_W h c).2.2.2.2⟩)] at h1 h2
  exact SvI_eq (sv_I (fun c => ⟨(Inv_W h c).1.1, (Inv_W h c).2.1, (Inv_W h c).2.2.1⟩) (2 ^ np) (p10 h.1.2.2.2.2)) h1 h2
theorem svM_r (M : gMem) (nv np : Nat) : (M 0 8 = 0 → svM M nv np = gSet (gSet (gSet M 92 (svT M nv np).1) 93 (svT M nv np).2) 0 (gUp (M 0) 8 1)) ∧ (M 0 8 ≠ 0 → svM M nv np = M) := by
  unfold svM
  exact ⟨fun q => if_pos q, fun q => if_neg q⟩
theorem InvX_sv (h : InvX M nv np n k) : InvX (svM M nv np) nv np n k ∧ SVF (svM M nv np) nv np := by
  have hp := (CS_svM h.1).1
  by_cases q : M 0 8 = 0
  · have e0 := (svM_r M nv np).1 q
    have hS : SVF (svM M nv np) nv np := by
      rw [e0]
      exact ⟨M 92, M 93, fun j _ => rfl, fun p _ => rfl⟩
    refine ⟨?_, hS⟩
    have e : ∀ i, i ≠ 0 → i ≠ 92 → i ≠ 93 → svM M nv np i = M i := fun i h1 h2 h3 => svM_out ⟨h1, h2, h3⟩
    refine InvX_gen h hp (fun i hi _ => e i hi.1 (by have := hi.2.1; omega) (by have := hi.2.1; omega)) (fun j _ => by rw [e 106 (by decide) (by decide) (by decide)]) (CHm_eq h.2.2.2.2.2.2.1 (fun i h1 h2 => e i (by omega) (by omega) (by omega)) (e 114 (by decide) (by decide) (by decide)) (e 115 (by decide) (by decide) (by decide)) (e 116 (by decide) (by decide) (by decide))) ?_ (Or.inr hS) ?_
    · unfold PRm
      rw [e 96 (by decide) (by decide) (by decide), e 108 (by decide) (by decide) (by decide)]
      exact h.2.2.2.2.2.2.2.1
    · unfold MOm
      rw [e 94 (by decide) (by decide) (by decide), e 95 (by decide) (by decide) (by decide), e 106 (by decide) (by decide) (by decide)]
      exact h.2.2.2.2.2.2.2.2.2.2
  · rw [(svM_r M nv np).2 q]
    exact ⟨h, h.2.2.2.2.2.2.2.2.2.1.resolve_left q⟩
theorem r8_o {f : Nat → Int} {s : T3 × T5} {j : Nat} (h : j < 22 ∨ j = 32 ∨ j = 35 ∨ j = 38) : r8 f s j = f j := by
  unfold r8
  rw [gUp_n (by omega), gUp_n (by omega), gUp_n (by omega), gUp_n (by omega), gUp_n (by omega), gUp_n (by omega), gUp_n (by omega), gUp_n (by omega)]
theorem r5_o {f : Nat → Int} {s : T3 × (Int × Int)} {j : Nat} (h : j < 22 ∨ j = 32 ∨ j = 35 ∨ j = 38) : r5 f s j = f j := by
  unfold r5
  rw [gUp_n (by omega), gUp_n (by omega), gUp_n (by omega), gUp_n (by omega), gUp_n (by omega)]
theorem InvX_fd (h : InvX M nv np n k) (s : T3 × T5) : InvX (gSet (fyM M nv) 106 (r8 (M 106) s)) nv np n k := InvX_106 (InvX_fy h) (fun j hj => r8_o hj)
theorem InvX_nr (h : InvX M nv np n k) (s : T3 × (Int × Int)) : InvX (gSet (fyM M nv) 106 (r5 (M 106) s)) nv np n k := InvX_106 (InvX_fy h) (fun j hj => r5_o hj)
/-- what the survey and the search for the least have in common -/
theorem sv_fd (h : InvX M nv np n k) (hs : SVF M nv np) : M 92 1 = (fdM M nv np (-4) 0).2.1 ∧ M 92 2 = (fdM M nv np (-4) 0).2.2.2.1 ∧ (if M 92 2 = 0 then -4 else M 92 0) = (fdM M nv np (-4) 0).2.2.1 ∧ (M 92 2 = 0 ↔ (fdM M nv np (-4) 0).2.1 = -4) := by
  have F := sv_F h hs (0, 0, 0)
  have e0 := fd_0 h (sm9_rf M) (0, 0, 0)
  obtain ⟨F1, F2, F3⟩ := fd_FI (sk := okM M np) (W := WgM M nv np) (z := (0, 0, 0)) (2 ^ np) (p10 h.1.2.2.2.2)
  rw [e0]
  obtain ⟨T, ⟨s2, _⟩, _⟩ := F
  generalize fdS (okM M np) (WgM M nv np) (0, 0, 0) (2 ^ np) = y at F1 F2 F3 s2 ⊢
  have s2' : M 92 2 = y.2.2.2.1 := s2
  have b1 : M 92 1 = y.2.1 := isB_uniq T.1 F1
  refine ⟨b1, s2', ?_⟩
  rcases isB_nat F1 with q | ⟨m, q, _⟩
  · have f := F2 q
    rw [if_pos (by rw [s2']; exact f.2)]
    exact ⟨f.1.symm, fun _ => q, fun _ => by rw [s2']; exact f.2⟩
  · obtain ⟨f1, f2, f3⟩ := F3 m q
    have t := (T.2.2 m (b1.trans q)).1
    rw [if_neg (by rw [s2']; omega)]
    exact ⟨Eq.trans t f1.symm, fun z => by rw [s2'] at z; omega, fun z => by omega⟩
theorem st_least (h : InvX M nv np n k) : StJ D ca mX8_least mX9_least [] M := by
  obtain ⟨h1, hs⟩ := InvX_sv h
  refine ⟨_, _, _, pX8_least h.1, ?_, nv, np, n, k, InvX_fd h1 (fdM (svM M nv np) nv np (-4) 0)⟩
  rw [(sv_fd h1 hs).2.2.1]
  exact pX9_least h1.2.1 (Inv_H9 h1)
theorem st_best (h : InvX M nv np n k) : StI D ca mX8_best mX9_best [] M := by
  obtain ⟨h1, hs⟩ := InvX_sv h
  refine ⟨_, _, _, pX8_best h.1, ?_, nv, np, n, k, InvX_fd h1 (fdM (svM M nv np) nv np (-4) 0)⟩
  rw [(sv_fd h1 hs).1]
  exact pX9_best h1.2.1 (Inv_H9 h1)
theorem st_many (h : InvX M nv np n k) : StI D ca mX8_many mX9_many [] M := by
  obtain ⟨h1, hs⟩ := InvX_sv h
  refine ⟨_, _, _, pX8_many h.1, ?_, nv, np, n, k, InvX_fd h1 (fdM (svM M nv np) nv np (-4) 0)⟩
  rw [(sv_fd h1 hs).2.1]
  exact pX9_many h1.2.1 (Inv_H9 h1)
theorem st_every (h : InvX M nv np n k) (p : Int) : StI D ca mX8_every mX9_every [gI p] M := by
  by_cases q : 0 ≤ p ∧ p ≤ (np : Int) - 1
  · obtain ⟨p, e1, hp⟩ := nat_of q
    subst e1
    obtain ⟨h1, hs⟩ := InvX_sv h
    obtain ⟨g1, g2, g3, g4⟩ := sv_fd h1 hs
    have F := sv_F h1 hs (0, 0, 0)
    have e0 := fd_0 h1 (sm9_rf _) (0, 0, 0)
    obtain ⟨_, ⟨s2, s34, ⟨x, hx, ex⟩, ⟨y, hy, ey⟩⟩, _⟩ := F
    rw [← e0] at s34
    refine ⟨_, _, _, pX8_every h.1 p hp x y hx hy ex ey, ?_, nv, np, n, k, InvX_fd h1 (fdM (svM M nv np) nv np (-4) 0)⟩
    by_cases c : (svM M nv np) 92 2 = 0
    · rw [if_pos c]
      exact pX9_every_none h1.2.1 (Inv_H9 h1) p hp (by rw [← g2]; exact c)
    · rw [if_neg c]
      obtain ⟨t3, t4⟩ := s34 (fun z => c (g4.mpr z))
      exact pX9_every h1.2.1 (Inv_H9 h1) p hp (by rw [← g2]; exact c) x y hx hy (t3.symm.trans ex) (t4.symm.trans ey)
  · exact ⟨_, _, _, pX8_every_bad h.1 p q, pX9_every_bad h.2.1 p q, nv, np, n, k, h⟩
theorem st_second (h : InvX M nv np n k) (x : Int) (hx : in32 x) : StI D ca mX8_second mX9_second [gI x] M := by
  rcases ch_cases (x := x) (np := np) with ⟨c, hc, e0⟩ | ⟨b1, b2⟩
  · subst e0
    obtain ⟨h1, hs⟩ := InvX_sv h
    refine ⟨_, _, _, pX8_second h.1 c hc, ?_, nv, np, n, k, InvX_fd h1 (fdM (svM M nv np) nv np (c : Int) 0)⟩
    have F := sv_F h1 hs (0, 0, 0)
    have eb := fd_b h1 (sm9_rf _) (0, 0, 0) (d := c)
    obtain ⟨F1, _, _⟩ := fd_FI (sk := fun d => okM (svM M nv np) np d && decide (d ≠ c)) (W := WgM (svM M nv np) nv np) (z := (0, 0, 0)) (2 ^ np) (p10 h.1.2.2.2.2)
    rw [← eb] at F1
    have T := F.1
    have e1 : (if (svM M nv np) 92 1 = (c : Int) then (svM M nv np) 92 6 else (svM M nv np) 92 1) = (fdM (svM M nv np) nv np (c : Int) 0).2.1 := by
      refine isB_uniq (isB_iff (A := fun d => (okM (svM M nv np) np d = true ∧ (WgM (svM M nv np) nv np d).1 = 0) ∧ d ≠ c) ?_ ?_) F1
      · intro d _
        rw [Bool.and_eq_true, decide_eq_true_eq]
        exact ⟨fun z => ⟨⟨z.1.1, z.2⟩, z.1.2⟩, fun z => ⟨⟨z.1.1, z.2⟩, z.1.2⟩⟩
      · by_cases w : (svM M nv np) 92 1 = (c : Int)
        · rw [if_pos w]
          exact (T.2.2 c w).2.1
        · rw [if_neg w]
          rcases T.1 with ⟨t1, t2⟩ | ⟨m, t1, t2, t3, t4⟩
          · exact Or.inl ⟨t1, fun d hd hA => t2 d hd hA.1⟩
          · exact Or.inr ⟨m, t1, t2, ⟨t3, fun z => w (by rw [← z]; exact t1)⟩, fun d hd hA hm => t4 d hd hA.1 hm⟩
    rw [e1]
    exact pX9_second h1.2.1 (Inv_H9 h1) c hc
  · exact ⟨_, _, _, pX8_second_bad h.1 x hx b1, pX9_second_bad h.2.1 x b2, nv, np, n, k, h⟩
theorem sv_w (h : InvX M nv np n k) (hs : SVF M nv np) {N : gMem} (e : sm9 M N) {p : Nat} (hp : p < 10) : M 93 p = (if (fdM N nv np (-4) (l32 1 (p : Int))).2.1 = -4 then 9223372036854775807 else (fdM N nv np (-4) (l32 1 (p : Int))).2.2.1) ∧ (if M 93 p = 9223372036854775807 then -4 else M 93 p) = (fdM N nv np (-4) (l32 1 (p : Int))).2.2.1 ∧ 0 ≤ M 93 p := by
  have F := (sv_F h hs (0, 0, 0)).2.2.2 p hp
  obtain ⟨F1, F2, F3⟩ := fd_FI (sk := fun c => okM M np c && !c.testBit p) (W := WgM M nv np) (z := (0, 0, 0)) (2 ^ np) (p10 h.1.2.2.2.2)
  rw [fd_p h e (0, 0, 0) hp]
  generalize fdS (fun c => okM M np c && !c.testBit p) (WgM M nv np) (0, 0, 0) (2 ^ np) = y at F F1 F2 F3 ⊢
  have F' : M 93 p = if y.2.1 = -4 then 9223372036854775807 else y.2.2.1 := F
  refine ⟨F', ?_⟩
  rw [F']
  rcases isB_nat F1 with q | ⟨m, q, _⟩
  · rw [if_pos q, if_pos rfl]
    exact ⟨(F2 q).1.symm, by decide⟩
  · have f1 := (F3 m q).1
    have w := (Inv_W h m).2.1
    have f1' : y.2.2.1 = (WgM M nv np m).2.1 := f1
    rw [if_neg (by omega), if_neg (by omega)]
    exact ⟨rfl, by omega⟩
theorem st_lose (h : InvX M nv np n k) (p : Int) : StJ D ca mX8_lose mX9_lose [gI p] M := by
  by_cases q : 0 ≤ p ∧ p ≤ (np : Int) - 1
  · obtain ⟨p, e1, hp⟩ := nat_of q
    subst e1
    have e5 : M 111 p = M 5 p := (h.2.2.2.1.2.2.2.1 p hp).2.1
    by_cases c : M 5 p = 3
    · exact ⟨_, _, _, pX8_lose_st h.1 p hp c, pX9_lose_st h.2.1 p hp (by rw [e5]; exact c), nv, np, n, k, h⟩
    · obtain ⟨h1, hs⟩ := InvX_sv h
      refine ⟨_, _, _, pX8_lose h.1 p hp c, ?_, nv, np, n, k, InvX_fd h1 (fdM (svM M nv np) nv np (-4) (l32 1 (p : Int)))⟩
      rw [(sv_w h1 hs (sm9_rf _) (p := p) (by have := h.1.2.2.2.2; omega)).2.1]
      exact pX9_lose h1.2.1 (Inv_H9 h1) p hp (by rw [svM_out (by decide), e5]; exact c)
  · exact ⟨_, _, _, pX8_lose_bad h.1 p q, pX9_lose_bad h.2.1 p q, nv, np, n, k, h⟩
theorem InvX_ws (h : InvX M nv np n k) : ∀ p, InvX (wo9M M nv np p) nv np n k ∧ sm9 M (wo9M M nv np p)
  | 0 => ⟨InvX_fd h _, fun i h1 h2 => fd_o (by omega) (by omega), rfl, rfl, rfl, rfl⟩
  | p + 1 => by
    obtain ⟨h1, h2⟩ := InvX_ws h p
    simp only [wo9M]
    split
    · exact ⟨h1, h2⟩
    · refine ⟨InvX_fd h1 _, fun i g1 g2 => (fd_o (by omega) (by omega)).trans (h2.1 i g1 g2), ?_, ?_, ?_, ?_⟩
      · exact h2.2.1
      · exact h2.2.2.1
      · exact h2.2.2.2.1
      · exact h2.2.2.2.2
theorem dl_wo (h : InvX M nv np n k) (hs : SVF M nv np) : ∀ p, p ≤ np → (dlS (M 5) (M 93) p).1 = (wo9S M nv np p).1 ∧ (dlS (M 5) (M 93) p).2 = (if (wo9S M nv np p).1 = -4 then -1 else (wo9S M nv np p).2) ∧ ((wo9S M nv np p).1 = -4 ∨ 0 ≤ (wo9S M nv np p).1)
  | 0, _ => ⟨rfl, rfl, Or.inl rfl⟩
  | p + 1, hp => by
    obtain ⟨i1, i2, i3⟩ := dl_wo h hs p (by omega)
    have e5 : M 111 p = M 5 p := (h.2.2.2.1.2.2.2.1 p (by omega)).2.1
    obtain ⟨w1, w2, w3⟩ := sv_w h hs (InvX_ws h p).2 (p := p) (by have := h.1.2.2.2.2; omega)
    have ev : wo9V M nv np p = M 93 p := w1.symm
    have eA : dlS (M 5) (M 93) (p + 1) = if M 5 p ≠ 3 ∧ (dlS (M 5) (M 93) p).2 < M 93 p then ((p : Int), M 93 p) else dlS (M 5) (M 93) p := rfl
    have eB : wo9S M nv np (p + 1) = if M 111 p ≠ 3 ∧ ((wo9S M nv np p).1 = -4 ∨ (wo9S M nv np p).2 < wo9V M nv np p) then ((p : Int), wo9V M nv np p) else wo9S M nv np p := rfl
    rw [eA, eB, i2, e5, ev]
    generalize wo9S M nv np p = y at i1 i2 i3 ⊢
    by_cases q : M 5 p ≠ 3 ∧ (y.1 = -4 ∨ y.2 < M 93 p)
    · rw [if_pos (show M 5 p ≠ 3 ∧ (if y.1 = -4 then -1 else y.2) < M 93 p from ⟨q.1, by split <;> omega⟩), if_pos q]
      refine ⟨rfl, ?_, Or.inr (by show (0 : Int) ≤ (p : Int); omega)⟩
      show M 93 p = if (p : Int) = -4 then -1 else M 93 p
      rw [if_neg (by omega)]
    · rw [if_neg (show ¬ (M 5 p ≠ 3 ∧ (if y.1 = -4 then -1 else y.2) < M 93 p) from fun z => q ⟨z.1, by have := z.2; split at this <;> omega⟩), if_neg q]
      exact ⟨i1, i2, i3⟩
theorem st_worst (h : InvX M nv np n k) : StI D ca mX8_worst mX9_worst [] M := by
  obtain ⟨h1, hs⟩ := InvX_sv h
  obtain ⟨g1, g2, g3, g4⟩ := sv_fd h1 hs
  by_cases c : (fdM (svM M nv np) nv np (-4) 0).2.1 = -4
  · refine ⟨_, _, _, pX8_worst h.1, ?_, nv, np, n, k, InvX_fd h1 (fdM (svM M nv np) nv np (-4) 0)⟩
    rw [if_pos (g4.mpr c)]
    exact pX9_worst_none h1.2.1 (Inv_H9 h1) c
  · refine ⟨_, _, _, pX8_worst h.1, ?_, nv, np, n, k, (InvX_ws h1 np).1⟩
    rw [if_neg (fun z => c (g4.mp z)), (dl_wo h1 hs np (Nat.le_refl _)).1]
    exact pX9_worst h1.2.1 (Inv_H9 h1) c
theorem st_farthest (h : InvX M nv np n k) : StI D ca mX8_farthest mX9_farthest [] M := by
  obtain ⟨h1, hs⟩ := InvX_sv h
  refine ⟨_, _, _, pX8_farthest h.1, ?_, nv, np, n, k, InvX_nr h1 (nrM (svM M nv np) nv np)⟩
  have e1 : (if (svM M nv np) 92 8 = -4 then -4 else (svM M nv np) 92 7) = (nrM (svM M nv np) nv np).2.2 := by
    rw [nr_0 h1]
    obtain ⟨_, _, ⟨s8, s7⟩, _⟩ := sv_F h1 hs ((svM M nv np) 106 22, (svM M nv np) 106 23, (svM M nv np) 106 24)
    have s8' : (svM M nv np) 92 8 = _ := s8
    have s7' : (svM M nv np) 92 7 = _ := s7
    rw [s8', s7']
    by_cases c : (nrS (okM (svM M nv np) np) (WgM (svM M nv np) nv np) ((svM M nv np) 106 22, (svM M nv np) 106 23, (svM M nv np) 106 24) (2 ^ np)).2.1 = -4
    · rw [if_pos c, nr_4 _ c]
    · rw [if_neg c, if_neg c]
  rw [e1]
  exact pX9_farthest h1.2.1 (Inv_H9 h1)
theorem st_nearest (h : InvX M nv np n k) : StI D ca mX8_nearest mX9_nearest [] M := by
  obtain ⟨h1, hs⟩ := InvX_sv h
  refine ⟨_, _, _, pX8_nearest h.1, ?_, nv, np, n, k, InvX_nr h1 (nrM (svM M nv np) nv np)⟩
  have e1 : (svM M nv np) 92 8 = (nrM (svM M nv np) nv np).2.1 := by
    rw [nr_0 h1]
    exact (sv_F h1 hs ((svM M nv np) 106 22, (svM M nv np) 106 23, (svM M nv np) 106 24)).2.2.1.1
  rw [e1]
  exact pX9_nearest h1.2.1 (Inv_H9 h1)
end SV
