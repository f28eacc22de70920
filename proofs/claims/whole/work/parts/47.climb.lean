/-! climb: both sides -/
section CLB
variable {B B' car K U : Nat → Int} {C : Nat → Nat → Int} {nv np : Nat}
theorem gi_gn2 {P P' : Nat → Int} {p v : Nat} (hC : okC (C p v)) (hcar : car (p * 12 + v) = phI (C p v)) (hB : B v = B' v) (hP : P v = P' v) : giS B car P p v = gnF B' P' C p v := by
  rw [gi_gn (P' := P') hC hcar hP]
  unfold gnF
  rw [hB]
theorem gv_eq {P P' : Nat → Int} {t v : Nat} (hB : B v = B' v) (hP : P v = P' v) : ∀ n, (∀ p, p < n → okC (C p v) ∧ car (p * 12 + v) = phI (C p v)) → gvS B car P t v n = gvN B' P' C t v n
  | 0, _ => rfl
  | n + 1, h => by
    simp only [gvS, gvN]
    rw [gv_eq hB hP n (fun p hp => h p (by omega)), gi_gn2 (h n (by omega)).1 (h n (by omega)).2 hB hP]
theorem gv_bd {P : Nat → Int} {t v : Nat} : ∀ n, n ≤ 10 → 0 ≤ gvN B P C t v n ∧ gvN B P C t v n ≤ n
  | 0, _ => ⟨Int.le_refl _, Int.le_refl _⟩
  | n + 1, hn => by
    have ih := gv_bd (P := P) (t := t) (v := v) n (by omega)
    simp only [gvN]
    by_cases q : t.testBit n = true ∧ 0 < gnF B P C n v
    · rw [if_pos q, w32_id (by unfold in32; omega)]
      omega
    · rw [if_neg q, w32_id (by unfold in32; omega)]
      omega
theorem mp_cp {x g s : Int} (hx : 0 ≤ x ∧ x ≤ 100000000) (hs : 1 ≤ s ∧ s ≤ 100000) (hg : 0 ≤ g) : mpF x g s = cpZ9 (cpY9 x g s) ∧ 0 ≤ mpF x g s ∧ mpF x g s ≤ 100000000 := by
  unfold mpF cpZ9 cpY9
  by_cases g0 : g = 0
  · rw [if_pos g0, if_pos g0, w64_id (by unfold in64; omega), Int.min_def]
    split <;> split <;> (try split) <;> omega
  · rw [if_neg g0, if_neg g0]
    by_cases g1 : g = 1
    · rw [if_pos g1, if_neg (show ¬ 1 < g by omega)]
      split <;> (try split) <;> omega
    · rw [if_neg g1, if_pos (show 1 < g by omega), w64_id (by unfold in64; omega), Int.max_def]
      split <;> split <;> (try split) <;> omega
theorem mv_eq {P P' : Nat → Int} {t : Nat} {s x : Int} (hn : nv ≤ 12) (hp : np ≤ 10) (hs : 1 ≤ s ∧ s ≤ 100000) (hx : 0 ≤ x ∧ x ≤ 10000) (hB : ∀ v, v < nv → B v = B' v) (hP : ∀ v, v < nv → P v = P' v ∧ 0 ≤ P v ∧ P v ≤ 100000000) (hC : ∀ p v, p < np → v < nv → okC (C p v)) (hcar : ∀ p v, p < np → v < nv → car (p * 12 + v) = phI (C p v)) :
    ∀ n, n ≤ nv → ((mvQ B' C t np s (x, P') n).1 = (mvP B car t np s P n).1 + x ∧ 0 ≤ (mvP B car t np s P n).1 ∧ (mvP B car t np s P n).1 ≤ n) ∧ (∀ v, v < nv → (mvP B car t np s P n).2 v = (mvQ B' C t np s (x, P') n).2 v ∧ 0 ≤ (mvP B car t np s P n).2 v ∧ (mvP B car t np s P n).2 v ≤ 100000000) ∧ (∀ v, nv ≤ v → (mvP B car t np s P n).2 v = P v)
  | 0, _ => by
    refine ⟨⟨?_, Int.le_refl _, Int.le_refl _⟩, hP, fun _ _ => rfl⟩
    show x = 0 + x
    omega
  | n + 1, hnn => by
    obtain ⟨⟨i1, i2, i3⟩, i4, i5⟩ := mv_eq (t := t) hn hp hs hx hB hP hC hcar n (by omega)
    obtain ⟨j1, j2, j3⟩ := i4 n (by omega)
    have eB := hB n (by omega)
    simp only [mvP, mvQ]
    generalize mvP B car t np s P n = z at i1 i2 i3 i4 i5 j1 j2 j3 ⊢
    generalize mvQ B' C t np s (x, P') n = y at i1 i4 j1 ⊢
    by_cases b : 0 < B n
    · rw [if_pos b, gv_eq (B' := B') (P' := y.2) (C := C) eB j1 np (fun p hp2 => ⟨hC p n hp2 (by omega), hcar p n hp2 (by omega)⟩), j1]
      have hg := (gv_bd (B := B') (C := C) (P := y.2) (t := t) (v := n) np hp).1
      generalize gvN B' y.2 C t n np = g at hg ⊢
      obtain ⟨m1, m2, m3⟩ := mp_cp (x := y.2 n) (g := g) (by rw [← j1]; exact ⟨j2, j3⟩) hs hg
      have ec : cpF9 (B' n) (y.2 n) g s = mpF (y.2 n) g s := by
        unfold cpF9
        rw [if_pos (by rw [← eB]; exact b), m1]
      rw [ec]
      generalize mpF (y.2 n) g s = r at m2 m3 ⊢
      refine ⟨?_, fun v hv => ?_, fun v hv => ?_⟩
      · by_cases q : r ≠ y.2 n
        · rw [if_pos q, w32_id (x := y.1 + 1) (by unfold in32; omega), w32_id (x := z.1 + 1) (by unfold in32; omega)]
          omega
        · rw [if_neg q, w32_id (x := y.1 + 0) (by unfold in32; omega), w32_id (x := z.1 + 0) (by unfold in32; omega)]
          omega
      · by_cases q : v = n
        · subst q
          show gUp z.2 v r v = gUp y.2 v r v ∧ 0 ≤ gUp z.2 v r v ∧ gUp z.2 v r v ≤ 100000000
          rw [gUp_s, gUp_s]
          exact ⟨rfl, m2, m3⟩
        · show gUp z.2 n r v = gUp y.2 n r v ∧ 0 ≤ gUp z.2 n r v ∧ gUp z.2 n r v ≤ 100000000
          rw [gUp_n q, gUp_n q]
          exact i4 v hv
      · show gUp z.2 n r v = P v
        rw [gUp_n (by omega)]
        exact i5 v hv
    · have ec : ∀ g, cpF9 (B' n) (y.2 n) g s = y.2 n := fun g => by
        unfold cpF9
        rw [if_neg (by rw [← eB]; exact b)]
      rw [if_neg b]
      simp only [ec]
      rw [if_neg (fun q => q rfl), gUp_id, w32_id (x := y.1 + 0) (by unfold in32; omega)]
      refine ⟨by omega, i4, i5⟩
end CLB
/-- the whole climb -/
theorem cb_eq {okc ok : Nat → Bool} {B K U car P0 Y0 : Nat → Int} {C : Nat → Nat → Int} {nv np t0 : Nat} {h0 s : Int} {A0 : gMem} (hn : nv ≤ 12) (hp : np ≤ 10) (hs : 1 ≤ s ∧ s ≤ 100000)
    (hB : ∀ v, v < nv → 0 ≤ B v ∧ B v ≤ 1000) (hU : ∀ p, p < np → 0 ≤ U p ∧ U p ≤ 100000) (hC : ∀ p v, p < np → v < nv → okC (C p v)) (hcar : ∀ p v, p < np → v < nv → car (p * 12 + v) = phI (C p v)) (ho : ∀ c, c < 2 ^ np → okc c = ok c) (hok : ∃ c, c < 2 ^ np ∧ ok c = true)
    (hA : MS A0 nv np) (aB : ∀ v, v < nv → B v = A0 107 v) (aK : ∀ p, p < np → K p = A0 111 p ∧ U p = A0 112 p) (aC : ∀ p v, p < np → v < nv → C p v = mcM A0 p v) (aO : ∀ c, c < 2 ^ np → ok c = alP (A0 111) np (A0 106 9) c)
    (hP : ∀ v, v < nv → P0 v = A0 108 v ∧ 0 ≤ P0 v ∧ P0 v ≤ 100000000) (ht : (RT ok B P0 K U C nv np).1 = (t0 : Int)) (hh : h0 = A0 106 38) :
    ∀ i, i ≤ 100 → ((cl9S A0 nv np s i).1 = (cbS okc B K U car nv np s (0, P0, Y0, t0, h0) i).1 ∧ 0 ≤ (cbS okc B K U car nv np s (0, P0, Y0, t0, h0) i).1 ∧ (cbS okc B K U car nv np s (0, P0, Y0, t0, h0) i).1 ≤ 12 * i) ∧
      (∀ v, v < nv → (cbS okc B K U car nv np s (0, P0, Y0, t0, h0) i).2.1 v = (cl9S A0 nv np s i).2 108 v ∧ 0 ≤ (cbS okc B K U car nv np s (0, P0, Y0, t0, h0) i).2.1 v ∧ (cbS okc B K U car nv np s (0, P0, Y0, t0, h0) i).2.1 v ≤ 100000000) ∧
      (∀ v, nv ≤ v → (cbS okc B K U car nv np s (0, P0, Y0, t0, h0) i).2.1 v = P0 v) ∧
      (RT ok B (cbS okc B K U car nv np s (0, P0, Y0, t0, h0) i).2.1 K U C nv np).1 = ((cbS okc B K U car nv np s (0, P0, Y0, t0, h0) i).2.2.2.1 : Int) ∧
      (cbS okc B K U car nv np s (0, P0, Y0, t0, h0) i).2.2.2.2 = (cl9S A0 nv np s i).2 106 38
  | 0, _ => ⟨⟨rfl, Int.le_refl _, Int.le_refl _⟩, hP, fun _ _ => rfl, ht, hh⟩
  | i + 1, hi => by
    obtain ⟨⟨i1, i2, i3⟩, i4, i5, i6, i7⟩ := cb_eq (Y0 := Y0) (okc := okc) (car := car) hn hp hs hB hU hC hcar ho hok hA aB aK aC aO hP ht hh i (by omega)
    obtain ⟨s1, s2, s3⟩ := cl9S_i (s := s) hA i
    have ex : cl9S A0 nv np s (i + 1) = ((cl9V (cl9S A0 nv np s i).2 nv np s (cl9S A0 nv np s i).1).1, cl9N (cl9S A0 nv np s i).2 nv np s) := rfl
    have ez : cbS okc B K U car nv np s (0, P0, Y0, t0, h0) (i + 1) = cbN okc B K U car nv np s (cbS okc B K U car nv np s (0, P0, Y0, t0, h0) i) := rfl
    rw [ex, ez]
    generalize cbS okc B K U car nv np s (0, P0, Y0, t0, h0) i = z at i1 i2 i3 i4 i5 i6 i7 ⊢
    generalize cl9S A0 nv np s i = y at i1 i4 i7 s1 s2 s3 ⊢
    have r107 : y.2 107 = A0 107 := s2 107 (by decide)
    have r110 : y.2 110 = A0 110 := s2 110 (by decide)
    have r111 : y.2 111 = A0 111 := s2 111 (by decide)
    have r112 : y.2 112 = A0 112 := s2 112 (by decide)
    have r113 : y.2 113 = A0 113 := s2 113 (by decide)
    have r124 : y.2 124 = A0 124 := s2 124 (by decide)
    have rmc : ∀ p v, mcM y.2 p v = mcM A0 p v := fun p v => by
      unfold mcM
      rw [r110, r111, r113, r124]
    have aB' : ∀ v, v < nv → B v = y.2 107 v := fun v hv => by rw [r107]; exact aB v hv
    have aK' : ∀ p, p < np → K p = y.2 111 p ∧ U p = y.2 112 p := fun p hp2 => by rw [r111, r112]; exact aK p hp2
    have aC' : ∀ p v, p < np → v < nv → C p v = mcM y.2 p v := fun p v h1 h2 => by rw [rmc]; exact aC p v h1 h2
    have aO' : ∀ c, c < 2 ^ np → ok c = alP (y.2 111) np (y.2 106 9) c := fun c hc => by rw [r111, s3]; exact aO c hc
    have et : (riT y.2 nv np).1.toNat = z.2.2.2.1 := by
      rw [riT_RT, ← RT_congr aO' aB' (fun v hv => (i4 v hv).1) aK' aC', i6, Int.toNat_natCast]
    have hC' : ∀ p v, p < np → v < nv → okC (mcM y.2 p v) := fun p v h1 h2 => by rw [← aC' p v h1 h2]; exact hC p v h1 h2
    have hcar' : ∀ p v, p < np → v < nv → car (p * 12 + v) = phI (mcM y.2 p v) := fun p v h1 h2 => by rw [← aC' p v h1 h2]; exact hcar p v h1 h2
    obtain ⟨⟨m1, m2, m3⟩, m4, m5⟩ := mv_eq (t := z.2.2.2.1) (x := y.1) hn hp hs (by omega) aB' i4 hC' hcar' nv (Nat.le_refl _)
    have ev : ∀ x, cl9V y.2 nv np s x = mvQ (y.2 107) (mcM y.2) z.2.2.2.1 np s (x, y.2 108) nv := fun x => by
      unfold cl9V
      rw [et]
    have e0 : (cl9V y.2 nv np s 0).2 = (mvQ (y.2 107) (mcM y.2) z.2.2.2.1 np s (y.1, y.2 108) nv).2 := by
      rw [ev 0]
      exact mvQ_2 nv
    have e108 : cl9N y.2 nv np s 108 = (mvQ (y.2 107) (mcM y.2) z.2.2.2.1 np s (y.1, y.2 108) nv).2 := by
      rw [← e0]
      rfl
    rw [ev y.1]
    show (_ ∧ 0 ≤ (cbN okc B K U car nv np s z).1 ∧ _) ∧ _ ∧ _ ∧ _ ∧ (cbN okc B K U car nv np s z).2.2.2.2 = cl9N y.2 nv np s 106 38
    simp only [cbN]
    generalize hmv : mvP B car z.2.2.2.1 np s z.2.1 nv = mv at m1 m2 m3 m4 m5 ⊢
    have hPn : POK mv.2 nv := fun v hv => (m4 v hv).2
    obtain ⟨f1, f2⟩ := ft_RT (Y := z.2.2.1) (ok := okc) (ok' := ok) (B := B) (K := K) (U := U) (P := mv.2) (car := car) (C := C) (nv := nv) (np := np) hn hB hU hPn hC hcar ho
    obtain ⟨tt, ht1, ht2⟩ := ricS_some (su := fun c => suS (fun p => wtF B mv.2 K U C nv p) c np) hok
    have ht3 : (RT ok B mv.2 K U C nv np).1 = (tt : Int) := ht2
    have f2' := f2 (by rw [ht3]; omega)
    rw [f1, ht3] at f2'
    rw [f1, ht3, Int.toNat_natCast]
    refine ⟨?_, fun v hv => ?_, fun v hv => ?_, rfl, ?_⟩
    · rw [m1, i1, w32_id (by unfold in32; omega)]
      omega
    · rw [e108]
      exact m4 v hv
    · rw [m5 v hv]
      exact i5 v hv
    · rw [f2', i7]
      have eb : bnF (cl9B y.2 nv np s) nv np = BN ok B mv.2 K U C nv np := by
        rw [bnF_BN]
        refine (BN_congr aO' aB' (fun v hv => ?_) aK' aC').symm
        show mv.2 v = (cl9V y.2 nv np s 0).2 v
        rw [e0]
        exact (m4 v hv).1
      show max (y.2 106 38) (BN ok B mv.2 K U C nv np) = if y.2 106 38 < bnF (cl9B y.2 nv np s) nv np then bnF (cl9B y.2 nv np s) nv np else y.2 106 38
      rw [eb, Int.max_def]
      split <;> split <;> omega
