/-! carried ways, served, weighed, allowed: one picture of both sides -/
def mcD (K Q : Nat → Int) (p : Nat) (d : Int) : Int := if d = -4 ∨ (K p = 4 ∧ Q p < d) then -4 else if K p = 1 then d32 (w32 (d + 1)) 2 else d
def crF (L H K Q : Nat → Int) (nv p v : Nat) : Int := mcD K Q p (dsF L nv (H p).toNat v)
def okC (x : Int) : Prop := x = -4 ∨ (0 ≤ x ∧ x ≤ 13000)
theorem half_bd {d : Int} (h : 0 ≤ d ∧ d ≤ 13000) : 0 ≤ d32 (w32 (d + 1)) 2 ∧ d32 (w32 (d + 1)) 2 ≤ 13000 := by
  obtain ⟨n, e0⟩ := Int.eq_ofNat_of_zero_le h.1
  subst e0
  rw [w32_id (by unfold in32; omega), show ((n : Int) + 1) = ((n + 1 : Nat) : Int) by omega, show (2 : Int) = ((2 : Nat) : Int) from rfl, d32n (by omega) (by omega) (by omega)]
  omega
theorem mcD_ok {K Q : Nat → Int} {p : Nat} {d : Int} (h : okC d) : okC (mcD K Q p d) := by
  unfold mcD
  by_cases c : d = -4 ∨ (K p = 4 ∧ Q p < d)
  · rw [if_pos c]
    exact Or.inl rfl
  · rw [if_neg c]
    have hd : 0 ≤ d ∧ d ≤ 13000 := h.resolve_left (fun q => c (Or.inl q))
    split
    · exact Or.inr (half_bd hd)
    · exact h
theorem cv_mc {K Q : Nat → Int} {p : Nat} {d : Int} (h : okC d) : cvF K Q p (phI d) = phI (mcD K Q p d) := by
  unfold cvF mcD
  by_cases c : d = -4
  · have e0 : phI d = 1000000 := by unfold phI; rw [if_pos c]
    rw [e0, if_pos rfl, if_pos (Or.inl c)]
    rfl
  · have hd : 0 ≤ d ∧ d ≤ 13000 := h.resolve_left c
    have e0 : phI d = d := by unfold phI; rw [if_neg c]
    rw [e0, if_neg (by omega)]
    by_cases k1 : K p = 1
    · have hb := half_bd hd
      rw [if_pos k1, if_neg (by omega), if_pos k1]
      unfold phI
      rw [if_neg (by omega)]
    · rw [if_neg k1]
      by_cases k4 : K p = 4
      · rw [if_pos k4]
        by_cases q : Q p < d
        · rw [if_pos q, if_pos (Or.inr ⟨k4, q⟩)]
          rfl
        · rw [if_neg q, if_neg (by omega), if_neg k1, e0]
      · rw [if_neg k4, if_neg (by omega), if_neg k1, e0]
theorem crF_ok {L H K Q : Nat → Int} {nv : Nat} (hL : LOK L) (hn : nv ≤ 12) (p v : Nat) : okC (crF L H K Q nv p v) := mcD_ok (dsF_bd hL hn _ _)
theorem crF_congr {L L' H H' K K' Q Q' : Nat → Int} {nv p v : Nat} (hL : ∀ j, j < 144 → L j = L' j) (hH : H p = H' p) (hK : K p = K' p) (hQ : Q p = Q' p) : crF L H K Q nv p v = crF L' H' K' Q' nv p v := by
  unfold crF mcD dsF
  rw [rdR_congr hL, hH, hK, hQ]
theorem caI_v (K Q H S : Nat → Int) (p : Nat) (r : Nat → Int) : ∀ n x v : Nat, n ≤ 12 → v < 12 → caI K Q H S p r n (x * 12 + v) = if x = p ∧ v < n then cvF K Q p (S ((H p).toNat * 12 + v)) else r (x * 12 + v)
  | 0, x, v, _, hv => by rw [if_neg (by omega)]; rfl
  | n + 1, x, v, hn, hv => by
    show gUp (caI K Q H S p r n) (p * 12 + n) _ (x * 12 + v) = _
    by_cases q : x = p ∧ v = n
    · obtain ⟨q1, q2⟩ := q
      subst q1
      subst q2
      rw [gUp_s, if_pos ⟨rfl, by omega⟩]
    · rw [gUp_n (by omega), caI_v K Q H S p r n x v (by omega) hv]
      by_cases q2 : x = p ∧ v < n
      · rw [if_pos q2, if_pos (by omega)]
      · rw [if_neg q2, if_neg (by omega)]
theorem caO_v (K Q H S : Nat → Int) (nv : Nat) (r : Nat → Int) (hn : nv ≤ 12) : ∀ n x v : Nat, v < nv → caO K Q H S nv r n (x * 12 + v) = if x < n then cvF K Q x (S ((H x).toNat * 12 + v)) else r (x * 12 + v)
  | 0, x, v, hv => by rw [if_neg (by omega)]; rfl
  | n + 1, x, v, hv => by
    show caI K Q H S n (caO K Q H S nv r n) nv (x * 12 + v) = _
    rw [caI_v K Q H S n _ nv x v hn (by omega), caO_v K Q H S nv r hn n x v hv]
    by_cases q : x = n
    · subst q
      rw [if_pos ⟨rfl, hv⟩, if_pos (by omega)]
    · rw [if_neg (by omega)]
      by_cases q2 : x < n
      · rw [if_pos q2, if_pos (by omega)]
      · rw [if_neg q2, if_neg (by omega)]
theorem svS_congr {f g : Nat → Int} {c : Nat} : ∀ n, (∀ p, p < n → f p = g p) → svS f c n = svS g c n
  | 0, _ => rfl
  | n + 1, h => by
    simp only [svS]
    rw [svS_congr n (fun p hp => h p (by omega)), h n (by omega)]
    by_cases q : svS g c n = -4
    · simp [q]
    · have e0 : f (svS g c n).toNat = g (svS g c n).toNat := by
        obtain ⟨p, hp, ep⟩ := svS_nat g c n q
        rw [ep, Int.toNat_natCast]
        exact h p (by omega)
      rw [e0]
theorem svS_ok {f : Nat → Int} {c : Nat} : ∀ n, svS f c n ≠ -4 → f (svS f c n).toNat ≠ -4
  | 0, h => absurd rfl h
  | n + 1, h => by
    simp only [svS] at h ⊢
    split at h
    · next q =>
      rw [if_pos q, Int.toNat_natCast]
      exact q.2.1
    · next q =>
      rw [if_neg q]
      exact svS_ok n h
theorem of_sv {car C : Nat → Int} {c v : Nat} : ∀ n, (∀ p, p < n → car (p * 12 + v) = phI (C p)) → (∀ p, p < n → okC (C p)) → (ofS car c v n).1 = svS C c n ∧ (ofS car c v n).2 = (if svS C c n = -4 then 1000000 else C (svS C c n).toNat)
  | 0, _, _ => ⟨rfl, rfl⟩
  | n + 1, h, hk => by
    obtain ⟨i1, i2⟩ := of_sv (c := c) (v := v) n (fun p hp => h p (by omega)) (fun p hp => hk p (by omega))
    have b := hk n (by omega)
    unfold okC at b
    have hiff : (c.testBit n = true ∧ phI (C n) < (if svS C c n = -4 then 1000000 else C (svS C c n).toNat)) ↔ (c.testBit n = true ∧ C n ≠ -4 ∧ (svS C c n = -4 ∨ C n < C (svS C c n).toNat)) := by
      apply and_congr_right
      intro _
      by_cases q : svS C c n = -4
      · rw [if_pos q]
        unfold phI
        split <;> omega
      · rw [if_neg q]
        obtain ⟨p, hp, ep⟩ := svS_nat C c n q
        have b2 := hk p (by omega)
        unfold okC at b2
        rw [ep, Int.toNat_natCast]
        unfold phI
        split <;> omega
    by_cases m : c.testBit n = true ∧ C n ≠ -4 ∧ (svS C c n = -4 ∨ C n < C (svS C c n).toNat)
    · have e2 : svS C c (n + 1) = (n : Int) := if_pos m
      have e1 : ofS car c v (n + 1) = ((n : Int), phI (C n)) := by
        simp only [ofS]
        rw [i2, h n (by omega)]
        exact if_pos (hiff.mpr m)
      rw [e1, e2]
      refine ⟨rfl, ?_⟩
      show phI (C n) = if (n : Int) = -4 then 1000000 else C (n : Int).toNat
      rw [if_neg (by omega), Int.toNat_natCast]
      unfold phI
      rw [if_neg m.2.1]
    · have e2 : svS C c (n + 1) = svS C c n := if_neg m
      have e1 : ofS car c v (n + 1) = ofS car c v n := by
        simp only [ofS]
        rw [i2, h n (by omega)]
        exact if_neg (fun z => m (hiff.mp z))
      rw [e1, e2]
      exact ⟨i1, i2⟩
def wgC (B : Nat → Int) (C : Nat → Nat → Int) (K U : Nat → Int) (nv np c : Nat) : T3 := wgS B (fun v => svS (fun p => C p v) c np) C (ocS K U c np) nv
theorem wgM_C (M : gMem) (nv np c : Nat) : wgM M nv np c = wgC (M 107) (mcM M) (M 111) (M 112) nv np c := rfl
theorem ocS_congr {K U K' U' : Nat → Int} {c : Nat} : ∀ n, (∀ p, p < n → K p = K' p ∧ U p = U' p) → ocS K U c n = ocS K' U' c n
  | 0, _ => rfl
  | n + 1, h => by
    simp only [ocS, ocF]
    rw [ocS_congr n (fun p hp => h p (by omega)), (h n (by omega)).1, (h n (by omega)).2]
theorem ocS_bd {K U : Nat → Int} {c : Nat} : ∀ n, n ≤ 10 → (∀ p, p < n → 0 ≤ U p ∧ U p ≤ 100000) → 0 ≤ ocS K U c n ∧ ocS K U c n ≤ 100000 * n
  | 0, _, _ => ⟨Int.le_refl _, Int.le_refl _⟩
  | n + 1, hn, h => by
    have ih := ocS_bd (K := K) (U := U) (c := c) n (by omega) (fun p hp => h p (by omega))
    have b := h n (by omega)
    have b2 : 0 ≤ (if c.testBit n = true then ocF K U n else 0) ∧ (if c.testBit n = true then ocF K U n else 0) ≤ 100000 := by
      unfold ocF
      split
      · split <;> omega
      · omega
    simp only [ocS]
    rw [w64_id (by unfold in64; omega)]
    omega
theorem wgS_congr {B B' sv sv' : Nat → Int} {C C' : Nat → Nat → Int} {x : Int} : ∀ n, (∀ v, v < n → B v = B' v ∧ sv v = sv' v ∧ (sv' v ≠ -4 → C (sv' v).toNat v = C' (sv' v).toNat v)) → wgS B sv C x n = wgS B' sv' C' x n
  | 0, _ => rfl
  | n + 1, h => by
    obtain ⟨h1, h2, h3⟩ := h n (by omega)
    simp only [wgS]
    rw [wgS_congr n (fun v hv => h v (by omega)), h1, h2]
    by_cases q : sv' n = -4
    · simp [q]
    · rw [h3 q]
theorem wgC_congr {B B' K K' U U' : Nat → Int} {C C' : Nat → Nat → Int} {nv np c : Nat} (hB : ∀ v, v < nv → B v = B' v) (hC : ∀ p v, p < np → v < nv → C p v = C' p v) (hK : ∀ p, p < np → K p = K' p ∧ U p = U' p) : wgC B C K U nv np c = wgC B' C' K' U' nv np c := by
  unfold wgC
  rw [ocS_congr np hK]
  refine wgS_congr nv (fun v hv => ⟨hB v hv, svS_congr np (fun p hp => hC p v hp hv), fun q => ?_⟩)
  obtain ⟨p, hp, ep⟩ := svS_nat _ c np q
  have ep2 : svS (fun p => C' p v) c np = (p : Int) := ep
  show C (svS (fun p => C' p v) c np).toNat v = C' (svS (fun p => C' p v) c np).toNat v
  rw [ep2, Int.toNat_natCast]
  exact hC p v hp hv
theorem wg_all {B car : Nat → Int} {C : Nat → Nat → Int} {np c : Nat} {x : Int} (hx : 0 ≤ x ∧ x ≤ 1000000) : ∀ n, n ≤ 12 → (∀ v, v < n → 0 ≤ B v ∧ B v ≤ 1000) → (∀ p v, p < np → v < n → okC (C p v)) → (∀ p v, p < np → v < n → car (p * 12 + v) = phI (C p v)) →
    (0 ≤ (wgS B (fun v => svS (fun p => C p v) c np) C x n).1 ∧ (wgS B (fun v => svS (fun p => C p v) c np) C x n).1 ≤ n) ∧ (0 ≤ (wgS B (fun v => svS (fun p => C p v) c np) C x n).2.1 ∧ (wgS B (fun v => svS (fun p => C p v) c np) C x n).2.1 ≤ 1000000 + n * 13000000) ∧ (0 ≤ (wgS B (fun v => svS (fun p => C p v) c np) C x n).2.2 ∧ (wgS B (fun v => svS (fun p => C p v) c np) C x n).2.2 ≤ 13000) ∧ mvS B car np c x n = (wgS B (fun v => svS (fun p => C p v) c np) C x n).1 * 1099511627776 + (wgS B (fun v => svS (fun p => C p v) c np) C x n).2.1 ∧ fwS B car np c n = (wgS B (fun v => svS (fun p => C p v) c np) C x n).2.2
  | 0, _, _, _, _ => by
    refine ⟨⟨Int.le_refl _, Int.le_refl _⟩, ⟨hx.1, ?_⟩, ⟨Int.le_refl _, by show (0 : Int) ≤ 13000; omega⟩, ?_, rfl⟩
    · show x ≤ 1000000 + ((0 : Nat) : Int) * 13000000
      omega
    · show x = 0 * 1099511627776 + x
      omega
  | n + 1, hn, hB, hC, hcar => by
    obtain ⟨i1, i2, i3, i4, i5⟩ := wg_all (car := car) (c := c) hx n (by omega) (fun v hv => hB v (by omega)) (fun p v hp hv => hC p v hp (by omega)) (fun p v hp hv => hcar p v hp (by omega))
    have b := hB n (by omega)
    have o1 := (of_sv (c := c) (v := n) np (fun p hp => hcar p n hp (by omega)) (fun p hp => hC p n hp (by omega))).1
    simp only [wgS, mvS, fwS]
    rw [o1, i4, i5]
    generalize wgS B (fun v => svS (fun p => C p v) c np) C x n = w at i1 i2 i3 ⊢
    by_cases c1 : 0 < B n
    · rw [if_pos c1, if_pos c1]
      by_cases q : svS (fun p => C p n) c np = -4
      · rw [if_pos q, if_pos q, if_neg (fun z => z.2 q)]
        rw [w32_id (x := w.1 + 1) (by unfold in32; omega), w64_id (by unfold in64; omega)]
        refine ⟨?_, ?_, ?_, ?_, rfl⟩ <;> (simp only []; omega)
      · rw [if_neg q, if_neg q, if_pos (show 0 < B n ∧ svS (fun p => C p n) c np ≠ -4 from ⟨c1, q⟩)]
        have ok := svS_ok np q
        obtain ⟨p, hp, ep⟩ := svS_nat (fun p => C p n) c np q
        rw [ep, Int.toNat_natCast] at ok ⊢
        have hb : 0 ≤ C p n ∧ C p n ≤ 13000 := (hC p n hp (by omega)).resolve_left ok
        have ec : car (p * 12 + n) = C p n := by
          rw [hcar p n hp (by omega)]
          unfold phI
          rw [if_neg ok]
        rw [ec]
        have p1 : 0 ≤ B n * C p n := Int.mul_nonneg b.1 hb.1
        have p2 : B n * C p n ≤ 1000 * 13000 := Int.mul_le_mul b.2 hb.2 hb.1 (by decide)
        generalize B n * C p n = z at p1 p2 ⊢
        rw [w64_id (x := z) (by unfold in64; omega), w64_id (x := w.2.1 + z) (by unfold in64; omega), w64_id (by unfold in64; omega)]
        refine ⟨?_, ?_, ?_, ?_, ?_⟩ <;> simp only []
        · omega
        · omega
        · split <;> omega
        · omega
        · rw [Int.max_def]
          split <;> split <;> omega
    · rw [if_neg c1, if_neg c1, if_neg (fun z => c1 z.1)]
      refine ⟨?_, ?_, i3, rfl, rfl⟩ <;> omega
/-- what both sides weigh: the bounds, and the class's numbers out of it -/
theorem wgC_all {B car K U : Nat → Int} {C : Nat → Nat → Int} {nv np : Nat} (hn : nv ≤ 12) (hp : np ≤ 10) (hB : ∀ v, v < nv → 0 ≤ B v ∧ B v ≤ 1000) (hU : ∀ p, p < np → 0 ≤ U p ∧ U p ≤ 100000) (hC : ∀ p v, p < np → v < nv → okC (C p v)) (hcar : ∀ p v, p < np → v < nv → car (p * 12 + v) = phI (C p v)) (c : Nat) :
    (0 ≤ (wgC B C K U nv np c).1 ∧ (wgC B C K U nv np c).1 ≤ 12) ∧ (0 ≤ (wgC B C K U nv np c).2.1 ∧ (wgC B C K U nv np c).2.1 ≤ 200000000) ∧ (0 ≤ (wgC B C K U nv np c).2.2 ∧ (wgC B C K U nv np c).2.2 ≤ 13000) ∧ meS B K U car nv np c = (wgC B C K U nv np c).1 * 1099511627776 + (wgC B C K U nv np c).2.1 ∧ fwS B car np c nv = (wgC B C K U nv np c).2.2 := by
  have h0 := ocS_bd (K := K) (U := U) (c := c) np hp hU
  have h := wg_all (B := B) (car := car) (C := C) (np := np) (c := c) (x := ocS K U c np) (by omega) nv hn hB hC hcar
  unfold wgC meS
  obtain ⟨h1, h2, h3, h4, h5⟩ := h
  refine ⟨⟨h1.1, by omega⟩, ⟨h2.1, by omega⟩, h3, h4, h5⟩
