/-! prices, worths, the bound: both sides -/
def POK (P : Nat → Int) (nv : Nat) : Prop := ∀ v, v < nv → 0 ≤ P v ∧ P v ≤ 100000000
section PUR
variable {B car K U P P' : Nat → Int} {C : Nat → Nat → Int} {nv np : Nat}
theorem gi_gn {p v : Nat} (hC : okC (C p v)) (hcar : car (p * 12 + v) = phI (C p v)) (hP : P v = P' v) : giS B car P p v = gnF B P' C p v := by
  unfold giS gnF
  rw [hcar, hP]
  unfold okC at hC
  by_cases c : C p v = -4
  · have e0 : phI (C p v) = 1000000 := by unfold phI; rw [if_pos c]
    rw [e0, if_pos (Or.inr rfl), if_pos (Or.inr c)]
  · have e0 : phI (C p v) = C p v := by unfold phI; rw [if_neg c]
    rw [e0]
    by_cases b : B v = 0
    · rw [if_pos (Or.inl b), if_pos (Or.inl b)]
    · rw [if_neg (by omega), if_neg (by omega), Int.max_def]
      split <;> split <;> omega
theorem gn_bd {p v : Nat} (hC : okC (C p v)) (hB : 0 ≤ B v ∧ B v ≤ 1000) (hP : 0 ≤ P v ∧ P v ≤ 100000000) : 0 ≤ gnF B P C p v ∧ gnF B P C p v ≤ 100000000 := by
  unfold gnF
  by_cases c : B v = 0 ∨ C p v = -4
  · rw [if_pos c]; omega
  · rw [if_neg c]
    have hb : 0 ≤ C p v ∧ C p v ≤ 13000 := hC.resolve_left (fun q => c (Or.inr q))
    have p1 : 0 ≤ B v * C p v := Int.mul_nonneg hB.1 hb.1
    have p2 : B v * C p v ≤ 1000 * 13000 := Int.mul_le_mul hB.2 hb.2 hb.1 (by decide)
    generalize B v * C p v = z at p1 p2 ⊢
    rw [w64_id (x := z) (by unfold in64; omega), w64_id (by unfold in64; omega)]
    split <;> omega
theorem wv_eq {p : Nat} : ∀ n, (∀ v, v < n → okC (C p v) ∧ car (p * 12 + v) = phI (C p v) ∧ P v = P' v) → wvS B K U car P p n = wvT B P' K U C p n
  | 0, _ => rfl
  | n + 1, h => by
    obtain ⟨h1, h2, h3⟩ := h n (by omega)
    simp only [wvS, wvT]
    rw [wv_eq n (fun v hv => h v (by omega)), gi_gn h1 h2 h3]
theorem wv_bd {p : Nat} (hU : 0 ≤ U p ∧ U p ≤ 100000) : ∀ n, n ≤ 12 → (∀ v, v < n → okC (C p v) ∧ (0 ≤ B v ∧ B v ≤ 1000) ∧ (0 ≤ P v ∧ P v ≤ 100000000)) → (- ocF K U p ≤ wvT B P K U C p n ∧ wvT B P K U C p n ≤ 100000000 * n)
  | 0, _, _ => by
    have hb : 0 ≤ ocF K U p ∧ ocF K U p ≤ 100000 := by unfold ocF; split <;> omega
    simp only [wvT]
    rw [w32_id (by unfold in32; omega)]
    omega
  | n + 1, hn, h => by
    obtain ⟨h1, h2, h3⟩ := h n (by omega)
    have ih := wv_bd hU n (by omega) (fun v hv => h v (by omega))
    have hb : 0 ≤ ocF K U p ∧ ocF K U p ≤ 100000 := by unfold ocF; split <;> omega
    have hg := gn_bd h1 h2 h3
    simp only [wvT]
    rw [w64_id (by unfold in64; omega)]
    omega
theorem wo_eq {p : Nat} (hn : nv ≤ 12) (hU : 0 ≤ U p ∧ U p ≤ 100000) (hB : ∀ v, v < nv → 0 ≤ B v ∧ B v ≤ 1000) (hP : POK P nv) (hPe : ∀ v, v < nv → P v = P' v) (hC : ∀ v, v < nv → okC (C p v) ∧ car (p * 12 + v) = phI (C p v)) : woS B K U car P nv p = wtF B P' K U C nv p := by
  unfold woS wtF
  rw [wv_eq nv (fun v hv => ⟨(hC v hv).1, (hC v hv).2, hPe v hv⟩)]
  have hbd := wv_bd (K := K) (B := B) (P := P') (C := C) (p := p) hU nv hn (fun v hv => ⟨(hC v hv).1, hB v hv, by rw [← hPe v hv]; exact hP v hv⟩)
  by_cases k3 : K p = 3
  · have e0 : ocF K U p = 0 := by unfold ocF; rw [if_pos (Or.inr k3)]
    rw [e0] at hbd
    rw [if_neg (fun z => z.2 k3), Int.max_def]
    split <;> omega
  · by_cases c : wvT B P' K U C p nv < 0
    · rw [if_pos ⟨c, k3⟩, Int.max_def]
      split <;> omega
    · rw [if_neg (fun z => c z.1), Int.max_def]
      split <;> omega
theorem wv_congr {B' K' U' : Nat → Int} {C' : Nat → Nat → Int} {p : Nat} (hK : K p = K' p ∧ U p = U' p) : ∀ n, (∀ v, v < n → B v = B' v ∧ P v = P' v ∧ C p v = C' p v) → wvT B P K U C p n = wvT B' P' K' U' C' p n
  | 0, _ => by
    simp only [wvT, ocF]
    rw [hK.1, hK.2]
  | n + 1, h => by
    obtain ⟨h1, h2, h3⟩ := h n (by omega)
    simp only [wvT, gnF]
    rw [wv_congr hK n (fun v hv => h v (by omega)), h1, h2, h3]
theorem wt_congr {B' K' U' : Nat → Int} {C' : Nat → Nat → Int} {p : Nat} (hK : K p = K' p ∧ U p = U' p) (h : ∀ v, v < nv → B v = B' v ∧ P v = P' v ∧ C p v = C' p v) : wtF B P K U C nv p = wtF B' P' K' U' C' nv p := by
  unfold wtF
  rw [wv_congr hK nv h, hK.1]
theorem rw_v (wo Y : Nat → Int) : ∀ n p, rwS wo Y n p = if p < n then wo p else Y p
  | 0, p => by rw [if_neg (by omega)]; rfl
  | n + 1, p => by
    show gUp (rwS wo Y n) n (wo n) p = _
    by_cases q : p = n
    · subst q
      rw [gUp_s, if_pos (by omega)]
    · rw [gUp_n q, rw_v wo Y n p]
      by_cases q2 : p < n
      · rw [if_pos q2, if_pos (by omega)]
      · rw [if_neg q2, if_neg (by omega)]
theorem su_congr {Y Y' : Nat → Int} {c c' : Nat} : ∀ n, (∀ p, p < n → Y p = Y' p ∧ c.testBit p = c'.testBit p) → suS Y c n = suS Y' c' n
  | 0, _ => rfl
  | n + 1, h => by
    simp only [suS]
    rw [su_congr n (fun p hp => h p (by omega)), (h n (by omega)).1, (h n (by omega)).2]
theorem su_in (Y : Nat → Int) (c : Nat) : ∀ n, in64 (suS Y c n)
  | 0 => by unfold in64; simp only [suS]; omega
  | n + 1 => w64_in _
theorem auI_v (x : Int) (p : Nat) (Y : Nat → Int) : ∀ m, m ≤ 2 ^ p → ∀ c, auI x p Y m c = if 2 ^ p ≤ c ∧ c < 2 ^ p + m then w64 (Y (c - 2 ^ p) + x) else Y c
  | 0, _, c => by rw [if_neg (by omega)]; rfl
  | m + 1, hm, c => by
    have e1 : m ||| 2 ^ p = 2 ^ p + m := by
      have h3 := Nat.two_pow_add_eq_or_of_lt (show m < 2 ^ p by omega) 1
      rw [Nat.mul_one] at h3
      rw [Nat.or_comm, h3]
    show gUp (auI x p Y m) (m ||| 2 ^ p) (w64 (auI x p Y m m + x)) c = _
    rw [e1, auI_v x p Y m (by omega) m, if_neg (by omega)]
    by_cases q : c = 2 ^ p + m
    · subst q
      rw [gUp_s, if_pos (by omega), show 2 ^ p + m - 2 ^ p = m by omega]
    · rw [gUp_n q, auI_v x p Y m (by omega) c]
      by_cases q2 : 2 ^ p ≤ c ∧ c < 2 ^ p + m
      · rw [if_pos q2, if_pos (by omega)]
      · rw [if_neg q2, if_neg (by omega)]
theorem au_su (wo Y : Nat → Int) : ∀ n c, c < 2 ^ n → auO wo Y n c = suS wo c n
  | 0, c, hc => by
    have : c = 0 := by simpa using hc
    subst this
    show gUp Y 0 0 0 = 0
    exact gUp_s _ _ _
  | n + 1, c, hc => by
    have hp : 2 ^ (n + 1) = 2 * 2 ^ n := by rw [Nat.pow_succ]; omega
    show auI (wo n) n (auO wo Y n) (2 ^ n) c = w64 (suS wo c n + if c.testBit n = true then wo n else 0)
    rw [auI_v _ _ _ _ (Nat.le_refl _)]
    by_cases q : 2 ^ n ≤ c
    · rw [if_pos ⟨q, by omega⟩, au_su wo Y n _ (by omega)]
      have hb : c.testBit n = true := by
        rw [Nat.testBit_eq_decide_div_mod_eq]
        apply decide_eq_true
        have : c / 2 ^ n = 1 := by
          apply Nat.div_eq_of_lt_le <;> omega
        rw [this]
      rw [if_pos hb]
      congr 2
      refine su_congr n (fun p hp2 => ⟨rfl, ?_⟩)
      have e2 : c = 2 ^ n * 1 + (c - 2 ^ n) := by omega
      rw [e2, Nat.testBit_two_pow_mul_add 1 (show c - 2 ^ n < 2 ^ n by omega), if_pos hp2, ← e2]
    · rw [if_neg (fun z => q z.1), au_su wo Y n c (by omega), if_neg (by rw [bit_out (show c < 2 ^ n by omega) (Nat.le_refl _)]; decide), Int.add_zero, w64_id (su_in _ _ _)]
theorem ft_ri {ok ok' : Nat → Bool} {Y su : Nat → Int} : ∀ n, (∀ c, c < n → ok c = ok' c ∧ Y c = su c) → ftS ok Y n = (ricS ok' su n).1 ∧ ((ricS ok' su n).1 ≠ -4 → (ricS ok' su n).2 = Y (ricS ok' su n).1.toNat)
  | 0, _ => ⟨rfl, fun h => absurd rfl h⟩
  | n + 1, h => by
    obtain ⟨i1, i2⟩ := ft_ri n (fun c hc => h c (by omega))
    obtain ⟨h1, h2⟩ := h n (by omega)
    simp only [ftS, ricS]
    rw [i1, h1, h2]
    by_cases q : (ricS ok' su n).1 = -4
    · by_cases q2 : ok' n = true
      · rw [if_pos ⟨q2, Or.inl q⟩, if_pos ⟨q2, Or.inl q⟩]
        exact ⟨rfl, fun _ => by show su n = Y ((n : Int).toNat); rw [Int.toNat_natCast, h2]⟩
      · rw [if_neg (fun z => q2 z.1), if_neg (fun z => q2 z.1)]
        exact ⟨rfl, i2⟩
    · rw [← i2 q]
      by_cases q2 : ok' n = true ∧ ((ricS ok' su n).1 = -4 ∨ (ricS ok' su n).2 < su n)
      · rw [if_pos q2, if_pos q2]
        exact ⟨rfl, fun _ => by show su n = Y ((n : Int).toNat); rw [Int.toNat_natCast, h2]⟩
      · rw [if_neg q2, if_neg q2]
        exact ⟨rfl, i2⟩
theorem ric_congr {ok ok' : Nat → Bool} {su su' : Nat → Int} : ∀ n, (∀ c, c < n → ok c = ok' c ∧ su c = su' c) → ricS ok su n = ricS ok' su' n
  | 0, _ => rfl
  | n + 1, h => by
    simp only [ricS]
    rw [ric_congr n (fun c hc => h c (by omega)), (h n (by omega)).1, (h n (by omega)).2]
theorem bo_congr {B' : Nat → Int} {x : Int} : ∀ n, (∀ v, v < n → B v = B' v ∧ P v = P' v) → boS B P x n = boS B' P' x n
  | 0, _ => rfl
  | n + 1, h => by
    simp only [boS]
    rw [bo_congr n (fun v hv => h v (by omega)), (h n (by omega)).1, (h n (by omega)).2]
/-- the richest choice and its sum, by pure rows -/
def RT (ok : Nat → Bool) (B P K U : Nat → Int) (C : Nat → Nat → Int) (nv np : Nat) : Int × Int := ricS ok (fun c => suS (fun p => wtF B P K U C nv p) c np) (2 ^ np)
def BN (ok : Nat → Bool) (B P K U : Nat → Int) (C : Nat → Nat → Int) (nv np : Nat) : Int := if (RT ok B P K U C nv np).1 = -4 then -4 else boS B P (w64 (- (RT ok B P K U C nv np).2)) nv
theorem RT_congr {ok ok' : Nat → Bool} {B' K' U' : Nat → Int} {C' : Nat → Nat → Int} (ho : ∀ c, c < 2 ^ np → ok c = ok' c) (hB : ∀ v, v < nv → B v = B' v) (hP : ∀ v, v < nv → P v = P' v) (hK : ∀ p, p < np → K p = K' p ∧ U p = U' p) (hC : ∀ p v, p < np → v < nv → C p v = C' p v) : RT ok B P K U C nv np = RT ok' B' P' K' U' C' nv np :=
  ric_congr _ (fun c hc => ⟨ho c hc, su_congr np (fun p hp => ⟨wt_congr (hK p hp) (fun v hv => ⟨hB v hv, hP v hv, hC p v hp hv⟩), rfl⟩)⟩)
theorem BN_congr {ok ok' : Nat → Bool} {B' K' U' : Nat → Int} {C' : Nat → Nat → Int} (ho : ∀ c, c < 2 ^ np → ok c = ok' c) (hB : ∀ v, v < nv → B v = B' v) (hP : ∀ v, v < nv → P v = P' v) (hK : ∀ p, p < np → K p = K' p ∧ U p = U' p) (hC : ∀ p v, p < np → v < nv → C p v = C' p v) : BN ok B P K U C nv np = BN ok' B' P' K' U' C' nv np := by
  unfold BN
  rw [RT_congr ho hB hP hK hC, bo_congr nv (fun v hv => ⟨hB v hv, hP v hv⟩)]
theorem riT_RT (A : gMem) (nv np : Nat) : riT A nv np = RT (alP (A 111) np (A 106 9)) (A 107) (A 108) (A 111) (A 112) (mcM A) nv np := by
  unfold riT RT riY
  exact ric_congr _ (fun c hc => ⟨rfl, su_congr np (fun p hp => ⟨by rw [rw_v, if_pos hp], rfl⟩)⟩)
theorem bnF_BN (A : gMem) (nv np : Nat) : bnF A nv np = BN (alP (A 111) np (A 106 9)) (A 107) (A 108) (A 111) (A 112) (mcM A) nv np := by
  unfold bnF BN
  rw [riT_RT]
/-- the class's top is the richest -/
theorem ft_RT {ok ok' : Nat → Bool} {Y : Nat → Int} (hn : nv ≤ 12) (hB : ∀ v, v < nv → 0 ≤ B v ∧ B v ≤ 1000) (hU : ∀ p, p < np → 0 ≤ U p ∧ U p ≤ 100000) (hP : POK P nv) (hC : ∀ p v, p < np → v < nv → okC (C p v)) (hcar : ∀ p v, p < np → v < nv → car (p * 12 + v) = phI (C p v)) (ho : ∀ c, c < 2 ^ np → ok c = ok' c) :
    ftS ok (auO (fun p => woS B K U car P nv p) Y np) (2 ^ np) = (RT ok' B P K U C nv np).1 ∧ ((RT ok' B P K U C nv np).1 ≠ -4 → btF (ftS ok (auO (fun p => woS B K U car P nv p) Y np) (2 ^ np)) (auO (fun p => woS B K U car P nv p) Y np) B P nv = BN ok' B P K U C nv np) := by
  have h := ft_ri (ok := ok) (ok' := ok') (Y := auO (fun p => woS B K U car P nv p) Y np) (su := fun c => suS (fun p => wtF B P K U C nv p) c np) (2 ^ np) (fun c hc => ⟨ho c hc, by
    rw [au_su _ _ np c hc]
    exact su_congr np (fun p hp => ⟨wo_eq hn (hU p hp) hB hP (fun _ _ => rfl) (fun v hv => ⟨hC p v hp hv, hcar p v hp hv⟩), rfl⟩)⟩)
  refine ⟨h.1, fun q => ?_⟩
  have h2 := h.2 q
  unfold btF BN
  rw [h.1]
  show boS B P (if (RT ok' B P K U C nv np).1 = -4 then 0 else w64 (- auO (fun p => woS B K U car P nv p) Y np (RT ok' B P K U C nv np).1.toNat)) nv = _
  rw [if_neg q, if_neg q, show (RT ok' B P K U C nv np).2 = auO (fun p => woS B K U car P nv p) Y np (RT ok' B P K U C nv np).1.toNat from h2]
end PUR
