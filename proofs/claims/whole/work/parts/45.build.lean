/-! ovens put up and changed: both sides -/
section BLD
variable {ok ok' : Nat → Bool} {W : Nat → T3} {b0 : Nat} {rank : Nat → Nat}
def msW (W : Nat → T3) (c : Nat) : Int := (W c).1 * 1099511627776 + (W c).2.1
def WOK (W : Nat → T3) : Prop := ∀ c, 0 ≤ (W c).1 ∧ (0 ≤ (W c).2.1 ∧ (W c).2.1 ≤ 200000000)
theorem ls_ms (hW : WOK W) (d e : Nat) : lsB (W d) (W e).1 (W e).2.1 = true ↔ msW W d < msW W e := by
  have h1 := hW d
  have h2 := hW e
  unfold msW
  constructor
  · intro h
    have := lsB_i h
    omega
  · intro h
    exact lsB_t (by omega)
/-- what both sides have found so far, from c on -/
def JR (W : Nat → T3) (rank : Nat → Nat) (b0 c : Nat) (t : T3 × Int × Int × Int) (g : Nat → Int) : Prop := ∃ e : Nat, g 2 = (e : Int) ∧ t.2.1 = (W e).1 ∧ t.2.2.1 = (W e).2.1 ∧ g 3 = msW W e ∧ ((e = c ∧ t.2.2.2 = -4) ∨ (e ≠ c ∧ t.2.2.2 = (e : Int) ∧ e < b0 ∧ msW W e < msW W c ∧ rank e < rank c))
theorem JR_step (hW : WOK W) {c d : Nat} {t : T3 × Int × Int × Int} {g : Nat → Int} (ho : ok d = ok' d) (hd : d < b0) (hdc : d ≠ c) (hr : msW W d < msW W c → rank d < rank c) (h : JR W rank b0 c t g) : JR W rank b0 c (amN ok' W t d) (coF ok (msW W) g d) := by
  obtain ⟨e, h1, h2, h3, h4, h5⟩ := h
  unfold amN coF
  rw [ho, h2, h3, h4]
  by_cases q : ok' d = true
  · rw [if_pos q]
    have hl := ls_ms hW d e
    by_cases q2 : msW W d < msW W e
    · have q3 := hl.mpr q2
      rw [if_pos (show ok' d = true ∧ msW W d < msW W e from ⟨q, q2⟩)]
      simp only [if_pos q3]
      have : msW W d < msW W c := by
        rcases h5 with h5 | h5
        · rw [← h5.1]; exact q2
        · omega
      exact ⟨d, rfl, rfl, rfl, rfl, Or.inr ⟨hdc, rfl, hd, this, hr this⟩⟩
    · have q3 : ¬ lsB (W d) (W e).1 (W e).2.1 = true := fun z => q2 (hl.mp z)
      rw [if_neg (show ¬ (ok' d = true ∧ msW W d < msW W e) from fun z => q2 z.2)]
      simp only [if_neg q3]
      exact ⟨e, h1, rfl, rfl, h4, h5⟩
  · rw [if_neg q, if_neg (show ¬ (ok' d = true ∧ msW W d < msW W e) from fun z => q z.1)]
    exact ⟨e, h1, h2, h3, h4, h5⟩
theorem JR_0 {c : Nat} {w0 : T3} {f : Nat → Int} : JR W rank b0 c (w0, (W c).1, (W c).2.1, -4) (gUp (gUp f 2 (c : Int)) 3 (msW W c)) := ⟨c, rfl, rfl, rfl, rfl, Or.inl ⟨rfl, rfl⟩⟩
theorem or_eq {c p : Nat} : c ||| 2 ^ p = c ↔ c.testBit p = true := by
  constructor
  · intro h
    have h2 : (c ||| 2 ^ p).testBit p = true := by
      rw [Nat.testBit_or, Nat.testBit_two_pow, decide_eq_true rfl, Bool.or_true]
    rw [h] at h2
    exact h2
  · intro h
    apply Nat.eq_of_testBit_eq
    intro q
    rw [Nat.testBit_or, Nat.testBit_two_pow]
    by_cases e0 : p = q
    · subst e0
      rw [h]
      rfl
    · rw [decide_eq_false e0, Bool.or_false]
def rkA (c : Nat) : Nat := 10 - cnt (fun p => c.testBit p) 10
theorem rkA_lt {c p : Nat} (hp : p < 10) (h : ¬ c.testBit p = true) : rkA (c ||| 2 ^ p) < rkA c := by
  have h1 : cnt (fun q => c.testBit q) 10 < cnt (fun q => (c ||| 2 ^ p).testBit q) 10 := by
    refine cnt_lt (x := p) ?_ h 10 hp (fun x _ hx => ?_)
    · show (c ||| 2 ^ p).testBit p = true
      rw [Nat.testBit_or, Nat.testBit_two_pow, decide_eq_true rfl, Bool.or_true]
    · show (c ||| 2 ^ p).testBit x = true
      have hx2 : c.testBit x = true := hx
      rw [Nat.testBit_or, hx2, Bool.true_or]
  have h2 := cnt_le (fun q => (c ||| 2 ^ p).testBit q) 10
  unfold rkA
  omega
theorem am_JR (hW : WOK W) {np c : Nat} (hn : np ≤ 10) (ho : ∀ d, d < 2 ^ np → ok d = ok' d) (hc : c < 2 ^ np) {w0 : T3} {f : Nat → Int} : ∀ p, p ≤ np → JR W rkA (2 ^ np) c (amS ok' W c (w0, (W c).1, (W c).2.1, -4) p) (omS ok (msW W) c f p)
  | 0, _ => JR_0
  | p + 1, hp => by
    have ih := am_JR hW hn ho hc (w0 := w0) (f := f) p (by omega)
    simp only [amS, omS]
    by_cases q : c.testBit p = true
    · rw [if_pos (or_eq.mpr q), if_pos q]
      exact ih
    · rw [if_neg (fun z => q (or_eq.mp z)), if_neg q]
      have hd : c ||| 2 ^ p < 2 ^ np := Nat.or_lt_two_pow hc (Nat.pow_lt_pow_right (by decide) (by omega))
      exact JR_step hW (ho _ hd) hd (fun z => q (or_eq.mp z)) (fun _ => rkA_lt (by omega) q) ih
def rkC (W : Nat → T3) (c : Nat) : Nat := cnt (fun x => decide (msW W x < msW W c)) 1024
theorem cg_JR1 (hW : WOK W) {np c p : Nat} (hn : np ≤ 10) (hp : p < np) (ho : ∀ d, d < 2 ^ np → ok d = ok' d) (hc : c < 2 ^ np) {t : T3 × Int × Int × Int} {g : Nat → Int} (h0 : JR W (rkC W) (2 ^ np) c t g) : ∀ q, q ≤ np → JR W (rkC W) (2 ^ np) c (cgI ok' W c p t q) (oaI ok (msW W) c p g q)
  | 0, _ => h0
  | q + 1, hq => by
    have ih := cg_JR1 hW hn hp ho hc h0 q (by omega)
    simp only [cgI, oaI]
    by_cases z : c.testBit p = true ∧ ¬ c.testBit q = true
    · rw [if_pos z, if_pos z]
      have h2 : 2 ^ np ≤ 1024 := p10 hn
      have hd : c ^^^ 2 ^ p ^^^ 2 ^ q < 2 ^ np := Nat.xor_lt_two_pow (Nat.xor_lt_two_pow hc (Nat.pow_lt_pow_right (by decide) hp)) (Nat.pow_lt_pow_right (by decide) (by omega))
      refine JR_step hW (ho _ hd) hd ?_ (fun hm => ?_) ih
      · intro e0
        have h3 : (c ^^^ 2 ^ p ^^^ 2 ^ q).testBit p = c.testBit p := by rw [e0]
        have hpq : q ≠ p := fun e1 => z.2 (by rw [e1]; exact z.1)
        rw [Nat.testBit_xor, Nat.testBit_xor, Nat.testBit_two_pow, Nat.testBit_two_pow, decide_eq_true rfl, decide_eq_false hpq, z.1] at h3
        exact absurd h3 (by decide)
      · refine cnt_lt (x := c ^^^ 2 ^ p ^^^ 2 ^ q) (decide_eq_true hm) (fun y => ?_) 1024 (by omega) (fun x _ hx => ?_)
        · have := of_decide_eq_true y
          omega
        · have := of_decide_eq_true hx
          exact decide_eq_true (by omega)
    · rw [if_neg z, if_neg z]
      exact ih
theorem cg_JR (hW : WOK W) {np c : Nat} (hn : np ≤ 10) (ho : ∀ d, d < 2 ^ np → ok d = ok' d) (hc : c < 2 ^ np) {w0 : T3} {f : Nat → Int} : ∀ p, p ≤ np → JR W (rkC W) (2 ^ np) c (cgO ok' W c np (w0, (W c).1, (W c).2.1, -4) p) (oaO ok (msW W) c np f p)
  | 0, _ => JR_0
  | p + 1, hp => cg_JR1 hW hn (by omega) ho hc (cg_JR hW hn ho hc p (by omega)) np (Nat.le_refl _)
/-- the loops: as many turns as the rank says -/
theorem pu_ad {F : Nat → (Nat → Int) → (Nat → Int)} {G : Nat → T3 × Int × Int × Int → T3 × Int × Int × Int} (hF : ∀ c f, F c f 1 = f 1) (hJ : ∀ c f w0, c < b0 → JR W rank b0 c (G c (w0, (W c).1, (W c).2.1, -4)) (F c f)) : ∀ (k c : Nat) (f : Nat → Int) (w0 : T3) (w : Int), c < b0 → rank c ≤ k → in32 w → f 1 = w → ∃ R, adL G (k + 1) c (w0, (W c).1, (W c).2.1) w = some R ∧ (puL F k c f).1 = R.1 ∧ (puL F k c f).2 1 = R.2.2
  | 0, c, f, w0, w, hc, hr, hw, ef => by
    obtain ⟨e, h1, h2, h3, h4, h5⟩ := hJ c f w0 hc
    have h6 : e = c ∧ (G c (w0, (W c).1, (W c).2.1, -4)).2.2.2 = -4 := by
      rcases h5 with h5 | h5
      · exact h5
      · omega
    refine ⟨(c, ((G c (w0, (W c).1, (W c).2.1, -4)).1, (G c (w0, (W c).1, (W c).2.1, -4)).2.1, (G c (w0, (W c).1, (W c).2.1, -4)).2.2.1), w32 (w + 0)), ?_, rfl, ?_⟩
    · simp only [adL]
      rw [if_pos h6.2]
    · show f 1 = w32 (w + 0)
      rw [Int.add_zero, w32_id hw, ef]
  | k + 1, c, f, w0, w, hc, hr, hw, ef => by
    obtain ⟨e, h1, h2, h3, h4, h5⟩ := hJ c f w0 hc
    rcases h5 with ⟨h5, h6⟩ | ⟨h5, h6, h7, h8, h9⟩
    · refine ⟨(c, ((G c (w0, (W c).1, (W c).2.1, -4)).1, (G c (w0, (W c).1, (W c).2.1, -4)).2.1, (G c (w0, (W c).1, (W c).2.1, -4)).2.2.1), w32 (w + 0)), ?_, ?_, ?_⟩
      · rw [adL]
        rw [if_pos h6]
      · simp only [puL]
        rw [if_pos (by rw [h1, h5])]
      · simp only [puL]
        rw [if_pos (by rw [h1, h5])]
        show F c f 1 = w32 (w + 0)
        rw [Int.add_zero, w32_id hw, hF, ef]
    · obtain ⟨R, r1, r2, r3⟩ := pu_ad hF hJ k e (gUp (F c f) 1 (w32 (F c f 1 + 1))) (G c (w0, (W c).1, (W c).2.1, -4)).1 (w32 (w + 1)) h7 (by omega) (w32_in _) (by rw [gUp_s, hF, ef])
      refine ⟨R, ?_, ?_, ?_⟩
      · rw [adL]
        simp only []
        rw [if_neg (by rw [h6]; omega), h6, Int.toNat_natCast, h2, h3]
        exact r1
      · simp only [puL]
        rw [if_neg (by rw [h1]; omega), h1, Int.toNat_natCast]
        exact r2
      · simp only [puL]
        rw [if_neg (by rw [h1]; omega), h1, Int.toNat_natCast]
        exact r3
theorem coF_1 (ms : Nat → Int) (f : Nat → Int) (c : Nat) : coF ok ms f c 1 = f 1 := by unfold coF; split <;> rfl
theorem omS_1 {ms : Nat → Int} {c : Nat} {f : Nat → Int} : ∀ p : Nat, omS ok ms c f p 1 = f 1
  | 0 => rfl
  | p + 1 => by
    simp only [omS]
    split
    · exact omS_1 p
    · rw [coF_1, omS_1 p]
theorem oaI_1 {ms : Nat → Int} {c p : Nat} {f : Nat → Int} : ∀ q : Nat, oaI ok ms c p f q 1 = f 1
  | 0 => rfl
  | q + 1 => by
    simp only [oaI]
    split
    · rw [coF_1, oaI_1 q]
    · exact oaI_1 q
theorem oaO_1 {ms : Nat → Int} {c np : Nat} {f : Nat → Int} : ∀ p : Nat, oaO ok ms c np f p 1 = f 1
  | 0 => rfl
  | p + 1 => by
    show oaI ok ms c p (oaO ok ms c np f p) np 1 = f 1
    rw [oaI_1, oaO_1 p]
theorem ad_eq (hW : WOK W) {np c : Nat} (hn : np ≤ 10) (ho : ∀ d, d < 2 ^ np → ok d = ok' d) (hc : c < 2 ^ np) (f : Nat → Int) (w0 : T3) : ∃ R, adL (fun c t => amS ok' W c t np) 11 c (w0, (W c).1, (W c).2.1) 0 = some R ∧ (puL (fun c f => omS ok (msW W) c f np) 10 c (gUp f 1 0)).1 = R.1 ∧ (puL (fun c f => omS ok (msW W) c f np) 10 c (gUp f 1 0)).2 1 = R.2.2 :=
  pu_ad (b0 := 2 ^ np) (rank := rkA) (F := fun c f => omS ok (msW W) c f np) (G := fun c t => amS ok' W c t np) (fun c f => omS_1 np) (fun c f w0 hc => am_JR hW hn ho hc np (Nat.le_refl _)) 10 c (gUp f 1 0) w0 0 hc (by unfold rkA; omega) in32_0 rfl
theorem cg_eq (hW : WOK W) {np c : Nat} (hn : np ≤ 10) (ho : ∀ d, d < 2 ^ np → ok d = ok' d) (hc : c < 2 ^ np) (f : Nat → Int) (w0 : T3) : ∃ R, adL (fun c t => cgO ok' W c np t np) 1025 c (w0, (W c).1, (W c).2.1) 0 = some R ∧ (puL (fun c f => oaO ok (msW W) c np f np) 1024 c (gUp f 1 0)).1 = R.1 ∧ (puL (fun c f => oaO ok (msW W) c np f np) 1024 c (gUp f 1 0)).2 1 = R.2.2 :=
  pu_ad (b0 := 2 ^ np) (rank := rkC W) (F := fun c f => oaO ok (msW W) c np f np) (G := fun c t => cgO ok' W c np t np) (fun c f => oaO_1 np) (fun c f w0 hc => cg_JR hW hn ho hc np (Nat.le_refl _)) 1024 c (gUp f 1 0) w0 0 hc (cnt_le _ _) in32_0 rfl
end BLD
