/-! the survey of all choices, against the model's searches -/
def isB (A : Nat → Prop) (co : Nat → Int) (n : Nat) (r : Int) : Prop := (r = -4 ∧ ∀ c, c < n → ¬ A c) ∨ ∃ m : Nat, r = (m : Int) ∧ m < n ∧ A m ∧ ∀ c, c < n → A c → c ≠ m → co m < co c ∨ (co m = co c ∧ m < c)
section ISB
variable {A : Nat → Prop} {co : Nat → Int} {n : Nat} {r : Int}
theorem isB_uniq {r' : Int} (h1 : isB A co n r) (h2 : isB A co n r') : r = r' := by
  rcases h1 with ⟨e1, h1⟩ | ⟨m, e1, l1, a1, h1⟩
  · rcases h2 with ⟨e2, h2⟩ | ⟨m', e2, l2, a2, h2⟩
    · rw [e1, e2]
    · exact absurd a2 (h1 m' l2)
  · rcases h2 with ⟨e2, h2⟩ | ⟨m', e2, l2, a2, h2⟩
    · exact absurd a1 (h2 m l1)
    · by_cases q : m = m'
      · rw [e1, e2, q]
      · have x1 := h1 m' l2 a2 (fun z => q z.symm)
        have x2 := h2 m l1 a1 q
        omega
theorem isB_0 : isB A co 0 (-4) := Or.inl ⟨rfl, fun c h => absurd h (Nat.not_lt_zero _)⟩
theorem isB_skip (h : ¬ A n) (h1 : isB A co n r) : isB A co (n + 1) r := by
  rcases h1 with ⟨e1, h1⟩ | ⟨m, e1, l1, a1, h1⟩
  · refine Or.inl ⟨e1, fun c hc ha => ?_⟩
    by_cases q : c = n
    · subst q; exact h ha
    · exact h1 c (by omega) ha
  · refine Or.inr ⟨m, e1, by omega, a1, fun c hc ha hm => ?_⟩
    by_cases q : c = n
    · subst q; exact absurd ha h
    · exact h1 c (by omega) ha hm
theorem isB_new (h : A n) (h1 : isB A co n r) (h2 : r = -4 ∨ ∃ m : Nat, r = (m : Int) ∧ co n < co m) : isB A co (n + 1) (n : Int) := by
  refine Or.inr ⟨n, rfl, by omega, h, fun c hc ha hm => ?_⟩
  rcases h1 with ⟨e1, h1⟩ | ⟨m, e1, l1, a1, h1⟩
  · exact absurd ha (h1 c (by omega))
  · rcases h2 with h2 | ⟨m', e2, h2⟩
    · omega
    · have : m = m' := by omega
      subst this
      by_cases q : c = m
      · subst q; omega
      · have := h1 c (by omega) ha q
        omega
theorem isB_keep {m : Nat} (h1 : isB A co n (m : Int)) (h2 : ¬ co n < co m) : isB A co (n + 1) (m : Int) := by
  rcases h1 with ⟨e1, h1⟩ | ⟨m', e1, l1, a1, h1⟩
  · omega
  · have : m = m' := by omega
    subst this
    refine Or.inr ⟨m, rfl, by omega, a1, fun c hc ha hm => ?_⟩
    by_cases q : c = n
    · subst q; omega
    · exact h1 c (by omega) ha hm
theorem isB_nat (h1 : isB A co n r) : r = -4 ∨ ∃ m : Nat, r = (m : Int) ∧ m < n ∧ A m := by
  rcases h1 with ⟨e1, h1⟩ | ⟨m, e1, l1, a1, h1⟩
  · exact Or.inl e1
  · exact Or.inr ⟨m, e1, l1, a1⟩
theorem isB_iff {A' : Nat → Prop} (h : ∀ c, c < n → (A c ↔ A' c)) (h1 : isB A co n r) : isB A' co n r := by
  rcases h1 with ⟨e1, h1⟩ | ⟨m, e1, l1, a1, h1⟩
  · exact Or.inl ⟨e1, fun c hc ha => h1 c hc ((h c hc).mpr ha)⟩
  · exact Or.inr ⟨m, e1, l1, (h m l1).mp a1, fun c hc ha => h1 c hc ((h c hc).mpr ha)⟩
end ISB
theorem nc_1 {f : Nat → Int} {c x : Int} (h : x < f 0) : ncF f c x 0 = x ∧ ncF f c x 1 = c ∧ ncF f c x 2 = 1 ∧ ncF f c x 3 = c ∧ ncF f c x 4 = c ∧ ncF f c x 5 = f 0 ∧ ncF f c x 6 = f 1 := by
  unfold ncF
  rw [if_pos h]
  exact ⟨rfl, rfl, rfl, rfl, rfl, rfl, rfl⟩
theorem nc_2 {f : Nat → Int} {c x : Int} (h : x = f 0) (h2 : x < f 5) : ncF f c x 0 = f 0 ∧ ncF f c x 1 = f 1 ∧ ncF f c x 2 = w32 (f 2 + 1) ∧ ncF f c x 3 = a32 (f 3) c ∧ ncF f c x 4 = r32 (f 4) c ∧ ncF f c x 5 = x ∧ ncF f c x 6 = c := by
  unfold ncF
  rw [if_neg (by omega), if_pos h, if_pos h2]
  exact ⟨rfl, rfl, rfl, rfl, rfl, rfl, rfl⟩
theorem nc_3 {f : Nat → Int} {c x : Int} (h : x = f 0) (h2 : ¬ x < f 5) : ncF f c x 0 = f 0 ∧ ncF f c x 1 = f 1 ∧ ncF f c x 2 = w32 (f 2 + 1) ∧ ncF f c x 3 = a32 (f 3) c ∧ ncF f c x 4 = r32 (f 4) c ∧ ncF f c x 5 = f 5 ∧ ncF f c x 6 = f 6 := by
  unfold ncF
  rw [if_neg (by omega), if_pos h, if_neg h2]
  exact ⟨rfl, rfl, rfl, rfl, rfl, rfl, rfl⟩
theorem nc_4 {f : Nat → Int} {c x : Int} (h : f 0 < x) (h2 : x < f 5) : ncF f c x 0 = f 0 ∧ ncF f c x 1 = f 1 ∧ ncF f c x 2 = f 2 ∧ ncF f c x 3 = f 3 ∧ ncF f c x 4 = f 4 ∧ ncF f c x 5 = x ∧ ncF f c x 6 = c := by
  unfold ncF
  rw [if_neg (by omega), if_neg (by omega), if_pos h2]
  exact ⟨rfl, rfl, rfl, rfl, rfl, rfl, rfl⟩
theorem nc_5 {f : Nat → Int} {c x : Int} (h : f 0 < x) (h2 : ¬ x < f 5) : ncF f c x = f := by
  unfold ncF
  rw [if_neg (by omega), if_neg (by omega), if_neg h2]
theorem nc_78 (f : Nat → Int) (c x : Int) : ncF f c x 7 = f 7 ∧ ncF f c x 8 = f 8 := by
  unfold ncF
  split
  · exact ⟨rfl, rfl⟩
  · split
    · split <;> exact ⟨rfl, rfl⟩
    · split <;> exact ⟨rfl, rfl⟩
theorem nf_lo (f : Nat → Int) (c x : Int) {j : Nat} (h : j < 7) : nfF f c x j = f j := by
  unfold nfF
  split
  · rw [gUp_n (by omega), gUp_n (by omega)]
  · rfl
/-- the class's two best -/
def TI (A : Nat → Prop) (co : Nat → Int) (n : Nat) (f : Nat → Int) : Prop :=
  isB A co n (f 1) ∧ (f 1 = -4 → f 0 = 9223372036854775807 ∧ f 5 = 9223372036854775807 ∧ f 6 = -4) ∧ (∀ m : Nat, f 1 = (m : Int) → f 0 = co m ∧ isB (fun c => A c ∧ c ≠ m) co n (f 6) ∧ (f 6 = -4 → f 5 = 9223372036854775807) ∧ (∀ m' : Nat, f 6 = (m' : Int) → f 5 = co m'))
theorem TI_eq {A : Nat → Prop} {co : Nat → Int} {n : Nat} {f g : Nat → Int} (h : TI A co n f) (e0 : g 0 = f 0) (e1 : g 1 = f 1) (e5 : g 5 = f 5) (e6 : g 6 = f 6) : TI A co n g := by
  unfold TI
  rw [e0, e1, e5, e6]
  exact h
theorem TI_skip {A : Nat → Prop} {co : Nat → Int} {n : Nat} {f : Nat → Int} (h : TI A co n f) (hA : ¬ A n) : TI A co (n + 1) f := by
  obtain ⟨h1, h2, h3⟩ := h
  refine ⟨isB_skip hA h1, h2, fun m hm => ?_⟩
  obtain ⟨g1, g2, g3⟩ := h3 m hm
  exact ⟨g1, isB_skip (fun z => hA z.1) g2, g3⟩
theorem TI_step {A : Nat → Prop} {co : Nat → Int} {n : Nat} {f : Nat → Int} (h : TI A co n f) (hA : A n) (hx : co n < 9223372036854775807) : TI A co (n + 1) (ncF f (n : Int) (co n)) := by
  obtain ⟨h1, h2, h3⟩ := h
  rcases isB_nat h1 with q | ⟨m, q, qn, qa⟩
  · obtain ⟨g0, g5, g6⟩ := h2 q
    obtain ⟨n0, n1, _, _, _, n5, n6⟩ := nc_1 (c := (n : Int)) (show co n < f 0 by omega)
    unfold TI
    rw [n0, n1, n5, n6]
    refine ⟨isB_new hA h1 (Or.inl q), fun z => by omega, fun m hm => ?_⟩
    have : n = m := by omega
    subst this
    refine ⟨rfl, ?_, fun _ => g0, fun m' hm' => by omega⟩
    rw [q] at h1 ⊢
    refine Or.inl ⟨rfl, fun c hc ha => ?_⟩
    rcases h1 with ⟨_, h1⟩ | ⟨m, e1, _⟩
    · exact h1 c (by have := ha.2; omega) ha.1
    · omega
  · obtain ⟨g0, g1, g2, g3⟩ := h3 m q
    by_cases c1 : co n < co m
    · obtain ⟨n0, n1, _, _, _, n5, n6⟩ := nc_1 (c := (n : Int)) (show co n < f 0 by omega)
      unfold TI
      rw [n0, n1, n5, n6]
      refine ⟨isB_new hA h1 (Or.inr ⟨m, q, c1⟩), fun z => by omega, fun k hk => ?_⟩
      have : n = k := by omega
      subst this
      refine ⟨rfl, ?_, fun z => by omega, fun m' hm' => ?_⟩
      · rcases h1 with ⟨e1, _⟩ | ⟨m2, e1, l1, a1, h1⟩
        · omega
        · have : m = m2 := by omega
          subst this
          rw [q]
          exact Or.inr ⟨m, rfl, by omega, ⟨a1, by omega⟩, fun c hc ha hm => h1 c (by have := ha.2; omega) ha.1 hm⟩
      · have : m = m' := by omega
        subst this
        exact g0
    · have hbest : isB A co (n + 1) (m : Int) := isB_keep (by rw [← q]; exact h1) c1
      have hA2 : A n ∧ n ≠ m := ⟨hA, by omega⟩
      have fin : ∀ g : Nat → Int, g 0 = f 0 → g 1 = f 1 → (co n < f 5 → g 5 = co n ∧ g 6 = (n : Int)) → (¬ co n < f 5 → g 5 = f 5 ∧ g 6 = f 6) → TI A co (n + 1) g := by
        intro g e0 e1 e2 e3
        unfold TI
        rw [e0, e1]
        refine ⟨by rw [q]; exact hbest, fun z => by omega, fun k hk => ?_⟩
        have : m = k := by omega
        subst this
        refine ⟨g0, ?_⟩
        by_cases c5 : co n < f 5
        · obtain ⟨z5, z6⟩ := e2 c5
          rw [z5, z6]
          refine ⟨isB_new hA2 g1 ?_, fun z => by omega, fun m' hm' => ?_⟩
          case refine_2 =>
            have : n = m' := by omega
            rw [this]
          rcases isB_nat g1 with y | ⟨y, ey, _⟩
          · exact Or.inl y
          · exact Or.inr ⟨y, ey, by have := g3 y ey; omega⟩
        · obtain ⟨z5, z6⟩ := e3 c5
          rw [z5, z6]
          refine ⟨?_, g2, g3⟩
          rcases isB_nat g1 with y | ⟨y, ey, _⟩
          · have := g2 y
            omega
          · rw [ey] at g1 ⊢
            exact isB_keep g1 (by have := g3 y ey; omega)
      by_cases c2 : co n = co m
      · by_cases c5 : co n < f 5
        · obtain ⟨n0, n1, _, _, _, n5, n6⟩ := nc_2 (c := (n : Int)) (show co n = f 0 by omega) c5
          exact fin _ n0 n1 (fun _ => ⟨n5, n6⟩) (fun z => absurd c5 z)
        · obtain ⟨n0, n1, _, _, _, n5, n6⟩ := nc_3 (c := (n : Int)) (show co n = f 0 by omega) c5
          exact fin _ n0 n1 (fun z => absurd z c5) (fun _ => ⟨n5, n6⟩)
      · by_cases c5 : co n < f 5
        · obtain ⟨n0, n1, _, _, _, n5, n6⟩ := nc_4 (c := (n : Int)) (show f 0 < co n by omega) c5
          exact fin _ n0 n1 (fun _ => ⟨n5, n6⟩) (fun z => absurd c5 z)
        · have e0 := nc_5 (f := f) (c := (n : Int)) (show f 0 < co n by omega) c5
          rw [e0]
          exact fin _ rfl rfl (fun z => absurd z c5) (fun _ => ⟨rfl, rfl⟩)
/-- the model's search -/
def FI (A : Nat → Prop) (co : Nat → Int) (n : Nat) (y : T5) : Prop := isB A co n y.1 ∧ (y.1 = -4 → y.2.1 = -4 ∧ y.2.2.1 = 0) ∧ (∀ m : Nat, y.1 = (m : Int) → y.2.1 = co m ∧ 1 ≤ y.2.2.1 ∧ y.2.2.1 ≤ n)
theorem fd_FI {sk : Nat → Bool} {W : Nat → T3} {z : T3} : ∀ n, n ≤ 1024 → FI (fun c => sk c = true ∧ (W c).1 = 0) (fun c => (W c).2.1) n (fdS sk W z n).2
  | 0, _ => ⟨isB_0, fun _ => ⟨rfl, rfl⟩, fun m hm => absurd hm (show (-4 : Int) ≠ (m : Int) by omega)⟩
  | n + 1, hn => by
    obtain ⟨h1, h2, h3⟩ := fd_FI (sk := sk) (W := W) (z := z) n (by omega)
    have keep : ¬ (sk n = true ∧ (W n).1 = 0) → FI (fun c => sk c = true ∧ (W c).1 = 0) (fun c => (W c).2.1) (n + 1) (fdS sk W z n).2 := fun g =>
      ⟨isB_skip g h1, h2, fun m hm => by have := h3 m hm; exact ⟨this.1, this.2.1, by omega⟩⟩
    simp only [fdS]
    by_cases c1 : sk n = true
    · rw [if_pos c1]
      by_cases c2 : (W n).1 = 0
      · have hA : (fun c => sk c = true ∧ (W c).1 = 0) n := ⟨c1, c2⟩
        show FI _ _ _ (fdN (fdS sk W z n).2 (n : Int) (W n))
        generalize fdS sk W z n = y at h1 h2 h3
        unfold fdN
        rw [if_pos c2]
        by_cases c3 : y.2.1 = -4 ∨ (W n).2.1 < y.2.2.1
        · rw [if_pos c3]
          refine ⟨isB_new hA h1 ?_, fun q => absurd q (show ((n : Nat) : Int) ≠ -4 by omega), fun m hm => ?_⟩
          · rcases c3 with c3 | c3
            · exact Or.inl c3
            · rcases isB_nat h1 with q | ⟨m, q, _⟩
              · exact Or.inl q
              · exact Or.inr ⟨m, q, by have := (h3 m q).1; simp only [] at this ⊢; omega⟩
          · have hm2 : (n : Int) = (m : Int) := hm
            have : n = m := by omega
            subst this
            refine ⟨rfl, ?_⟩
            show 1 ≤ w32 (0 + 1) ∧ w32 (0 + 1) ≤ ((n + 1 : Nat) : Int)
            rw [show w32 (0 + 1) = 1 from rfl]
            omega
        · rw [if_neg c3]
          rcases isB_nat h1 with q | ⟨m, q, _⟩
          · exact absurd (Or.inl q) c3
          · obtain ⟨g1, g2, g3⟩ := h3 m q
            have hb : isB (fun c => sk c = true ∧ (W c).1 = 0) (fun c => (W c).2.1) (n + 1) y.2.1 := by
              rw [q] at h1 ⊢
              exact isB_keep h1 (fun g => c3 (Or.inr (by rw [g1]; exact g)))
            by_cases c4 : (W n).2.1 = y.2.2.1
            · rw [if_pos c4]
              refine ⟨hb, fun w => absurd w (by show ¬ y.2.1 = -4; omega), fun k hk => ?_⟩
              have hk2 : y.2.1 = (k : Int) := hk
              have : m = k := by omega
              subst this
              refine ⟨g1, ?_⟩
              show 1 ≤ w32 (y.2.2.2.1 + 1) ∧ w32 (y.2.2.2.1 + 1) ≤ ((n + 1 : Nat) : Int)
              rw [w32_id (by unfold in32; omega)]
              omega
            · rw [if_neg c4]
              exact ⟨hb, h2, fun k hk => by have := h3 k hk; exact ⟨this.1, this.2.1, by omega⟩⟩
      · have e0 : fdN (fdS sk W z n).2 (n : Int) (W n) = (fdS sk W z n).2 := by
          unfold fdN
          rw [if_neg c2]
        show FI _ _ _ (fdN (fdS sk W z n).2 (n : Int) (W n))
        rw [e0]
        exact keep (fun g => c2 g.2)
    · rw [if_neg c1]
      exact keep (fun g => c1 g.1)
theorem a32_m1 : ∀ c : Nat, c < 1024 → a32 (-1) (c : Int) = (c : Int) ∧ r32 0 (c : Int) = (c : Int) := by decide +kernel
/-- the class's survey beside the model's searches, and beside the search for the nearest -/
def SvI (ok : Nat → Bool) (W : Nat → T3) (z : T3) (n : Nat) (s : (Nat → Int) × (Nat → Int)) : Prop :=
  TI (fun c => ok c = true ∧ (W c).1 = 0) (fun c => (W c).2.1) n s.1 ∧
  (s.1 2 = (fdS ok W z n).2.2.2.1 ∧ ((fdS ok W z n).2.1 ≠ -4 → s.1 3 = (fdS ok W z n).2.2.2.2.1 ∧ s.1 4 = (fdS ok W z n).2.2.2.2.2) ∧ (∃ x : Nat, x < 1024 ∧ s.1 3 = (x : Int)) ∧ (∃ x : Nat, x < 1024 ∧ s.1 4 = (x : Int))) ∧
  (s.1 8 = (nrS ok W z n).2.1 ∧ s.1 7 = (if (nrS ok W z n).2.1 = -4 then 1000000 else (nrS ok W z n).2.2)) ∧
  (∀ p, p < 10 → s.2 p = (if (fdS (fun c => ok c && !c.testBit p) W z n).2.1 = -4 then 9223372036854775807 else (fdS (fun c => ok c && !c.testBit p) W z n).2.2.1))
theorem nl_v (c : Nat) (x : Int) (w : Nat → Int) : ∀ n p, nlS c x w n p = if p < n ∧ ¬ c.testBit p = true then min (w p) x else w p
  | 0, p => by rw [if_neg (by omega)]; rfl
  | n + 1, p => by
    simp only [nlS]
    by_cases q : c.testBit n = true
    · rw [if_pos q, nl_v c x w n p]
      by_cases q2 : p < n ∧ ¬ c.testBit p = true
      · rw [if_pos q2, if_pos ⟨by omega, q2.2⟩]
      · rw [if_neg q2, if_neg]
        intro h
        by_cases q3 : p = n
        · subst q3; exact h.2 q
        · exact q2 ⟨by omega, h.2⟩
    · rw [if_neg q]
      by_cases q3 : p = n
      · subst q3
        rw [gUp_s, nl_v c x w p p, if_neg (by omega), if_pos ⟨by omega, q⟩]
      · rw [gUp_n q3, nl_v c x w n p]
        by_cases q2 : p < n ∧ ¬ c.testBit p = true
        · rw [if_pos q2, if_pos ⟨by omega, q2.2⟩]
        · rw [if_neg q2, if_neg]
          intro h
          exact q2 ⟨by omega, h.2⟩
theorem fgW_v (w : Nat → Int) : ∀ n p, fgW w n p = if p < n then 9223372036854775807 else w p
  | 0, p => by rw [if_neg (by omega)]; rfl
  | n + 1, p => by
    show gUp (fgW w n) n _ p = _
    by_cases q : p = n
    · subst q
      rw [gUp_s, if_pos (by omega)]
    · rw [gUp_n q, fgW_v w n p]
      by_cases q2 : p < n
      · rw [if_pos q2, if_pos (by omega)]
      · rw [if_neg q2, if_neg (by omega)]
theorem tkS_congr {ok ok' : Nat → Bool} {ms ms' fr fr' f w : Nat → Int} : ∀ n, (∀ c, c < n → ok c = ok' c ∧ ms c = ms' c ∧ fr c = fr' c) → tkS ok ms fr f w n = tkS ok' ms' fr' f w n
  | 0, _ => rfl
  | n + 1, h => by
    obtain ⟨h1, h2, h3⟩ := h n (by omega)
    simp only [tkS]
    rw [tkS_congr n (fun c hc => h c (by omega)), h1, h2, h3]
theorem sv_I {ok : Nat → Bool} {W : Nat → T3} {z : T3} {f0 w0 : Nat → Int} (hW : ∀ c, 0 ≤ (W c).1 ∧ (0 ≤ (W c).2.1 ∧ (W c).2.1 ≤ 200000000) ∧ (0 ≤ (W c).2.2 ∧ (W c).2.2 ≤ 13000)) : ∀ n, n ≤ 1024 → SvI ok W z n (tkS ok (fun c => (W c).1 * 1099511627776 + (W c).2.1) (fun c => (W c).2.2) (fgF f0) (fgW w0 10) n)
  | 0, _ => by
    refine ⟨⟨isB_0, fun _ => ⟨rfl, rfl, rfl⟩, fun m hm => absurd hm (show (-4 : Int) ≠ (m : Int) by omega)⟩, ⟨rfl, fun h => absurd rfl h, ⟨0, by decide, rfl⟩, ⟨0, by decide, rfl⟩⟩, ⟨rfl, rfl⟩, fun p hp => ?_⟩
    show fgW w0 10 p = _
    rw [fgW_v, if_pos hp]
    rfl
  | n + 1, hn => by
    obtain ⟨h1, ⟨h2, h3, h4, h5⟩, ⟨h6, h7⟩, h8⟩ := sv_I (ok := ok) (z := z) (f0 := f0) (w0 := w0) hW n (by omega)
    have hb := hW n
    obtain ⟨F1, F2, F3⟩ := fd_FI (sk := ok) (W := W) (z := z) n (by omega)
    have FP := fun p => fd_FI (sk := fun c => ok c && !c.testBit p) (W := W) (z := z) n (by omega)
    have eT : tkS ok (fun c => (W c).1 * 1099511627776 + (W c).2.1) (fun c => (W c).2.2) (fgF f0) (fgW w0 10) (n + 1) = if ok n = true ∧ (W n).1 * 1099511627776 + (W n).2.1 < 1099511627776 then (nfF (ncF (tkS ok (fun c => (W c).1 * 1099511627776 + (W c).2.1) (fun c => (W c).2.2) (fgF f0) (fgW w0 10) n).1 (n : Int) ((W n).1 * 1099511627776 + (W n).2.1)) (n : Int) (W n).2.2, nlS n ((W n).1 * 1099511627776 + (W n).2.1) (tkS ok (fun c => (W c).1 * 1099511627776 + (W c).2.1) (fun c => (W c).2.2) (fgF f0) (fgW w0 10) n).2 10) else tkS ok (fun c => (W c).1 * 1099511627776 + (W c).2.1) (fun c => (W c).2.2) (fgF f0) (fgW w0 10) n := rfl
    have eD : fdS ok W z (n + 1) = if ok n = true then (W n, fdN (fdS ok W z n).2 (n : Int) (W n)) else fdS ok W z n := rfl
    have eN : nrS ok W z (n + 1) = if ok n = true then (W n, nrN (nrS ok W z n).2 (n : Int) (W n)) else nrS ok W z n := rfl
    have eP : ∀ p, fdS (fun c => ok c && !c.testBit p) W z (n + 1) = if (ok n && !n.testBit p) = true then (W n, fdN (fdS (fun c => ok c && !c.testBit p) W z n).2 (n : Int) (W n)) else fdS (fun c => ok c && !c.testBit p) W z n := fun p => rfl
    rw [eT]
    unfold SvI
    generalize tkS ok (fun c => (W c).1 * 1099511627776 + (W c).2.1) (fun c => (W c).2.2) (fgF f0) (fgW w0 10) n = s at h1 h2 h3 h4 h5 h6 h7 h8 ⊢
    by_cases c1 : ok n = true
    · by_cases c2 : (W n).1 = 0
      · have e0 : (W n).1 * 1099511627776 + (W n).2.1 = (W n).2.1 := by rw [c2]; omega
        rw [if_pos c1] at eD eN
        rw [if_pos ⟨c1, by rw [e0]; omega⟩, e0, eD, eN]
        have hA : (fun c => ok c = true ∧ (W c).1 = 0) n := ⟨c1, c2⟩
        have T1 := TI_step h1 hA (by show (W n).2.1 < _; omega)
        have F : s.1 1 = (fdS ok W z n).2.1 := isB_uniq h1.1 F1
        refine ⟨TI_eq T1 (nf_lo _ _ _ (by decide)) (nf_lo _ _ _ (by decide)) (nf_lo _ _ _ (by decide)) (nf_lo _ _ _ (by decide)), ?_, ?_, ?_⟩
        · show (nfF (ncF s.1 (n : Int) (W n).2.1) (n : Int) (W n).2.2 2 = (fdN (fdS ok W z n).2 (n : Int) (W n)).2.2.1 ∧ ((fdN (fdS ok W z n).2 (n : Int) (W n)).1 ≠ -4 → nfF (ncF s.1 (n : Int) (W n).2.1) (n : Int) (W n).2.2 3 = (fdN (fdS ok W z n).2 (n : Int) (W n)).2.2.2.1 ∧ nfF (ncF s.1 (n : Int) (W n).2.1) (n : Int) (W n).2.2 4 = (fdN (fdS ok W z n).2 (n : Int) (W n)).2.2.2.2) ∧ (∃ x : Nat, x < 1024 ∧ nfF (ncF s.1 (n : Int) (W n).2.1) (n : Int) (W n).2.2 3 = (x : Int)) ∧ (∃ x : Nat, x < 1024 ∧ nfF (ncF s.1 (n : Int) (W n).2.1) (n : Int) (W n).2.2 4 = (x : Int)))
          rw [nf_lo _ _ _ (show 2 < 7 by decide), nf_lo _ _ _ (show 3 < 7 by decide), nf_lo _ _ _ (show 4 < 7 by decide)]
          generalize fdS ok W z n = y at F1 F2 F3 F h2 h3 ⊢
          obtain ⟨x3, hx3, ex3⟩ := h4
          obtain ⟨x4, hx4, ex4⟩ := h5
          unfold fdN
          rw [if_pos c2]
          by_cases c3 : y.2.1 = -4 ∨ (W n).2.1 < y.2.2.1
          · rw [if_pos c3]
            have hlt : (W n).2.1 < s.1 0 := by
              rcases isB_nat h1.1 with q | ⟨m, q, _⟩
              · have := (h1.2.1 q).1
                omega
              · have g1 := (h1.2.2 m q).1
                have g2 := (F3 m (by rw [← F]; exact q)).1
                rcases c3 with c3 | c3
                · omega
                · simp only [] at g1 g2
                  omega
            obtain ⟨_, _, n2, n3, n4, _, _⟩ := nc_1 (c := (n : Int)) hlt
            rw [n2, n3, n4]
            obtain ⟨am, rm⟩ := a32_m1 n (by omega)
            exact ⟨rfl, fun _ => ⟨am.symm, rm.symm⟩, ⟨n, by omega, rfl⟩, ⟨n, by omega, rfl⟩⟩
          · rw [if_neg c3]
            rcases isB_nat h1.1 with q | ⟨m, q, _⟩
            · exact absurd (Or.inl (by rw [← F]; exact q)) c3
            · have g1 := (h1.2.2 m q).1
              have g2 := (F3 m (by rw [← F]; exact q)).1
              simp only [] at g1 g2
              have hy : y.2.1 ≠ -4 := fun w => c3 (Or.inl w)
              obtain ⟨k3, k4⟩ := h3 hy
              by_cases c4 : (W n).2.1 = y.2.2.1
              · rw [if_pos c4]
                have fin : ∀ g : Nat → Int, g 2 = w32 (s.1 2 + 1) → g 3 = a32 (s.1 3) (n : Int) → g 4 = r32 (s.1 4) (n : Int) → (g 2 = w32 (y.2.2.2.1 + 1) ∧ (y.2.1 ≠ -4 → g 3 = a32 y.2.2.2.2.1 (n : Int) ∧ g 4 = r32 y.2.2.2.2.2 (n : Int)) ∧ (∃ x : Nat, x < 1024 ∧ g 3 = (x : Int)) ∧ (∃ x : Nat, x < 1024 ∧ g 4 = (x : Int))) := by
                  intro g e2 e3 e4
                  refine ⟨by rw [e2, h2], fun _ => ⟨by rw [e3, k3], by rw [e4, k4]⟩, ⟨x3 &&& n, ?_, by rw [e3, ex3, a32n (by omega)]⟩, ⟨x4 ||| n, Nat.or_lt_two_pow (n := 10) hx4 (by omega), by rw [e4, ex4, r32n (by omega) (by omega)]⟩⟩
                  have := Nat.and_le_left (n := x3) (m := n)
                  omega
                by_cases c5 : (W n).2.1 < s.1 5
                · obtain ⟨_, _, n2, n3, n4, _, _⟩ := nc_2 (c := (n : Int)) (show (W n).2.1 = s.1 0 by omega) c5
                  exact fin _ n2 n3 n4
                · obtain ⟨_, _, n2, n3, n4, _, _⟩ := nc_3 (c := (n : Int)) (show (W n).2.1 = s.1 0 by omega) c5
                  exact fin _ n2 n3 n4
              · rw [if_neg c4]
                have hgt : s.1 0 < (W n).2.1 := by
                  have : ¬ (W n).2.1 < y.2.2.1 := fun w => c3 (Or.inr w)
                  omega
                have e2 : ncF s.1 (n : Int) (W n).2.1 2 = s.1 2 ∧ ncF s.1 (n : Int) (W n).2.1 3 = s.1 3 ∧ ncF s.1 (n : Int) (W n).2.1 4 = s.1 4 := by
                  by_cases c5 : (W n).2.1 < s.1 5
                  · obtain ⟨_, _, n2, n3, n4, _, _⟩ := nc_4 (c := (n : Int)) hgt c5
                    exact ⟨n2, n3, n4⟩
                  · rw [nc_5 hgt c5]
                    exact ⟨rfl, rfl, rfl⟩
                rw [e2.1, e2.2.1, e2.2.2]
                exact ⟨h2, h3, ⟨x3, hx3, ex3⟩, ⟨x4, hx4, ex4⟩⟩
        · show nfF (ncF s.1 (n : Int) (W n).2.1) (n : Int) (W n).2.2 8 = (nrN (nrS ok W z n).2 (n : Int) (W n)).1 ∧ nfF (ncF s.1 (n : Int) (W n).2.1) (n : Int) (W n).2.2 7 = if (nrN (nrS ok W z n).2 (n : Int) (W n)).1 = -4 then 1000000 else (nrN (nrS ok W z n).2 (n : Int) (W n)).2
          obtain ⟨m7, m8⟩ := nc_78 s.1 (n : Int) (W n).2.1
          unfold nfF nrN
          rw [m7, h7]
          generalize nrS ok W z n = y at h6 h7 ⊢
          by_cases c3 : y.2.1 = -4 ∨ (W n).2.2 < y.2.2
          · rw [if_pos (by split <;> omega), if_pos ⟨c2, c3⟩]
            refine ⟨rfl, ?_⟩
            show (W n).2.2 = if (n : Int) = -4 then 1000000 else (W n).2.2
            rw [if_neg (by omega)]
          · rw [if_neg (by rw [if_neg (fun w => c3 (Or.inl w))]; exact fun w => c3 (Or.inr w)), if_neg (fun w => c3 w.2), m8, m7]
            exact ⟨h6, h7⟩
        · intro p hp
          show nlS n (W n).2.1 s.2 10 p = _
          rw [nl_v]
          obtain ⟨G1, G2, G3⟩ := FP p
          have e8 := h8 p hp
          by_cases cb : n.testBit p = true
          · rw [if_neg (fun w => w.2 cb), eP p, if_neg (show ¬ (ok n && !n.testBit p) = true by rw [cb]; simp)]
            exact e8
          · rw [if_pos ⟨hp, cb⟩, eP p, if_pos (show (ok n && !n.testBit p) = true by rw [c1]; simp [cb]), e8]
            show _ = if (fdN (fdS (fun c => ok c && !c.testBit p) W z n).2 (n : Int) (W n)).1 = -4 then 9223372036854775807 else (fdN (fdS (fun c => ok c && !c.testBit p) W z n).2 (n : Int) (W n)).2.1
            generalize fdS (fun c => ok c && !c.testBit p) W z n = y at G1 G2 G3 ⊢
            unfold fdN
            rw [if_pos c2]
            by_cases c3 : y.2.1 = -4 ∨ (W n).2.1 < y.2.2.1
            · rw [if_pos c3]
              show _ = if (n : Int) = -4 then 9223372036854775807 else (W n).2.1
              rw [if_neg (show ¬ (n : Int) = -4 by omega), Int.min_def]
              split <;> split <;> omega
            · rw [if_neg c3]
              have hy : y.2.1 ≠ -4 := fun w => c3 (Or.inl w)
              have hy2 : ¬ (W n).2.1 < y.2.2.1 := fun w => c3 (Or.inr w)
              have fin : min (if y.2.1 = -4 then 9223372036854775807 else y.2.2.1) (W n).2.1 = if y.2.1 = -4 then 9223372036854775807 else y.2.2.1 := by
                rw [if_neg hy, Int.min_def]
                split <;> omega
              by_cases c4 : (W n).2.1 = y.2.2.1
              · rw [if_pos c4]
                exact fin
              · rw [if_neg c4]
                exact fin
      · have hpos : ¬ ((W n).1 * 1099511627776 + (W n).2.1 < 1099511627776) := by omega
        have en : ∀ y : T5, fdN y (n : Int) (W n) = y := fun y => by
          unfold fdN
          rw [if_neg c2]
        have er : ∀ y : Int × Int, nrN y (n : Int) (W n) = y := fun y => by
          unfold nrN
          rw [if_neg (fun w => c2 w.1)]
        rw [if_pos c1, en] at eD
        rw [if_pos c1, er] at eN
        rw [if_neg (fun w => hpos w.2), eD, eN]
        refine ⟨TI_skip h1 (fun w => c2 w.2), ⟨h2, h3, h4, h5⟩, ⟨h6, h7⟩, fun p hp => ?_⟩
        rw [h8 p hp, eP p, en]
        by_cases q : (ok n && !n.testBit p) = true
        · rw [if_pos q]
        · rw [if_neg q]
    · rw [if_neg c1] at eD eN
      rw [if_neg (fun w => c1 w.1), eD, eN]
      refine ⟨TI_skip h1 (fun w => c1 w.1), ⟨h2, h3, h4, h5⟩, ⟨h6, h7⟩, fun p hp => ?_⟩
      rw [h8 p hp, eP p, if_neg (show ¬ (ok n && !n.testBit p) = true by rw [Bool.and_eq_true]; exact fun w => c1 w.1)]
