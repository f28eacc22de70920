/-! calls that read alone: both sides answer alike -/
def Inv (M : gMem) : Prop := ∃ nv np n k : Nat, InvX M nv np n k
def StI (D : va_G) (ca : Nat → ClassId) (m8 m9 : gMd) (as : List gAV) (M : gMem) : Prop := ∃ r M1 M2, Fn D ca m8 (gR 0 :: as) SH M [gI r] SH M1 ∧ Fn D ca m9 (gR 106 :: as) SH M1 [gI r] SH M2 ∧ Inv M2
def StJ (D : va_G) (ca : Nat → ClassId) (m8 m9 : gMd) (as : List gAV) (M : gMem) : Prop := ∃ r M1 M2, Fn D ca m8 (gR 0 :: as) SH M [gJ r] SH M1 ∧ Fn D ca m9 (gR 106 :: as) SH M1 [gJ r] SH M2 ∧ Inv M2
theorem gPt_no : ∀ q ∈ gPt, q.1 ≠ 123 ∧ q.1 ≠ 124 ∧ q.1 ≠ 125 := by decide +kernel
theorem gPt_no8 : ∀ q ∈ gPt, q.1 ≠ 93 ∧ q.1 ≠ 97 ∧ (q.1 = 0 → q.2.1 ≠ 8) ∧ (q.1 = 92 → q.2.1 = 9) ∧ (q.1 = 94 → q.2.1 = 0) ∧ (q.1 = 95 → q.2.1 < 4) := by decide +kernel
section RO
variable {D : va_G} {ca : Nat → ClassId} {M M' : gMem} {nv np n k : Nat}
theorem CHm_eq (h : CHm M) (e1 : ∀ i, 98 ≤ i → i ≤ 105 → M' i = M i) (e2 : M' 114 = M 114) (e3 : M' 115 = M 115) (e4 : M' 116 = M 116) : CHm M' := by
  intro q hq
  rw [e1 (98 + 2 * q) (by omega) (by omega), e1 (98 + 2 * q + 1) (by omega) (by omega), e2, e3, e4]
  exact h q hq
/-- a class's cell, a model's scratch may change -/
theorem InvX_m (h : InvX M nv np n k) (he : ∀ i, i ≠ 106 → i ≠ 123 → i ≠ 124 → i ≠ 125 → M' i = M i) (hf : ∀ j, j < 22 ∨ j = 32 ∨ j = 35 ∨ j = 38 → M' 106 j = M 106 j) : InvX M' nv np n k := by
  have hp : gPtr M' := fun q hq => by
    have h0 := h.1.1 q hq
    obtain ⟨g1, g2, g3⟩ := gPt_no q hq
    by_cases c : q.1 = 106
    · have h3 := gPt_106 q hq c
      rw [c] at h0 ⊢
      rw [hf _ (by omega)]
      exact h0
    · rw [he _ c g1 g2 g3]
      exact h0
  have e : ∀ i, i < 123 → i ≠ 106 → M' i = M i := fun i hi h1 => he i (by omega) (by omega) (by omega) (by omega)
  refine InvX_gen h hp (fun i hi _ => e i hi.2.2.2.2 (by have := hi.2.1; omega)) (fun j hj => hf j (by omega)) (CHm_eq h.2.2.2.2.2.2.1 (fun i h1 h2 => e i (by omega) (by omega)) (e 114 (by decide) (by decide)) (e 115 (by decide) (by decide)) (e 116 (by decide) (by decide))) ?_ ?_ ?_
  · unfold PRm
    rw [e 96 (by decide) (by decide), e 108 (by decide) (by decide)]
    exact h.2.2.2.2.2.2.2.1
  · rw [e 0 (by decide) (by decide)]
    exact h.2.2.2.2.2.2.2.2.2.1.imp id (fun g => SVF_eq g (by rw [e 92 (by decide) (by decide)]; exact fun _ _ => rfl) (e 93 (by decide) (by decide)) (by rw [e 90 (by decide) (by decide)]; exact ⟨rfl, rfl⟩) (by rw [e 1 (by decide) (by decide)]) (e 2 (by decide) (by decide)) (e 5 (by decide) (by decide)) (e 6 (by decide) (by decide)) (e 91 (by decide) (by decide)))
  · unfold MOm
    rw [e 94 (by decide) (by decide), e 95 (by decide) (by decide), hf 32 (by omega), hf 38 (by omega)]
    exact h.2.2.2.2.2.2.2.2.2.2
theorem InvX_fy (h : InvX M nv np n k) : InvX (fyM M nv) nv np n k := InvX_m h (fun i _ _ h3 _ => gSet_n h3) (fun _ _ => rfl)
theorem sm9_rf (M : gMem) : sm9 M M := ⟨fun _ _ _ => rfl, rfl, rfl, rfl, rfl⟩
theorem InvX_106 (h : InvX M nv np n k) {f : Nat → Int} (hf : ∀ j, j < 22 ∨ j = 32 ∨ j = 35 ∨ j = 38 → f j = M 106 j) : InvX (gSet M 106 f) nv np n k := InvX_m h (fun i h1 _ _ _ => gSet_n h1) (fun j hj => (congrFun (gSet_s M 106 f) j).trans (hf j hj))
theorem nat_of {x : Int} {m : Nat} (h : 0 ≤ x ∧ x ≤ (m : Int) - 1) : ∃ a : Nat, x = (a : Int) ∧ a < m := by
  obtain ⟨a, e0⟩ := Int.eq_ofNat_of_zero_le h.1
  exact ⟨a, e0, by omega⟩
theorem st_apart (h : InvX M nv np n k) (a b : Int) : StI D ca mX8_apart mX9_apart [gI a, gI b] M := by
  by_cases c : (0 ≤ a ∧ a ≤ (nv : Int) - 1) ∧ (0 ≤ b ∧ b ≤ (nv : Int) - 1)
  · obtain ⟨a, e1, ha⟩ := nat_of c.1
    obtain ⟨b, e2, hb⟩ := nat_of c.2
    subst e1
    subst e2
    refine ⟨_, _, _, pX8_apart h.1 a b ha hb, ?_, nv, np, n, k, InvX_fy h⟩
    have e0 : (if M 89 (a * 12 + b) = 1000000 then -4 else M 89 (a * 12 + b)) = (fyM M nv) 124 (12 * a + b) := by
      rw [sm_wy h (sm9_rf M) ha hb, h.2.2.2.2.2.2.2.2.1.1 a b ha hb]
      have bd := dsF_bd (Inv_LOK h) h.1.2.2.1 a b
      unfold phI
      split
      · rw [if_pos rfl]; omega
      · rw [if_neg (by omega)]
    rw [e0]
    exact pX9_apart h.2.1 a b ha hb
  · exact ⟨_, _, _, pX8_apart_bad h.1 a b c, pX9_apart_bad h.2.1 a b c, nv, np, n, k, h⟩
theorem st_way (h : InvX M nv np n k) (a b i : Int) (hi : in32 i) : StI D ca mX8_way mX9_way [gI a, gI b, gI i] M := by
  by_cases c : (0 ≤ a ∧ a ≤ (nv : Int) - 1) ∧ (0 ≤ b ∧ b ≤ (nv : Int) - 1) ∧ 0 ≤ i
  · obtain ⟨a, e1, ha⟩ := nat_of c.1
    obtain ⟨b, e2, hb⟩ := nat_of c.2.1
    obtain ⟨i, e3⟩ := Int.eq_ofNat_of_zero_le c.2.2
    subst e1
    subst e2
    subst e3
    have hn := h.1.2.2.1
    have bd := dsF_bd (Inv_LOK h) hn a b
    have hS := h.2.2.2.2.2.2.2.2.1.1
    have hR : ∀ j, j < 144 → (fyM M nv) 109 j = M 3 j := h.2.2.2.1.2.2.1
    have hY : ∀ x y, x < nv → y < nv → (fyM M nv) 124 (12 * x + y) = dsF (M 3) nv x y := fun x y hx hy => sm_wy h (sm9_rf M) hx hy
    by_cases q : dsF (M 3) nv a b = -4
    · refine ⟨_, _, _, pX8_way h.1 a b i ha hb, ?_, nv, np, n, k, InvX_fy h⟩
      rw [if_pos (by rw [hS a b ha hb, q]; rfl)]
      exact pX9_way_no h.2.1 a b i ha hb (by rw [hY a b ha hb]; exact q)
    · refine ⟨_, _, _, pX8_way h.1 a b i ha hb, ?_, nv, np, n, k, InvX_fy h⟩
      rw [if_neg (by rw [hS a b ha hb]; unfold phI; rw [if_neg q]; omega), way_eq (Inv_LOK h) hn hR hS hY hb ha q i]
      have hi2 : i < 2147483648 := by
        unfold in32 at hi
        omega
      refine pX9_way h.2.1 a b i ha hb hi2 (by rw [hY a b ha hb]; exact q) (fun v hv hvb hf => ?_)
      rw [hY v b hv hb] at hf
      obtain ⟨t, t1, t2, t3, t4, t5⟩ := nx_f (Inv_LOK h) hn hR hY hv hb hvb hf
      exact ⟨t, t1, t2, by rw [hY t b t2 hb]; exact t4⟩
  · exact ⟨_, _, _, pX8_way_bad h.1 a b i c, pX9_way_bad h.2.1 a b i c, nv, np, n, k, h⟩
theorem ch_cases {x : Int} {np : Nat} : (∃ c : Nat, c < 2 ^ np ∧ x = (c : Int)) ∨ (¬ (0 ≤ x ∧ x < ((2 ^ np : Nat) : Int)) ∧ ¬ (0 ≤ x ∧ x ≤ ((2 ^ np : Nat) : Int) - 1)) := by
  by_cases c : 0 ≤ x ∧ x < ((2 ^ np : Nat) : Int)
  · obtain ⟨a, e0⟩ := Int.eq_ofNat_of_zero_le c.1
    exact Or.inl ⟨a, by omega, e0⟩
  · exact Or.inr ⟨c, by omega⟩
theorem st_allowed (h : InvX M nv np n k) (x : Int) (hx : in32 x) : StI D ca mX8_allowed mX9_allowed [gI x] M := by
  rcases ch_cases (x := x) (np := np) with ⟨c, hc, e0⟩ | ⟨b1, b2⟩
  · subst e0
    refine ⟨_, _, _, pX8_allowed h.1 c hc, ?_, nv, np, n, k, h⟩
    rw [Inv_ok h c hc, ← Inv_al h c]
    exact pX9_allowed h.2.1 c hc
  · exact ⟨_, _, _, pX8_allowed_bad h.1 x hx b1, pX9_allowed_bad h.2.1 x b2, nv, np, n, k, h⟩
theorem st_cost (h : InvX M nv np n k) (x : Int) (hx : in32 x) : StJ D ca mX8_cost mX9_cost [gI x] M := by
  rcases ch_cases (x := x) (np := np) with ⟨c, hc, e0⟩ | ⟨b1, b2⟩
  · subst e0
    refine ⟨_, _, _, pX8_cost h.1 c hc, ?_, nv, np, n, k, InvX_106 (f := whF ((fyM M nv) 106) (wgM (fyM M nv) nv np c)) (InvX_fy h) (fun j hj => by unfold whF; rw [gUp_n (by omega), gUp_n (by omega), gUp_n (by omega)])⟩
    have e1 : (if meS (M 2) (M 5) (M 6) (M 91) nv np c < 1099511627776 then meS (M 2) (M 5) (M 6) (M 91) nv np c else -4) = (if 0 < (wgM (fyM M nv) nv np c).1 then -4 else (wgM (fyM M nv) nv np c).2.1) := by
      rw [sm_W h (sm9_rf M)]
      obtain ⟨w1, w2, w3, w4, w5⟩ := Inv_W h c
      rw [w4]
      split <;> split <;> omega
    rw [e1]
    exact pX9_cost h.2.1 (Inv_H9 h) c hc
  · exact ⟨_, _, _, pX8_cost_bad h.1 x hx b1, pX9_cost_bad h.2.1 x b2, nv, np, n, k, h⟩
theorem sv_of (h : InvX M nv np n k) {c v : Nat} (hv : v < nv) : svM9 (fyM M nv) np c v = (ofS (M 91) c v np).1 := by
  rw [(of_sv (C := fun p => crM M nv p v) (c := c) (v := v) np (fun p hp => Inv_car h p v hp hv) (fun p hp => Inv_C h p v hp hv)).1]
  exact svS_congr np (fun p hp => sm_mc h (sm9_rf M) p v hp hv)
theorem st_served (h : InvX M nv np n k) (x v : Int) (hx : in32 x) : StI D ca mX8_served mX9_served [gI x, gI v] M := by
  rcases ch_cases (x := x) (np := np) with ⟨c, hc, e0⟩ | ⟨b1, b2⟩
  · by_cases q : 0 ≤ v ∧ v ≤ (nv : Int) - 1
    · obtain ⟨v, e1, hv⟩ := nat_of q
      subst e0
      subst e1
      refine ⟨_, _, _, pX8_served h.1 c hc v hv, ?_, nv, np, n, k, InvX_fy h⟩
      rw [← sv_of h hv]
      exact pX9_served h.2.1 (Inv_H9 h) c hc v hv
    · exact ⟨_, _, _, pX8_served_bad2 h.1 x v q, pX9_served_bad2 h.2.1 x v q, nv, np, n, k, h⟩
  · exact ⟨_, _, _, pX8_served_bad1 h.1 x hx b1 v, pX9_served_bad1 h.2.1 x b2 v, nv, np, n, k, h⟩
theorem sh_sr (h : InvX M nv np n k) {c p : Nat} (hp : p < np) : ∀ m, m ≤ nv → (in32 (shS (M 2) (M 91) (fun _ => 1) np c p m) ∧ in32 (shS (M 2) (M 91) (M 2) np c p m)) ∧ shS (M 2) (M 91) (fun _ => 1) np c p m = (sr9 ((fyM M nv) 107) (svM9 (fyM M nv) np c) (mcM (fyM M nv) p) p m).1 ∧ shS (M 2) (M 91) (M 2) np c p m = (sr9 ((fyM M nv) 107) (svM9 (fyM M nv) np c) (mcM (fyM M nv) p) p m).2.1 ∧ faS (M 2) (M 91) np c p m = (sr9 ((fyM M nv) 107) (svM9 (fyM M nv) np c) (mcM (fyM M nv) p) p m).2.2
  | 0, _ => ⟨⟨in32_0, in32_0⟩, rfl, rfl, rfl⟩
  | m + 1, hm => by
    obtain ⟨⟨z1, z2⟩, i1, i2, i3⟩ := sh_sr h hp m (by omega)
    have eB : (fyM M nv) 107 m = M 2 m := h.2.2.2.1.2.1 m (by have := h.1.2.2.1; omega)
    refine ⟨⟨w32_in _, w32_in _⟩, ?_⟩
    simp only [shS, faS, sr9]
    rw [eB, sv_of h (show m < nv by omega)]
    by_cases q : 0 < M 2 m ∧ (ofS (M 91) c m np).1 = (p : Int)
    · have q0 := (of_sv (C := fun p => crM M nv p m) (c := c) (v := m) np (fun p hp => Inv_car h p m hp (by omega)) (fun p hp => Inv_C h p m hp (by omega))).1
      have ok : crM M nv p m ≠ -4 := by
        have q1 := svS_ok (f := fun p => crM M nv p m) (c := c) np (by rw [← q0, q.2]; omega)
        rw [← q0, q.2, Int.toNat_natCast] at q1
        exact q1
      have ec : M 91 (p * 12 + m) = crM M nv p m := by
        rw [Inv_car h p m hp (by omega)]
        unfold phI
        rw [if_neg ok]
      rw [if_pos q, if_pos q, if_pos q, if_pos q, ec, sm_mc h (sm9_rf M) p m hp (by omega), i1, i2, i3]
      refine ⟨rfl, rfl, ?_⟩
      simp only []
      rw [Int.max_def]
      split <;> split <;> omega
    · rw [if_neg q, if_neg q, if_neg q, if_neg q, Int.add_zero, Int.add_zero, w32_id z1, w32_id z2]
      exact ⟨i1, i2, i3⟩
theorem st_share (h : InvX M nv np n k) (x p w : Int) (hx : in32 x) : StI D ca mX8_share mX9_share [gI x, gI p, gI w] M := by
  rcases ch_cases (x := x) (np := np) with ⟨c, hc, e0⟩ | ⟨b1, b2⟩
  · by_cases q : (0 ≤ p ∧ p ≤ (np : Int) - 1) ∧ 0 ≤ w ∧ w ≤ 2
    · obtain ⟨p, e1, hp⟩ := nat_of q.1
      subst e0
      subst e1
      by_cases t : c.testBit p = true
      · obtain ⟨_, s1, s2, s3⟩ := sh_sr h (c := c) hp nv (Nat.le_refl _)
        have F9 := pX9_share (D := D) (ca := ca) h.2.1 (Inv_H9 h) c hc p hp w q.2 t
        by_cases w0 : w = 0
        · subst w0
          refine ⟨_, _, _, pX8_share_0 h.1 c hc p hp t, ?_, nv, np, n, k, InvX_fy h⟩
          rw [s1]
          exact F9
        · by_cases w1 : w = 1
          · subst w1
            refine ⟨_, _, _, pX8_share_1 h.1 c hc p hp t, ?_, nv, np, n, k, InvX_fy h⟩
            rw [s2]
            exact F9
          · have w2 : w = 2 := by omega
            subst w2
            refine ⟨_, _, _, pX8_share_2 h.1 c hc p hp t, ?_, nv, np, n, k, InvX_fy h⟩
            rw [s3]
            exact F9
      · exact ⟨_, _, _, pX8_share_st h.1 c hc p hp w q.2 t, pX9_share_st h.2.1 c hc p hp w q.2 t, nv, np, n, k, h⟩
    · exact ⟨_, _, _, pX8_share_bad2 h.1 x p w q, pX9_share_bad2 h.2.1 x p w q, nv, np, n, k, h⟩
  · exact ⟨_, _, _, pX8_share_bad1 h.1 x hx b1 p w, pX9_share_bad1 h.2.1 x b2 p w, nv, np, n, k, h⟩
theorem st_moves (h : InvX M nv np n k) : StI D ca mX8_moves mX9_moves [] M := ⟨_, _, _, pX8_moves h.1, by rw [h.2.2.2.2.2.2.2.2.2.2.1]; exact pX9_moves h.2.1, nv, np, n, k, h⟩
theorem st_highest (h : InvX M nv np n k) : StJ D ca mX8_highest mX9_highest [] M := ⟨_, _, _, pX8_highest h.1, by rw [h.2.2.2.2.2.2.2.2.2.2.2]; exact pX9_highest h.2.1, nv, np, n, k, h⟩
theorem st_priced (h : InvX M nv np n k) (v : Int) : StJ D ca mX8_priced mX9_priced [gI v] M := by
  by_cases q : 0 ≤ v ∧ v ≤ (nv : Int) - 1
  · obtain ⟨v, e1, hv⟩ := nat_of q
    subst e1
    exact ⟨_, _, _, pX8_priced h.1 v hv, by rw [(h.2.2.2.2.2.2.2.1.1 v hv).1]; exact pX9_priced h.2.1 v hv, nv, np, n, k, h⟩
  · exact ⟨_, _, _, pX8_priced_bad h.1 v q, pX9_priced_bad h.2.1 v q, nv, np, n, k, h⟩
theorem gi_M (h : InvX M nv np n k) {p v : Nat} (hp : p < np) (hv : v < nv) : giS (M 2) (M 91) (M 96) p v = gnM (fyM M nv) p v := by
  rw [gi_gn2 (B' := (fyM M nv) 107) (P' := (fyM M nv) 108) (C := mcM (fyM M nv)) (by rw [sm_mc h (sm9_rf M) p v hp hv]; exact Inv_C h p v hp hv) (by rw [sm_mc h (sm9_rf M) p v hp hv]; exact Inv_car h p v hp hv) (h.2.2.2.1.2.1 v (by have := h.1.2.2.1; omega)).symm (h.2.2.2.2.2.2.2.1.1 v hv).1]
theorem st_gives (h : InvX M nv np n k) (p v : Int) : StJ D ca mX8_gives mX9_gives [gI p, gI v] M := by
  by_cases q : (0 ≤ p ∧ p ≤ (np : Int) - 1) ∧ (0 ≤ v ∧ v ≤ (nv : Int) - 1)
  · obtain ⟨p, e1, hp⟩ := nat_of q.1
    obtain ⟨v, e2, hv⟩ := nat_of q.2
    subst e1
    subst e2
    refine ⟨_, _, _, pX8_gives h.1 p v hp hv, ?_, nv, np, n, k, InvX_fy h⟩
    rw [gi_M h hp hv]
    exact pX9_gives h.2.1 (Inv_H9 h) p v hp hv
  · exact ⟨_, _, _, pX8_gives_bad h.1 p v q, pX9_gives_bad h.2.1 p v q, nv, np, n, k, h⟩
theorem POK_M (h : InvX M nv np n k) : POK (M 96) nv := fun v hv => (h.2.2.2.2.2.2.2.1.1 v hv).2
theorem wo_M (h : InvX M nv np n k) {p : Nat} (hp : p < np) : woS (M 2) (M 5) (M 6) (M 91) (M 96) nv p = wtM (fyM M nv) nv p := by
  rw [wo_eq (P' := M 96) (C := crM M nv) h.1.2.2.1 (Inv_U h p hp) (Inv_B h) (POK_M h) (fun _ _ => rfl) (fun v hv => ⟨Inv_C h p v hp hv, Inv_car h p v hp hv⟩)]
  have hE := h.2.2.2.1
  exact wt_congr ⟨(hE.2.2.2.1 p hp).2.1.symm, (hE.2.2.2.1 p hp).2.2.symm⟩ (fun v hv => ⟨(hE.2.1 v (by have := h.1.2.2.1; omega)).symm, (h.2.2.2.2.2.2.2.1.1 v hv).1, (sm_mc h (sm9_rf M) p v hp hv).symm⟩)
theorem st_worth (h : InvX M nv np n k) (p : Int) : StJ D ca mX8_worth mX9_worth [gI p] M := by
  by_cases q : 0 ≤ p ∧ p ≤ (np : Int) - 1
  · obtain ⟨p, e1, hp⟩ := nat_of q
    subst e1
    refine ⟨_, _, _, pX8_worth h.1 p hp, ?_, nv, np, n, k, InvX_fy h⟩
    rw [wo_M h hp]
    exact pX9_worth h.2.1 (Inv_H9 h) p hp
  · exact ⟨_, _, _, pX8_worth_bad h.1 p q, pX9_worth_bad h.2.1 p q, nv, np, n, k, h⟩
theorem st_count (h : InvX M nv np n k) (w : Int) : StI D ca mX8_count mX9_count [gI w] M := by
  have hV := h.2.2.1
  have hE := h.2.2.2.1
  by_cases q : 0 ≤ w ∧ w ≤ 5
  · obtain ⟨z, e0⟩ := Int.eq_ofNat_of_zero_le q.1
    subst e0
    have hz : z ≤ 5 := by omega
    match z, hz with
    | 0, _ => exact ⟨_, _, _, pX8_count_0 h.1, pX9_count_0 h.2.1, nv, np, n, k, h⟩
    | 1, _ => exact ⟨_, _, _, pX8_count_1 h.1, pX9_count_1 h.2.1, nv, np, n, k, h⟩
    | 2, _ => exact ⟨_, _, _, pX8_count_2 h.1, by rw [ct2 (R := M 109) h.1.2.2.1 hE.2.2.1 hV.2.2.2.2.2.1]; exact pX9_count_2 h.2.1, nv, np, n, k, h⟩
    | 3, _ => exact ⟨_, _, _, pX8_count_3 h.1, by rw [← hE.1]; exact pX9_count_3 h.2.1, nv, np, n, k, h⟩
    | 4, _ => exact ⟨_, _, _, pX8_count_4 h.1 hV.2.2.2.1, by rw [ct4 (B' := M 107) nv h.1.2.2.1 (Inv_B h) (fun j hj => hE.2.1 j (by have := h.1.2.2.1; omega))]; exact pX9_count_4 h.2.1, nv, np, n, k, h⟩
    | 5, _ => exact ⟨_, _, _, pX8_count_5 h.1, by rw [h.2.2.2.2.2.2.2.2.1.2.1.1, ct5 h.1.2.2.2.2, ks9_congr (K' := M 111) np (fun p hp => (hE.2.2.2.1 p hp).2.1.symm)]; exact pX9_count_5 h.2.1, nv, np, n, k, h⟩
  · exact ⟨_, _, _, pX8_count_bad h.1 w q, pX9_count_bad h.2.1 w q, nv, np, n, k, h⟩
end RO
