/-! added, changed, bound, climb, price, map, lay -/
theorem puL_0 {F : Nat → (Nat → Int) → (Nat → Int)} (hF : ∀ c f, F c f 0 = f 0) : ∀ k c f, (puL F k c f).2 0 = f 0
  | 0, c, f => rfl
  | k + 1, c, f => by
    simp only [puL]
    split
    · exact hF c f
    · rw [puL_0 hF k]
      show gUp (F c f) 1 _ 0 = f 0
      rw [gUp_n (by decide)]
      exact hF c f
section OTH
variable {D : va_G} {ca : Nat → ClassId} {M M' : gMem} {nv np n k : Nat}
theorem Inv_s (h : InvX M nv np n k) : M 90 2 = ((mkN (M 5) 3 np : Nat) : Int) := by
  rw [h.2.2.2.2.2.2.2.2.1.2.1.1]
  exact pkF_mk (M 5) 3 np h.1.2.2.2.2
theorem Inv_s9 (h : InvX M nv np n k) : shF9 (M 111) np = ((mkN (M 5) 3 np : Nat) : Int) := by
  rw [shF9_congr (K' := M 5) np (fun p hp => (h.2.2.2.1.2.2.2.1 p hp).2.1)]
  exact shF9_mk (M 5) np h.1.2.2.2.2
/-- the builder's cell and the model's count of moves change together -/
theorem InvX_ad (h : InvX M nv np n k) {g : Nat → Int} (hg0 : g 0 = M 94 0) (s : T3 × Int × Int) (w : Int) (hw : g 1 = w) : MS (gSet M 94 g) nv np ∧ sm9 M (gSet M 94 g) ∧ InvX (adM (fyM (gSet M 94 g) nv) s w) nv np n k := by
  have hp1 : gPtr (gSet M 94 g) := (CS_bd h.1 hg0).1
  have hM1 : MS (gSet M 94 g) nv np := ⟨hp1, h.2.1.2.1, h.2.1.2.2.1, h.2.1.2.2.2.1, h.2.1.2.2.2.2⟩
  refine ⟨hM1, ⟨fun i h1 h2 => gSet_n (by omega), rfl, rfl, rfl, rfl⟩, ?_⟩
  have hp2 : gPtr (adM (fyM (gSet M 94 g) nv) s w) := (MS_ob (MS_fy hM1) (agM_up (agM_up (agM_up (agM_up (agM_up (agM_up (agM_rf _) (by decide)) (by decide)) (by decide)) (by decide)) (by decide)) (by decide))).1
  have e : ∀ i, i ≠ 94 → i ≠ 106 → i ≠ 124 → adM (fyM (gSet M 94 g) nv) s w i = M i := fun i h1 h2 h3 => by
    unfold adM
    rw [gSet_n h2]
    unfold fyM
    rw [gSet_n h3, gSet_n h1]
  refine InvX_gen h hp2 (fun i hi _ => e i (by have := hi.2.1; omega) (by have := hi.2.1; omega) (by have := hi.2.2.2.2; omega)) (fun j hj => ?_) (CHm_eq h.2.2.2.2.2.2.1 (fun i h1 h2 => e i (by omega) (by omega) (by omega)) (e 114 (by decide) (by decide) (by decide)) (e 115 (by decide) (by decide) (by decide)) (e 116 (by decide) (by decide) (by decide))) ?_ ?_ ?_
  · rcases hj with e0 | e0 | e0 | e0 <;> (subst e0; rfl)
  · unfold PRm
    rw [e 96 (by decide) (by decide) (by decide), e 108 (by decide) (by decide) (by decide)]
    exact h.2.2.2.2.2.2.2.1
  · rw [e 0 (by decide) (by decide) (by decide)]
    exact h.2.2.2.2.2.2.2.2.2.1.imp id (fun g => SVF_eq g (by rw [e 92 (by decide) (by decide) (by decide)]; exact fun _ _ => rfl) (e 93 (by decide) (by decide) (by decide)) (by rw [e 90 (by decide) (by decide) (by decide)]; exact ⟨rfl, rfl⟩) (by rw [e 1 (by decide) (by decide) (by decide)]) (e 2 (by decide) (by decide) (by decide)) (e 5 (by decide) (by decide) (by decide)) (e 6 (by decide) (by decide) (by decide)) (e 91 (by decide) (by decide) (by decide)))
  · refine ⟨?_, ?_⟩
    · show g 1 = w
      exact hw
    · show M 95 5 = M 106 38
      exact h.2.2.2.2.2.2.2.2.2.2.2
theorem Inv_WOK (h : InvX M nv np n k) : WOK (WgM M nv np) := fun c => ⟨(Inv_W h c).1.1, (Inv_W h c).2.1⟩
theorem Inv_me (h : InvX M nv np n k) : (fun c => meS (M 2) (M 5) (M 6) (M 91) nv np c) = msW (WgM M nv np) := funext (fun c => (Inv_W h c).2.2.2.1)
theorem st_added (h : InvX M nv np n k) : StI D ca mX8_added mX9_added [] M := by
  have hs := Inv_s h
  have hs9 := Inv_s9 h
  have hl := mkN_lt (M 5) 3 np
  have h2 := p10 h.1.2.2.2.2
  generalize mkN (M 5) 3 np = s at hs hs9 hl
  by_cases q : okM M np s = true
  · obtain ⟨R, r1, r2, r3⟩ := ad_eq (Inv_WOK h) h.1.2.2.2.2 (ok := fun c => msB (M 90 2) (M 90 3) (M 1 2) (c : Int)) (ok' := okM M np) (fun d hd => Inv_ok h d hd) hl (M 94) (WgM M nv np s)
    have eP : adP M nv np s = puL (fun c f => omS (fun c => msB (M 90 2) (M 90 3) (M 1 2) (c : Int)) (msW (WgM M nv np)) c f np) 10 s (gUp (M 94) 1 0) := by
      unfold adP
      rw [Inv_me h]
    have F8 := pX8_added (D := D) (ca := ca) h.1 s hs (by omega) ((Inv_ok h s hl).trans q)
    rw [← eP] at r2 r3
    have g0 : (adP M nv np s).2 0 = M 94 0 := by
      rw [eP]
      exact puL_0 (F := fun c f => omS (fun c => msB (M 90 2) (M 90 3) (M 1 2) (c : Int)) (msW (WgM M nv np)) c f np) (fun c f => omS_0 np) 10 s (gUp (M 94) 1 0)
    obtain ⟨hM1, e, hI⟩ := InvX_ad h g0 R.2.1 R.2.2 r3
    refine ⟨_, _, _, F8, ?_, nv, np, n, k, hI⟩
    rw [r2]
    have eA : alP ((fyM (gSet M 94 (adP M nv np s).2) nv) 111) np ((fyM (gSet M 94 (adP M nv np s).2) nv) 106 9) = okM M np := funext (fun c => sm_al h e c)
    have eW : wgM (fyM (gSet M 94 (adP M nv np s).2) nv) nv np = WgM M nv np := funext (sm_W h e)
    have eF : adF (fyM (gSet M 94 (adP M nv np s).2) nv) nv np = fun c t => amS (okM M np) (WgM M nv np) c t np := by
      funext c t
      unfold adF
      rw [eA, eW]
    refine pX9_added hM1 (sm_H9 h e) s hs9 (by omega) ((sm_al h e s).trans q) 11 R ?_
    rw [eF, eW]
    exact r1
  · exact ⟨_, _, _, pX8_added_st h.1 s hs (by rw [Inv_ok h s hl]; exact q), pX9_added_st h.2.1 s hs9 (by omega) (by rw [Inv_al h s]; exact q), nv, np, n, k, h⟩
theorem st_changed (h : InvX M nv np n k) (x : Int) (hx : in32 x) : StI D ca mX8_changed mX9_changed [gI x] M := by
  rcases ch_cases (x := x) (np := np) with ⟨s, hl, e0⟩ | ⟨b1, b2⟩
  · subst e0
    by_cases q : okM M np s = true
    · obtain ⟨R, r1, r2, r3⟩ := cg_eq (Inv_WOK h) h.1.2.2.2.2 (ok := fun c => msB (M 90 2) (M 90 3) (M 1 2) (c : Int)) (ok' := okM M np) (fun d hd => Inv_ok h d hd) hl (M 94) (WgM M nv np s)
      have eP : cgP M nv np s = puL (fun c f => oaO (fun c => msB (M 90 2) (M 90 3) (M 1 2) (c : Int)) (msW (WgM M nv np)) c np f np) 1024 s (gUp (M 94) 1 0) := by
        unfold cgP
        rw [Inv_me h]
      have F8 := pX8_changed (D := D) (ca := ca) h.1 s hl ((Inv_ok h s hl).trans q)
      rw [← eP] at r2 r3
      have g0 : (cgP M nv np s).2 0 = M 94 0 := by
        rw [eP]
        exact puL_0 (F := fun c f => oaO (fun c => msB (M 90 2) (M 90 3) (M 1 2) (c : Int)) (msW (WgM M nv np)) c np f np) (fun c f => oaO_0 np) 1024 s (gUp (M 94) 1 0)
      obtain ⟨hM1, e, hI⟩ := InvX_ad h g0 R.2.1 R.2.2 r3
      refine ⟨_, _, _, F8, ?_, nv, np, n, k, hI⟩
      rw [r2]
      have eA : alP ((fyM (gSet M 94 (cgP M nv np s).2) nv) 111) np ((fyM (gSet M 94 (cgP M nv np s).2) nv) 106 9) = okM M np := funext (fun c => sm_al h e c)
      have eW : wgM (fyM (gSet M 94 (cgP M nv np s).2) nv) nv np = WgM M nv np := funext (sm_W h e)
      have eF : cgF (fyM (gSet M 94 (cgP M nv np s).2) nv) nv np = fun c t => cgO (okM M np) (WgM M nv np) c np t np := by
        funext c t
        unfold cgF
        rw [eA, eW]
      refine pX9_changed hM1 (sm_H9 h e) s hl ((sm_al h e s).trans q) 1025 R ?_
      rw [eF, eW]
      exact r1
    · exact ⟨_, _, _, pX8_changed_st h.1 s hl (by rw [Inv_ok h s hl]; exact q), pX9_changed_st h.2.1 s hl (by rw [Inv_al h s]; exact q), nv, np, n, k, h⟩
  · exact ⟨_, _, _, pX8_changed_bad h.1 x hx b1, pX9_changed_bad h.2.1 x b2, nv, np, n, k, h⟩
/-- prices, the purse's cells and the model's scratch may change -/
theorem InvX_pu (h : InvX M nv np n k) (hp : gPtr M') (he : ∀ i, i ≠ 95 → i ≠ 96 → i ≠ 97 → i ≠ 106 → i ≠ 108 → i < 123 → M' i = M i) (hf : ∀ j, j = 0 ∨ j = 4 ∨ j = 9 ∨ j = 13 ∨ j = 32 → M' 106 j = M 106 j) (hP : PRm M' nv) (h95 : M' 95 5 = M' 106 38) : InvX M' nv np n k := by
  have e : ∀ i, i < 92 → M' i = M i := fun i hi => he i (by omega) (by omega) (by omega) (by omega) (by omega) (by omega)
  have e92 := he 92 (by decide) (by decide) (by decide) (by decide) (by decide) (by decide)
  refine InvX_gen h hp (fun i hi _ => he i (by have := hi.2.1; omega) (by have := hi.2.1; omega) (by have := hi.2.1; omega) (by have := hi.2.1; omega) hi.2.2.1 hi.2.2.2.2) (fun j hj => hf j (by omega)) (CHm_eq h.2.2.2.2.2.2.1 (fun i h1 h2 => he i (by omega) (by omega) (by omega) (by omega) (by omega) (by omega)) (he 114 (by decide) (by decide) (by decide) (by decide) (by decide) (by decide)) (he 115 (by decide) (by decide) (by decide) (by decide) (by decide) (by decide)) (he 116 (by decide) (by decide) (by decide) (by decide) (by decide) (by decide))) hP ?_ ⟨?_, h95⟩
  · rw [e 0 (by decide)]
    exact h.2.2.2.2.2.2.2.2.2.1.imp id (fun g => SVF_eq g (by rw [e92]; exact fun _ _ => rfl) (he 93 (by decide) (by decide) (by decide) (by decide) (by decide) (by decide)) (by rw [e 90 (by decide)]; exact ⟨rfl, rfl⟩) (by rw [e 1 (by decide)]) (e 2 (by decide)) (e 5 (by decide)) (e 6 (by decide)) (e 91 (by decide)))
  · rw [he 94 (by decide) (by decide) (by decide) (by decide) (by decide) (by decide), hf 32 (by omega)]
    exact h.2.2.2.2.2.2.2.2.2.2.1
theorem st_price (h : InvX M nv np n k) (v x : Int) : StI D ca mX8_price mX9_price [gI v, gI x] M := by
  by_cases q : (0 ≤ v ∧ v ≤ (nv : Int) - 1) ∧ 0 ≤ x ∧ x ≤ 100000000
  · obtain ⟨v, e1, hv⟩ := nat_of q.1
    subst e1
    have hn := h.1.2.2.1
    have hM1 : MS (gSet M 96 (gUp (M 96) v x)) nv np := MS_row h.2.1 rfl
    refine ⟨_, _, _, pX8_price h.1 v hv x q.2, pX9_price hM1 v hv x q.2, nv, np, n, k, ?_⟩
    refine InvX_pu h (MS_row (i := 108) (r := gUp (M 108) v x) hM1 rfl).1 (fun i _ h2 _ _ h5 _ => by rw [gSet_n h5, gSet_n h2]) (fun _ _ => rfl) ⟨fun u hu => ?_, fun u hu hu2 => ?_⟩ h.2.2.2.2.2.2.2.2.2.2.2
    · show gUp (M 96) v x u = gUp (M 108) v x u ∧ 0 ≤ gUp (M 96) v x u ∧ gUp (M 96) v x u ≤ 100000000
      by_cases c : u = v
      · subst c
        rw [gUp_s, gUp_s]
        exact ⟨rfl, q.2⟩
      · rw [gUp_n c, gUp_n c]
        exact h.2.2.2.2.2.2.2.1.1 u hu
    · show gUp (M 96) v x u = 0
      rw [gUp_n (by omega)]
      exact h.2.2.2.2.2.2.2.1.2 u hu hu2
  · exact ⟨_, _, _, pX8_price_bad h.1 v x q, pX9_price_bad h.2.1 v x q, nv, np, n, k, h⟩
abbrev RTm (M : gMem) (nv np : Nat) : Int × Int := RT (okM M np) (M 2) (M 96) (M 5) (M 6) (crM M nv) nv np
abbrev BNm (M : gMem) (nv np : Nat) : Int := BN (okM M np) (M 2) (M 96) (M 5) (M 6) (crM M nv) nv np
theorem ft_M (h : InvX M nv np n k) : ftT M nv np = (RTm M nv np).1 ∧ ((RTm M nv np).1 ≠ -4 → btF (ftT M nv np) (ftY M nv np) (M 2) (M 96) nv = BNm M nv np) :=
  ft_RT (Y := M 97) h.1.2.2.1 (Inv_B h) (Inv_U h) (POK_M h) (Inv_C h) (Inv_car h) (fun c hc => Inv_ok h c hc)
/-- a memory whose model's rows are M's, ways found -/
theorem ri_M (h : InvX M nv np n k) {N A : gMem} (e : sm9 M N) (eA : ∀ i, 106 < i → i < 125 → A i = (fyM N nv) i) (e9 : A 106 9 = M 106 9) : riT A nv np = RTm M nv np ∧ bnF A nv np = BNm M nv np := by
  have hE := h.2.2.2.1
  have hn := h.1.2.2.1
  have rr : ∀ i, 106 < i → i < 123 → A i = M i := fun i h1 h2 => by
    rw [eA i h1 (by omega)]
    unfold fyM
    rw [gSet_n (by omega)]
    exact e.1 i h1 h2
  have mc : ∀ p v, p < np → v < nv → mcM A p v = crM M nv p v := fun p v hp hv => by
    rw [← sm_mc h e p v hp hv]
    unfold mcM
    rw [eA 110 (by decide) (by decide), eA 111 (by decide) (by decide), eA 113 (by decide) (by decide), eA 124 (by decide) (by decide)]
  have ho : ∀ c, c < 2 ^ np → alP (A 111) np (A 106 9) c = okM M np c := fun c _ => by
    rw [rr 111 (by decide) (by decide), e9]
    exact Inv_al h c
  have hB : ∀ v, v < nv → A 107 v = M 2 v := fun v hv => by
    rw [rr 107 (by decide) (by decide)]
    exact hE.2.1 v (by omega)
  have hP : ∀ v, v < nv → A 108 v = M 96 v := fun v hv => by
    rw [rr 108 (by decide) (by decide)]
    exact (h.2.2.2.2.2.2.2.1.1 v hv).1.symm
  have hK : ∀ p, p < np → A 111 p = M 5 p ∧ A 112 p = M 6 p := fun p hp => by
    rw [rr 111 (by decide) (by decide), rr 112 (by decide) (by decide)]
    exact (hE.2.2.2.1 p hp).2
  rw [riT_RT, bnF_BN]
  exact ⟨RT_congr ho hB hP hK mc, BN_congr ho hB hP hK mc⟩
theorem sm_ft (M : gMem) (nv np : Nat) : sm9 M (ftM M nv np) := ⟨fun i h1 h2 => by unfold ftM; rw [gSet_n (by omega), gSet_n (by omega)], rfl, rfl, rfl, rfl⟩
theorem InvX_ft (h : InvX M nv np n k) : InvX (ftM M nv np) nv np n k := by
  refine InvX_pu h (CS_ft h.1).1 (fun i h1 _ h3 _ _ _ => by unfold ftM; rw [gSet_n h1, gSet_n h3]) (fun _ _ => rfl) h.2.2.2.2.2.2.2.1 h.2.2.2.2.2.2.2.2.2.2.2
theorem InvX_ri (h : InvX M nv np n k) : InvX (riM M nv np) nv np n k := InvX_m h (fun i h1 _ _ h4 => riM_o ⟨h1, h4⟩) (fun j hj => riM_f (by omega))
theorem st_bound (h : InvX M nv np n k) : StJ D ca mX8_bound mX9_bound [] M := by
  have hI := InvX_ft h
  refine ⟨_, _, _, pX8_bound h.1, ?_, nv, np, n, k, InvX_ri (InvX_fy hI)⟩
  obtain ⟨f1, f2⟩ := ft_M h
  obtain ⟨r1, r2⟩ := ri_M h (sm_ft M nv np) (A := fyM (ftM M nv np) nv) (fun _ _ _ => rfl) rfl
  have e1 : (if ftT M nv np = -4 then -4 else btF (ftT M nv np) (ftY M nv np) (M 2) (M 96) nv) = bnF (fyM (ftM M nv np) nv) nv np := by
    rw [r2]
    by_cases c : (RTm M nv np).1 = -4
    · rw [if_pos (f1.trans c)]
      unfold BNm BN
      rw [if_pos c]
    · rw [if_neg (by rw [f1]; exact c), f2 c]
  rw [e1]
  exact pX9_bound hI.2.1 (Inv_H9 hI)
theorem ric_none {ok : Nat → Bool} {su : Nat → Int} : ∀ n, (∀ c, c < n → ¬ ok c = true) → (ricS ok su n).1 = -4
  | 0, _ => rfl
  | n + 1, h => by
    have e1 : ricS ok su (n + 1) = if ok n = true ∧ ((ricS ok su n).1 = -4 ∨ (ricS ok su n).2 < su n) then ((n : Int), su n) else ricS ok su n := rfl
    rw [e1, if_neg (fun z => h n (by omega) z.1)]
    exact ric_none n (fun c hc => h c (by omega))
theorem c9_f {A : gMem} {s : Int} {j : Nat} (h : j ≠ 36 ∧ j ≠ 37 ∧ j ≠ 38) : ∀ i, (cl9S A nv np s i).2 106 j = A 106 j
  | 0 => rfl
  | i + 1 => by
    rw [← c9_f (A := A) (s := s) h i]
    show cl9N (cl9S A nv np s i).2 nv np s 106 j = _
    unfold cl9N
    rw [gSet_s, gUp_n h.2.2, riM_f ⟨h.1, h.2.1⟩]
    show riM (cl9S A nv np s i).2 nv np 106 j = _
    rw [riM_f ⟨h.1, h.2.1⟩]
theorem st_climb (h : InvX M nv np n k) (x z : Int) : StI D ca mX8_climb mX9_climb [gI x, gI z] M := by
  by_cases q : (0 ≤ x ∧ x ≤ 100) ∧ 1 ≤ z ∧ z ≤ 100000
  · obtain ⟨m, e1⟩ := Int.eq_ofNat_of_zero_le q.1.1
    subst e1
    have hm : m ≤ 100 := by omega
    obtain ⟨f1, f2⟩ := ft_M h
    by_cases hok : ∃ c, c < 2 ^ np ∧ okM M np c = true
    · obtain ⟨t, ht1, ht2⟩ := ricS_some (su := fun c => suS (fun p => wtF (M 2) (M 96) (M 5) (M 6) (crM M nv) nv p) c np) hok
      have ht : (RTm M nv np).1 = (t : Int) := ht2
      have h2 := p10 h.1.2.2.2.2
      have hbt := f2 (by rw [ht]; omega)
      rw [f1, ht] at hbt
      have F8 := pX8_climb (D := D) (ca := ca) h.1 m hm z q.2 t (f1.trans ht) (by omega) (by
        obtain ⟨c, hc, ho⟩ := hok
        exact ⟨c, hc, (Inv_ok h c hc).trans ho⟩)
      have hC1 : CS (cmM M nv np t z m) nv np := CS_cb (CS_ft h.1) _ _ _ _
      have hM1 : MS (cmM M nv np t z m) nv np := ⟨hC1.1, h.2.1.2.1, h.2.1.2.2.1, h.2.1.2.2.2.1, h.2.1.2.2.2.2⟩
      have e : sm9 M (cmM M nv np t z m) := ⟨fun i h1 h2 => by unfold cmM cbM ftM; rw [gSet_n (by omega), gSet_n (by omega), gSet_n (by omega), gSet_n (by omega), gSet_n (by omega)], rfl, rfl, rfl, rfl⟩
      obtain ⟨r1, _⟩ := ri_M h e (A := fyM (cmM M nv np t z m) nv) (fun _ _ _ => rfl) rfl
      obtain ⟨_, r2⟩ := ri_M h e (A := riM (fyM (cmM M nv np t z m) nv) nv np) (fun i h1 h2 => riM_o (by omega)) rfl
      have hA : MS (cl9B9 (fyM (cmM M nv np t z m) nv) nv np) nv np := MS_ob (MS_ri (MS_ri (MS_fy hM1))) (agM_up (agM_rf _) (by decide))
      have F9 := pX9_climb (D := D) (ca := ca) hM1 (sm_H9 h e) m hm z q.2 (by rw [r1, ht]; omega) (by
        obtain ⟨c, hc, ho⟩ := hok
        exact ⟨c, hc, (sm_al h e c).trans ho⟩)
      have hE := h.2.2.2.1
      have hn := h.1.2.2.1
      have K := cb_eq (okc := fun c => msB (M 90 2) (M 90 3) (M 1 2) (c : Int)) (ok := okM M np) (B := M 2) (K := M 5) (U := M 6) (car := M 91) (P0 := M 96) (Y0 := ftY M nv np) (C := crM M nv) (t0 := t) (h0 := btF (t : Int) (ftY M nv np) (M 2) (M 96) nv) (s := z) (A0 := cl9B9 (fyM (cmM M nv np t z m) nv) nv np) hn h.1.2.2.2.2 q.2 (Inv_B h) (Inv_U h) (Inv_C h) (Inv_car h) (fun c hc => Inv_ok h c hc) hok hA
        (fun v hv => by show M 2 v = M 107 v; exact (hE.2.1 v (by omega)).symm)
        (fun p hp => by show M 5 p = M 111 p ∧ M 6 p = M 112 p; exact ⟨(hE.2.2.2.1 p hp).2.1.symm, (hE.2.2.2.1 p hp).2.2.symm⟩)
        (fun p v hp hv => (sm_mc h e p v hp hv).symm)
        (fun c _ => (sm_al h e c).symm)
        (fun v hv => h.2.2.2.2.2.2.2.1.1 v hv) ht (by rw [hbt, ← r2]; rfl) m hm
      obtain ⟨⟨k1, _, _⟩, k4, k5, _, k7⟩ := K
      obtain ⟨s1, s2, _⟩ := cl9S_i (s := z) hA m
      refine ⟨_, _, (cl9S (cl9B9 (fyM (cmM M nv np t z m) nv) nv np) nv np z m).2, F8, ?_, nv, np, n, k, ?_⟩
      · have e1 : (cmZ M nv np t z m).1 = (cl9S (cl9B9 (fyM (cmM M nv np t z m) nv) nv np) nv np z m).1 := k1.symm
        rw [e1]
        exact F9
      · have rw1 : ∀ i, i ≠ 95 → i ≠ 96 → i ≠ 97 → i ≠ 106 → i ≠ 108 → i < 123 → (cl9S (cl9B9 (fyM (cmM M nv np t z m) nv) nv np) nv np z m).2 i = M i := fun i g1 g2 g3 g4 g5 g6 => by
          rw [s2 i ⟨g4, by omega, g5⟩]
          unfold cl9B9
          rw [gSet_n g4, riM_o ⟨g4, by omega⟩, riM_o ⟨g4, by omega⟩]
          unfold fyM
          rw [gSet_n (by omega)]
          unfold cmM cbM ftM
          rw [gSet_n g1, gSet_n g3, gSet_n g2, gSet_n g1, gSet_n g3]
        refine InvX_pu h s1.1 rw1 (fun j hj => ?_) ⟨fun v hv => ?_, fun v h1 h2 => ?_⟩ ?_
        · rw [c9_f (by omega)]
          rcases hj with e0 | e0 | e0 | e0 | e0 <;> (subst e0; rfl)
        · rw [s2 96 (by decide)]
          exact k4 v hv
        · rw [s2 96 (by decide)]
          exact (k5 v h1).trans (h.2.2.2.2.2.2.2.1.2 v h1 h2)
        · rw [s2 95 (by decide)]
          exact k7
    · have hR : (RTm M nv np).1 = -4 := ric_none _ (fun c hc ho => hok ⟨c, hc, ho⟩)
      have hI := InvX_ft h
      obtain ⟨r1, _⟩ := ri_M h (sm_ft M nv np) (A := fyM (ftM M nv np) nv) (fun _ _ _ => rfl) rfl
      exact ⟨_, _, _, pX8_climb_st h.1 m hm z q.2 (f1.trans hR), pX9_climb_st hI.2.1 (Inv_H9 hI) m hm z q.2 (by rw [r1]; exact hR), nv, np, n, k, InvX_ri (InvX_fy hI)⟩
  · exact ⟨_, _, _, pX8_climb_bad h.1 x z q, pX9_climb_bad h.2.1 x z q, nv, np, n, k, h⟩
end OTH
