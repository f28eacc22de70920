/-! what holds between the class and the model, between two calls of the law -/
def VOK (nv np : Nat) (num : Int) (B L H K U Q : Nat → Int) : Prop :=
  nv ≤ 12 ∧ np ≤ 10 ∧ (0 ≤ num ∧ num ≤ 20) ∧ (∀ j, j < 12 → 0 ≤ B j ∧ B j ≤ 1000) ∧ LOK L ∧ (∀ a b, a < 12 → b < 12 → L (a * 12 + b) = L (b * 12 + a)) ∧ (∀ a b, a < 12 → b < 12 → (nv ≤ a ∨ nv ≤ b) → L (a * 12 + b) = 0) ∧ (∀ p, p < np → ∃ z : Nat, z < nv ∧ H p = (z : Int)) ∧ (∀ p, p < np → 0 ≤ K p ∧ K p ≤ 4) ∧ (∀ p, p < np → 0 ≤ U p ∧ U p ≤ 100000) ∧ (∀ p, p < 10 → 0 ≤ Q p ∧ Q p ≤ 12000)
def EQV (M : gMem) (np : Nat) : Prop := M 106 9 = M 1 2 ∧ (∀ j, j < 12 → M 107 j = M 2 j) ∧ (∀ j, j < 144 → M 109 j = M 3 j) ∧ (∀ p, p < np → M 110 p = M 4 p ∧ M 111 p = M 5 p ∧ M 112 p = M 6 p) ∧ (∀ j, j < 10 → M 113 j = M 7 j)
/-- the page at the cell c is the model's kept valley s -/
def PG (M : gMem) (nv np c s a b : Nat) : Prop :=
  (M c 0 = (a : Int) ∧ M c 1 = (b : Int)) ∧ VOK a b (M c 2) (M (c + 1)) (M (c + 2)) (M (c + 3)) (M (c + 4)) (M (c + 5)) (M (c + 6)) ∧ (M 117 s = (a : Int) ∧ M 120 s = (b : Int) ∧ M 122 s = M c 2) ∧ (∀ j, j < 12 → M 118 (12 * s + j) = M (c + 1) j) ∧ (∀ j, j < 144 → M 119 (144 * s + j) = M (c + 2) j) ∧ (∀ j, j < 10 → M 121 (10 * s + j) = M (c + 6) j) ∧ (a ≤ nv ∧ b ≤ np) ∧ (∀ p, p < b → M (c + 3) p = M 4 p ∧ M (c + 4) p = M 5 p ∧ M (c + 5) p = M 6 p)
def pgC (n i : Nat) : Nat := 10 + 7 * ((n + 10 - i) % 11)
def KP (M : gMem) (nv np n k : Nat) : Prop := ∀ i, i < k → (∃ a b : Nat, PG M nv np (pgC n i) (k - 1 - i) a b) ∧ (i + 1 < k → M (pgC n (i + 1)) 0 ≤ M (pgC n i) 0 ∧ M (pgC n (i + 1)) 1 ≤ M (pgC n i) 1)
def CHm (M : gMem) : Prop := ∀ q, q < 4 → ((M (98 + 2 * q) 0 = -1 ∧ M 114 q = -4) ∨ (M (98 + 2 * q) 0 = M 114 q ∧ 0 ≤ M 114 q ∧ M 114 q ≤ 2)) ∧ M 115 q = M (98 + 2 * q) 1 ∧ (∃ s : Nat, s ≤ 60 ∧ M (98 + 2 * q) 1 = (s : Int)) ∧ ∀ j, j < 60 → M 116 (60 * q + j) = M (98 + 2 * q + 1) j
def PRm (M : gMem) (nv : Nat) : Prop := (∀ v, v < nv → M 96 v = M 108 v ∧ 0 ≤ M 96 v ∧ M 96 v ≤ 100000000) ∧ (∀ v, nv ≤ v → v < 12 → M 96 v = 0)
def DVm (M : gMem) (nv np : Nat) : Prop := (∀ a b, a < nv → b < nv → M 89 (a * 12 + b) = phI (dsF (M 3) nv a b)) ∧ (M 90 2 = pkF (M 5) 3 np ∧ M 90 3 = pkF (M 5) 1 np) ∧ (∀ p v, p < np → v < nv → M 91 (p * 12 + v) = phI (crF (M 3) (M 4) (M 5) (M 7) nv p v))
def SVF (M : gMem) (nv np : Nat) : Prop := ∃ f0 w0 : Nat → Int, (∀ j, j < 9 → M 92 j = (tkS (fun c => msB (M 90 2) (M 90 3) (M 1 2) (c : Int)) (fun c => meS (M 2) (M 5) (M 6) (M 91) nv np c) (fun c => fwS (M 2) (M 91) np c nv) (fgF f0) (fgW w0 10) (2 ^ np)).1 j) ∧ (∀ p, p < 10 → M 93 p = (tkS (fun c => msB (M 90 2) (M 90 3) (M 1 2) (c : Int)) (fun c => meS (M 2) (M 5) (M 6) (M 91) nv np c) (fun c => fwS (M 2) (M 91) np c nv) (fgF f0) (fgW w0 10) (2 ^ np)).2 p)
def DGm (M : gMem) (n k : Nat) : Prop := M 8 1 = (n : Int) ∧ n < 11 ∧ M 8 2 = (k : Int) ∧ k ≤ 10 ∧ M 106 13 = (k : Int)
def MOm (M : gMem) : Prop := M 94 1 = M 106 32 ∧ M 95 5 = M 106 38
def InvX (M : gMem) (nv np n k : Nat) : Prop := CS M nv np ∧ MS M nv np ∧ VOK nv np (M 1 2) (M 2) (M 3) (M 4) (M 5) (M 6) (M 7) ∧ EQV M np ∧ DGm M n k ∧ KP M nv np n k ∧ CHm M ∧ PRm M nv ∧ DVm M nv np ∧ (M 0 8 = 0 ∨ SVF M nv np) ∧ MOm M
theorem pgC_ne {n i : Nat} (hn : n < 11) (hi : i < 10) : pgC n i < 10 + 7 * n ∨ 10 + 7 * n + 6 < pgC n i := by
  unfold pgC
  omega
theorem pgC_b {n i : Nat} : 10 ≤ pgC n i ∧ pgC n i ≤ 80 := by
  unfold pgC
  omega
/-- the cells that are looked after one by one -/
def scR (i : Nat) : Prop := i ≠ 0 ∧ (i < 92 ∨ 106 < i) ∧ i ≠ 108 ∧ (i < 114 ∨ 116 < i) ∧ i < 123
theorem SVF_eq {M M' : gMem} {nv np : Nat} (h : SVF M nv np) (h92 : ∀ j, j < 9 → M' 92 j = M 92 j) (h93 : M' 93 = M 93) (e90 : M' 90 2 = M 90 2 ∧ M' 90 3 = M 90 3) (e1 : M' 1 2 = M 1 2) (e2 : M' 2 = M 2) (e5 : M' 5 = M 5) (e6 : M' 6 = M 6) (e91 : M' 91 = M 91) : SVF M' nv np := by
  obtain ⟨f0, w0, h1, h2⟩ := h
  refine ⟨f0, w0, ?_, ?_⟩
  · rw [e90.1, e90.2, e1, e2, e5, e6, e91]
    intro j hj
    rw [h92 j hj]
    exact h1 j hj
  · rw [e90.1, e90.2, e1, e2, e5, e6, e91, h93]
    exact h2
theorem InvX_gen {M M' : gMem} {nv np n k : Nat} (h : InvX M nv np n k) (hp : gPtr M') (he : ∀ i, scR i → (i < 10 + 7 * n ∨ 10 + 7 * n + 6 < i) → M' i = M i) (h106 : ∀ j, j = 0 ∨ j = 4 ∨ j = 9 ∨ j = 13 → M' 106 j = M 106 j) (hCH' : CHm M') (hP' : PRm M' nv) (hs : M' 0 8 = 0 ∨ SVF M' nv np) (hMO' : MOm M') : InvX M' nv np n k := by
  obtain ⟨hC, hM, hV, hE, hD, hK, hCH, hP, hDV, hSV, hMO⟩ := h
  have n11 := hD.2.1
  have c1 := he 1 (by unfold scR; omega) (by omega)
  have c2 := he 2 (by unfold scR; omega) (by omega)
  have c3 := he 3 (by unfold scR; omega) (by omega)
  have c4 := he 4 (by unfold scR; omega) (by omega)
  have c5 := he 5 (by unfold scR; omega) (by omega)
  have c6 := he 6 (by unfold scR; omega) (by omega)
  have c7 := he 7 (by unfold scR; omega) (by omega)
  have c8 := he 8 (by unfold scR; omega) (by omega)
  have c89 := he 89 (by unfold scR; omega) (by omega)
  have c90 := he 90 (by unfold scR; omega) (by omega)
  have c91 := he 91 (by unfold scR; omega) (by omega)
  have c107 := he 107 (by unfold scR; omega) (by omega)
  have c109 := he 109 (by unfold scR; omega) (by omega)
  have c110 := he 110 (by unfold scR; omega) (by omega)
  have c111 := he 111 (by unfold scR; omega) (by omega)
  have c112 := he 112 (by unfold scR; omega) (by omega)
  have c113 := he 113 (by unfold scR; omega) (by omega)
  have c117 := he 117 (by unfold scR; omega) (by omega)
  have c118 := he 118 (by unfold scR; omega) (by omega)
  have c119 := he 119 (by unfold scR; omega) (by omega)
  have c120 := he 120 (by unfold scR; omega) (by omega)
  have c121 := he 121 (by unfold scR; omega) (by omega)
  have c122 := he 122 (by unfold scR; omega) (by omega)
  have m9 := h106 9 (by decide)
  refine ⟨⟨hp, by rw [c1]; exact hC.2.1, hC.2.2.1, by rw [c1]; exact hC.2.2.2.1, hC.2.2.2.2⟩, ⟨hp, (h106 0 (by decide)).trans hM.2.1, hM.2.2.1, (h106 4 (by decide)).trans hM.2.2.2.1, hM.2.2.2.2⟩, ?_, ?_, ?_, ?_, hCH', hP', ?_, hs, hMO'⟩
  · rw [c1, c2, c3, c4, c5, c6, c7]
    exact hV
  · unfold EQV
    rw [m9, c1, c107, c2, c109, c3, c110, c4, c111, c5, c112, c6, c113, c7]
    exact hE
  · unfold DGm
    rw [c8, h106 13 (by decide)]
    exact hD
  · intro i hi
    have hk10 := hD.2.2.2.1
    have hb := pgC_ne n11 (show i < 10 by omega)
    have hc := pgC_b (n := n) (i := i)
    have row : ∀ t, t ≤ 6 → M' (pgC n i + t) = M (pgC n i + t) := fun t ht => he _ (by unfold scR; omega) (by unfold pgC at hb ⊢; omega)
    obtain ⟨⟨a, b, hPG⟩, hmo⟩ := hK i hi
    refine ⟨⟨a, b, ?_⟩, fun hi2 => ?_⟩
    · unfold PG
      rw [show M' (pgC n i) = M (pgC n i) from row 0 (by omega), row 1 (by omega), row 2 (by omega), row 3 (by omega), row 4 (by omega), row 5 (by omega), row 6 (by omega), c117, c118, c119, c120, c121, c122, c4, c5, c6]
      exact hPG
    · have hb2 := pgC_ne n11 (show i + 1 < 10 by omega)
      have hc2 := pgC_b (n := n) (i := i + 1)
      rw [show M' (pgC n i) = M (pgC n i) from row 0 (by omega), he (pgC n (i + 1)) (by unfold scR; omega) (by omega)]
      exact hmo hi2
  · unfold DVm
    rw [c89, c3, c90, c5, c91, c4, c7]
    exact hDV
section SH_
variable {M : gMem} {nv np n k : Nat}
/-- the rows of the picture, out of the relation -/
def crM (M : gMem) (nv p v : Nat) : Int := crF (M 3) (M 4) (M 5) (M 7) nv p v
def WgM (M : gMem) (nv np c : Nat) : T3 := wgC (M 2) (crM M nv) (M 5) (M 6) nv np c
theorem Inv_LOK (h : InvX M nv np n k) : LOK (M 3) := h.2.2.1.2.2.2.2.1
theorem Inv_B (h : InvX M nv np n k) : ∀ v, v < nv → 0 ≤ M 2 v ∧ M 2 v ≤ 1000 := fun v hv => h.2.2.1.2.2.2.1 v (by have := h.1.2.2.1; omega)
theorem Inv_U (h : InvX M nv np n k) : ∀ p, p < np → 0 ≤ M 6 p ∧ M 6 p ≤ 100000 := h.2.2.1.2.2.2.2.2.2.2.2.2.1
theorem Inv_C (h : InvX M nv np n k) : ∀ p v, p < np → v < nv → okC (crM M nv p v) := fun p v _ _ => crF_ok (Inv_LOK h) h.1.2.2.1 p v
theorem Inv_car (h : InvX M nv np n k) : ∀ p v, p < np → v < nv → M 91 (p * 12 + v) = phI (crM M nv p v) := h.2.2.2.2.2.2.2.2.1.2.2
theorem Inv_ok (h : InvX M nv np n k) : ∀ c : Nat, c < 2 ^ np → msB (M 90 2) (M 90 3) (M 1 2) (c : Int) = alP (M 5) np (M 1 2) c := fun c hc => by
  rw [h.2.2.2.2.2.2.2.2.1.2.1.1, h.2.2.2.2.2.2.2.2.1.2.1.2]
  exact ms_al h.1.2.2.2.2 hc
theorem Inv_al (h : InvX M nv np n k) (c : Nat) : alP (M 111) np (M 106 9) c = alP (M 5) np (M 1 2) c := by
  rw [h.2.2.2.1.1]
  exact alP_congr (fun p hp => (h.2.2.2.1.2.2.2.1 p hp).2.1)
theorem Inv_W (h : InvX M nv np n k) (c : Nat) : (0 ≤ (WgM M nv np c).1 ∧ (WgM M nv np c).1 ≤ 12) ∧ (0 ≤ (WgM M nv np c).2.1 ∧ (WgM M nv np c).2.1 ≤ 200000000) ∧ (0 ≤ (WgM M nv np c).2.2 ∧ (WgM M nv np c).2.2 ≤ 13000) ∧ meS (M 2) (M 5) (M 6) (M 91) nv np c = (WgM M nv np c).1 * 1099511627776 + (WgM M nv np c).2.1 ∧ fwS (M 2) (M 91) np c nv = (WgM M nv np c).2.2 :=
  wgC_all h.1.2.2.1 h.1.2.2.2.2 (Inv_B h) (Inv_U h) (Inv_C h) (Inv_car h) c
theorem Inv_H (h : InvX M nv np n k) : ∀ p, p < np → ∃ z : Nat, z < nv ∧ M 4 p = (z : Int) := h.2.2.1.2.2.2.2.2.2.2.1
theorem Inv_H9 (h : InvX M nv np n k) : ∀ p, p < np → ∃ z : Nat, z < 12 ∧ M 110 p = (z : Int) := fun p hp => by
  obtain ⟨z, h1, h2⟩ := Inv_H h p hp
  exact ⟨z, by have := h.1.2.2.1; omega, by rw [(h.2.2.2.1.2.2.2.1 p hp).1]; exact h2⟩
/-- any memory whose model's rows are M's: the model's ways and what it carries -/
def sm9 (M N : gMem) : Prop := (∀ i, 106 < i → i < 123 → N i = M i) ∧ N 106 9 = M 106 9 ∧ N 106 13 = M 106 13 ∧ N 106 32 = M 106 32 ∧ N 106 38 = M 106 38
theorem sm_wy (h : InvX M nv np n k) {N : gMem} (e : sm9 M N) {a b : Nat} (ha : a < nv) (hb : b < nv) : (fyM N nv) 124 (12 * a + b) = dsF (M 3) nv a b := by
  show wyF (N 109) (N 124) nv (12 * a + b) = _
  rw [e.1 109 (by decide) (by decide)]
  exact wy_D (Inv_LOK h) h.1.2.2.1 h.2.2.2.1.2.2.1 ha hb
theorem sm_mc (h : InvX M nv np n k) {N : gMem} (e : sm9 M N) : ∀ p v, p < np → v < nv → mcM (fyM N nv) p v = crM M nv p v := fun p v hp hv => by
  obtain ⟨z, h1, h2⟩ := Inv_H h p hp
  have hE := h.2.2.2.1
  have z1 : (fyM N nv) 110 p = M 4 p := by
    show N 110 p = M 4 p
    rw [e.1 110 (by decide) (by decide)]
    exact (hE.2.2.2.1 p hp).1
  have z2 : (fyM N nv) 111 p = M 5 p := by
    show N 111 p = M 5 p
    rw [e.1 111 (by decide) (by decide)]
    exact (hE.2.2.2.1 p hp).2.1
  have z3 : (fyM N nv) 113 p = M 7 p := by
    show N 113 p = M 7 p
    rw [e.1 113 (by decide) (by decide)]
    exact hE.2.2.2.2 p (by have := h.1.2.2.2.2; omega)
  unfold mcM mcF crM crF mcD
  rw [z1, z2, z3, h2, Int.toNat_natCast, sm_wy h e h1 hv]
theorem sm_W (h : InvX M nv np n k) {N : gMem} (e : sm9 M N) (c : Nat) : wgM (fyM N nv) nv np c = WgM M nv np c := by
  rw [wgM_C]
  have hE := h.2.2.2.1
  have hn := h.1.2.2.1
  refine wgC_congr (fun v hv => ?_) (sm_mc h e) (fun p hp => ⟨?_, ?_⟩)
  · show N 107 v = M 2 v
    rw [e.1 107 (by decide) (by decide)]
    exact hE.2.1 v (by omega)
  · show N 111 p = M 5 p
    rw [e.1 111 (by decide) (by decide)]
    exact (hE.2.2.2.1 p hp).2.1
  · show N 112 p = M 6 p
    rw [e.1 112 (by decide) (by decide)]
    exact (hE.2.2.2.1 p hp).2.2
theorem sm_al (h : InvX M nv np n k) {N : gMem} (e : sm9 M N) (c : Nat) : alP (N 111) np (N 106 9) c = alP (M 5) np (M 1 2) c := by
  rw [e.1 111 (by decide) (by decide), e.2.1]
  exact Inv_al h c
theorem sm_H9 (h : InvX M nv np n k) {N : gMem} (e : sm9 M N) : ∀ p, p < np → ∃ z : Nat, z < 12 ∧ N 110 p = (z : Int) := by
  rw [e.1 110 (by decide) (by decide)]
  exact Inv_H9 h
end SH_
