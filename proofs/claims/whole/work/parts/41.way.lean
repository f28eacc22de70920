/-! counting; the next village; way -/
def cnt (P : Nat → Bool) : Nat → Nat
  | 0 => 0
  | n + 1 => cnt P n + (if P n = true then 1 else 0)
theorem cnt_le (P : Nat → Bool) : ∀ n, cnt P n ≤ n
  | 0 => Nat.le_refl _
  | n + 1 => by
    have := cnt_le P n
    show cnt P n + (if P n = true then 1 else 0) ≤ n + 1
    split <;> omega
theorem cnt_mono {P Q : Nat → Bool} : ∀ n, (∀ x, x < n → P x = true → Q x = true) → cnt P n ≤ cnt Q n
  | 0, _ => Nat.le_refl _
  | n + 1, h => by
    have h1 := cnt_mono n (fun x hx => h x (by omega))
    have h2 := h n (by omega)
    show cnt P n + (if P n = true then 1 else 0) ≤ cnt Q n + (if Q n = true then 1 else 0)
    by_cases q : P n = true
    · rw [if_pos q, if_pos (h2 q)]
      omega
    · rw [if_neg q]
      omega
theorem cnt_lt {P Q : Nat → Bool} {x : Nat} (h1 : Q x = true) (h2 : ¬ P x = true) : ∀ n, x < n → (∀ x, x < n → P x = true → Q x = true) → cnt P n < cnt Q n
  | 0, hx, _ => absurd hx (Nat.not_lt_zero _)
  | n + 1, hx, h => by
    show cnt P n + (if P n = true then 1 else 0) < cnt Q n + (if Q n = true then 1 else 0)
    by_cases q : x = n
    · subst q
      have := cnt_mono x (fun y hy => h y (by omega))
      rw [if_neg h2, if_pos h1]
      omega
    · have h3 := cnt_lt h1 h2 n (by omega) (fun y hy => h y (by omega))
      by_cases q2 : P n = true
      · rw [if_pos q2, if_pos (h n (by omega) q2)]
        omega
      · rw [if_neg q2]
        omega
theorem cnt_all : ∀ n, cnt (fun _ => true) n = n
  | 0 => rfl
  | n + 1 => by
    show cnt (fun _ => true) n + (if true = true then 1 else 0) = n + 1
    rw [cnt_all n, if_pos rfl]
theorem cnt_ltn {P : Nat → Bool} {x n : Nat} (hx : x < n) (h : ¬ P x = true) : cnt P n < n := by
  have := cnt_lt (P := P) (Q := fun _ => true) (x := x) rfl h n hx (fun _ _ _ => rfl)
  rw [cnt_all] at this
  exact this
theorem ds_next {L : Nat → Int} {nv h t : Nat} (hne : h ≠ t) (ht : t < nv) (hf : dsF L nv h t ≠ -4) : ∃ x, x < nv ∧ 0 < rdR L h x ∧ dsF L nv x t ≠ -4 ∧ rdR L h x + dsF L nv x t = dsF L nv h t := by
  unfold dsF at hf ⊢
  obtain ⟨hd, hn, hw, ho⟩ := Dn_P (rdR L) nv
  obtain ⟨l, n, b1, k, e0⟩ := hw h t hne hf
  cases l with
  | nil =>
    refine ⟨t, ht, k, ?_, ?_⟩
    · rw [hd t]; decide
    · rw [hd t, e0]
      show rdR L h t + 0 = rdR L h t
      omega
  | cons x l =>
    have hx : x < nv := b1 x List.mem_cons_self
    have k2 : wkP (rdR L) x l t := k.2
    have k1 : 0 < rdR L h x := k.1
    obtain ⟨o1, o2⟩ := ho x t l (fun y hy => b1 y (List.mem_cons_of_mem x hy)) k2
    have e1 : Dn (rdR L) nv h t = rdR L h x + wlN (rdR L) x l t := e0
    refine ⟨x, hx, k1, o1, ?_⟩
    have h5 : Dn (rdR L) nv h t ≤ rdR L h x + Dn (rdR L) nv x t := by
      by_cases q : x = t
      · subst q
        have := (ho h x [] (fun y hy => (by cases hy)) k1).2
        rw [hd x]
        show _ ≤ rdR L h x + 0
        have h6 : wlN (rdR L) h [] x = rdR L h x := rfl
        omega
      · obtain ⟨l2, n2, b2, kk2, e2⟩ := hw x t q o1
        have := (ho h t (x :: l2) (fun y hy => (List.mem_cons.mp hy).elim (fun z => by omega) (fun z => b2 y z)) ⟨k1, kk2⟩).2
        rw [e2]
        exact this
    omega
section WAY
variable {L R S Y : Nat → Int} {nv t : Nat}
theorem nx_eq (hL : LOK L) (hn : nv ≤ 12) (hR : ∀ j, j < 144 → R j = L j) (hS : ∀ x y, x < nv → y < nv → S (x * 12 + y) = phI (dsF L nv x y)) (hY : ∀ x y, x < nv → y < nv → Y (12 * x + y) = dsF L nv x y) {h : Nat} (hh : h < nv) (ht : t < nv) (hf : dsF L nv h t ≠ -4) : ∀ k v, v + k = nv → nx9 R Y h t k v = nxF L S h t k v
  | 0, v, _ => rfl
  | k + 1, v, hv => by
    have ih := nx_eq hL hn hR hS hY hh ht hf k (v + 1) (by omega)
    simp only [nx9, nxF]
    rw [ih, hR (12 * h + v) (by omega), show 12 * h + v = h * 12 + v by omega, hY v t (by omega) ht, hY h t hh ht, hS v t (by omega) ht, hS h t hh ht]
    have b0 := hL (h * 12 + v) (by omega)
    have b1 := dsF_bd hL hn v t
    have b2 := dsF_bd hL hn h t
    generalize dsF L nv v t = d at b1 ⊢
    generalize dsF L nv h t = z at b2 hf ⊢
    generalize L (h * 12 + v) = r at b0 ⊢
    have e1 : phI z = z := by unfold phI; rw [if_neg hf]
    rw [e1]
    by_cases c : d = -4
    · have e2 : phI d = 1000000 := by unfold phI; rw [if_pos c]
      rw [e2, if_pos (Or.inr (Or.inl c)), if_neg]
      rw [w32_id (by unfold in32; omega)]
      omega
    · have e2 : phI d = d := by unfold phI; rw [if_neg c]
      rw [e2, w32_id (by unfold in32; omega)]
      by_cases c2 : 0 < r ∧ r + d = z
      · rw [if_pos c2, if_neg (by omega)]
      · rw [if_neg c2, if_pos (by omega)]
theorem nx_ex (hL : LOK L) (hn : nv ≤ 12) (hR : ∀ j, j < 144 → R j = L j) (hY : ∀ x y, x < nv → y < nv → Y (12 * x + y) = dsF L nv x y) {h : Nat} (hh : h < nv) (ht : t < nv) : ∀ k v, v + k = nv → (∃ x, v ≤ x ∧ x < nv ∧ 0 < rdR L h x ∧ dsF L nv x t ≠ -4 ∧ rdR L h x + dsF L nv x t = dsF L nv h t) → ∃ q : Nat, nx9 R Y h t k v = (q : Int) ∧ q < nv ∧ 0 < rdR L h q ∧ dsF L nv q t ≠ -4 ∧ rdR L h q + dsF L nv q t = dsF L nv h t
  | 0, v, hv, ⟨x, h1, h2, _⟩ => by omega
  | k + 1, v, hv, ⟨x, h1, h2, h3, h4, h5⟩ => by
    simp only [nx9]
    have e0 : R (12 * h + v) = rdR L h v := by
      unfold rdR
      rw [if_pos ⟨by omega, by omega⟩, hR _ (by omega), Nat.mul_comm]
    have b0 := hL (h * 12 + v) (by omega)
    have e1 : rdR L h v = L (h * 12 + v) := by
      unfold rdR
      rw [if_pos ⟨by omega, by omega⟩]
    rw [e0, hY v t (by omega) ht, hY h t hh ht]
    have b1 := dsF_bd hL hn v t
    by_cases c : 0 < rdR L h v ∧ dsF L nv v t ≠ -4 ∧ rdR L h v + dsF L nv v t = dsF L nv h t
    · refine ⟨v, ?_, by omega, c.1, c.2.1, c.2.2⟩
      rw [w32_id (by unfold in32; omega), if_neg (by omega)]
    · have hxv : x ≠ v := fun q => by
        subst q
        exact c ⟨h3, h4, h5⟩
      rw [if_pos]
      · exact nx_ex hL hn hR hY hh ht k (v + 1) (by omega) ⟨x, by omega, h2, h3, h4, h5⟩
      · by_cases c2 : dsF L nv v t = -4
        · exact Or.inr (Or.inl c2)
        · rw [w32_id (by unfold in32; omega)]
          omega
theorem nx_f (hL : LOK L) (hn : nv ≤ 12) (hR : ∀ j, j < 144 → R j = L j) (hY : ∀ x y, x < nv → y < nv → Y (12 * x + y) = dsF L nv x y) {h : Nat} (hh : h < nv) (ht : t < nv) (hne : h ≠ t) (hf : dsF L nv h t ≠ -4) : ∃ q : Nat, nx9 R Y h t nv 0 = (q : Int) ∧ q < nv ∧ 0 < rdR L h q ∧ dsF L nv q t ≠ -4 ∧ rdR L h q + dsF L nv q t = dsF L nv h t := by
  obtain ⟨x, h1, h2, h3, h4⟩ := ds_next hne ht hf
  exact nx_ex hL hn hR hY hh ht nv 0 (by omega) ⟨x, Nat.zero_le _, h1, h2, h3, h4⟩
theorem wa_eq (hL : LOK L) (hn : nv ≤ 12) (hR : ∀ j, j < 144 → R j = L j) (hS : ∀ x y, x < nv → y < nv → S (x * 12 + y) = phI (dsF L nv x y)) (hY : ∀ x y, x < nv → y < nv → Y (12 * x + y) = dsF L nv x y) (ht : t < nv) : ∀ k h, h < nv → dsF L nv h t ≠ -4 → vaF L S nv t k h = wa9 R Y nv t k h
  | 0, h, _, _ => rfl
  | k + 1, h, hh, hf => by
    simp only [vaF, wa9]
    by_cases q : h = t
    · rw [if_pos q, if_pos q]
    · rw [if_neg q, if_neg q]
      obtain ⟨x, e0, h1, h2, h3, h4⟩ := nx_f hL hn hR hY hh ht q hf
      rw [← nx_eq hL hn hR hS hY hh ht hf nv 0 (by omega), e0, if_neg (by omega), Int.toNat_natCast]
      exact wa_eq hL hn hR hS hY ht k x h1 h3
def rkW (L : Nat → Int) (nv t h : Nat) : Nat := cnt (fun x => decide (dsF L nv x t ≠ -4 ∧ dsF L nv x t < dsF L nv h t)) nv
theorem wa_long (hL : LOK L) (hn : nv ≤ 12) (hR : ∀ j, j < 144 → R j = L j) (hY : ∀ x y, x < nv → y < nv → Y (12 * x + y) = dsF L nv x y) (ht : t < nv) : ∀ k h, h < nv → dsF L nv h t ≠ -4 → rkW L nv t h < k → wa9 R Y nv t k h = -4
  | 0, h, _, _, hr => absurd hr (Nat.not_lt_zero _)
  | k + 1, h, hh, hf, hr => by
    simp only [wa9]
    by_cases q : h = t
    · rw [if_pos q]
    · rw [if_neg q]
      obtain ⟨x, e0, h1, h2, h3, h4⟩ := nx_f hL hn hR hY hh ht q hf
      rw [e0, Int.toNat_natCast]
      refine wa_long hL hn hR hY ht k x h1 h3 ?_
      have : rkW L nv t x < rkW L nv t h := by
        refine cnt_lt (x := x) (decide_eq_true ⟨h3, by omega⟩) (fun z => ?_) nv h1 (fun y hy z => ?_)
        · have := (of_decide_eq_true z).2
          omega
        · have z2 := of_decide_eq_true z
          exact decide_eq_true ⟨z2.1, by have := z2.2; omega⟩
      omega
theorem way_eq (hL : LOK L) (hn : nv ≤ 12) (hR : ∀ j, j < 144 → R j = L j) (hS : ∀ x y, x < nv → y < nv → S (x * 12 + y) = phI (dsF L nv x y)) (hY : ∀ x y, x < nv → y < nv → Y (12 * x + y) = dsF L nv x y) (ht : t < nv) {h : Nat} (hh : h < nv) (hf : dsF L nv h t ≠ -4) (i : Nat) : vaF L S nv t (min i 12) h = wa9 R Y nv t i h := by
  rw [wa_eq hL hn hR hS hY ht _ h hh hf]
  by_cases q : i ≤ 12
  · rw [Nat.min_eq_left q]
  · have hk : rkW L nv t h < nv := cnt_ltn hh (fun z => by have := (of_decide_eq_true z).2; omega)
    rw [Nat.min_eq_right (by omega), wa_long hL hn hR hY ht 12 h hh hf (by omega), wa_long hL hn hR hY ht i h hh hf (by omega)]
end WAY
