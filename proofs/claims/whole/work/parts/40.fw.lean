/-! the least ways: what both sides compute, by walks -/
def wkP (R : Nat → Nat → Int) : Nat → List Nat → Nat → Prop
  | a, [], b => 0 < R a b
  | a, x :: l, b => 0 < R a x ∧ wkP R x l b
def wlN (R : Nat → Nat → Int) : Nat → List Nat → Nat → Int
  | a, [], b => R a b
  | a, x :: l, b => R a x + wlN R x l b
section FW
variable {R : Nat → Nat → Int}
theorem wl_pos : ∀ (l : List Nat) (a b : Nat), wkP R a l b → 0 < wlN R a l b
  | [], a, b, h => h
  | x :: l, a, b, h => by
    have h2 := wl_pos l x b h.2
    have h1 := h.1
    show 0 < R a x + wlN R x l b
    omega
theorem wk_app : ∀ (l1 : List Nat) (a w : Nat) (l2 : List Nat) (b : Nat), wkP R a l1 w → wkP R w l2 b → wkP R a (l1 ++ w :: l2) b
  | [], a, w, l2, b, h1, h2 => ⟨h1, h2⟩
  | x :: l, a, w, l2, b, h1, h2 => ⟨h1.1, wk_app l x w l2 b h1.2 h2⟩
theorem wl_app : ∀ (l1 : List Nat) (a w : Nat) (l2 : List Nat) (b : Nat), wlN R a (l1 ++ w :: l2) b = wlN R a l1 w + wlN R w l2 b
  | [], a, w, l2, b => rfl
  | x :: l, a, w, l2, b => by
    show R a x + wlN R x (l ++ w :: l2) b = R a x + wlN R x l w + wlN R w l2 b
    rw [wl_app l x w l2 b]
    omega
theorem wk_cut : ∀ (l : List Nat) (a b x : Nat), x ∈ l → wkP R a l b → ∃ p q, l = p ++ x :: q ∧ wkP R a p x ∧ wkP R x q b
  | [], a, b, x, h, hk => by cases h
  | y :: l, a, b, x, h, hk => by
    rcases List.mem_cons.mp h with e0 | h
    · subst e0
      exact ⟨[], l, rfl, hk.1, hk.2⟩
    · obtain ⟨p, q, e0, h1, h2⟩ := wk_cut l y b x h hk.2
      exact ⟨y :: p, q, by rw [e0]; rfl, ⟨hk.1, h1⟩, h2⟩
theorem wk_split {w : Nat} : ∀ (l : List Nat) (a b : Nat), (∀ x ∈ l, x < w + 1) → wkP R a l b → (∀ x ∈ l, x < w) ∨ ∃ l1 l2, (∀ x ∈ l1, x < w) ∧ (∀ x ∈ l2, x < w) ∧ wkP R a l1 w ∧ wkP R w l2 b ∧ wlN R a l1 w + wlN R w l2 b ≤ wlN R a l b
  | [], a, b, _, _ => Or.inl (fun x h => by cases h)
  | x :: l, a, b, ha, hk => by
    have hx : x < w + 1 := ha x List.mem_cons_self
    have hl : ∀ y ∈ l, y < w + 1 := fun y hy => ha y (List.mem_cons_of_mem x hy)
    rcases wk_split l x b hl hk.2 with h | ⟨l1, l2, g1, g2, g3, g4, g5⟩
    · by_cases e0 : x = w
      · subst e0
        exact Or.inr ⟨[], l, fun y hy => (by cases hy), h, hk.1, hk.2, Int.le_refl _⟩
      · exact Or.inl (fun y hy => (List.mem_cons.mp hy).elim (fun q => by omega) (fun q => h y q))
    · by_cases e0 : x = w
      · subst e0
        refine Or.inr ⟨[], l2, fun y hy => (by cases hy), g2, hk.1, g4, ?_⟩
        show R a x + wlN R x l2 b ≤ R a x + wlN R x l b
        have := wl_pos l1 x x g3
        omega
      · refine Or.inr ⟨x :: l1, l2, fun y hy => (List.mem_cons.mp hy).elim (fun q => by omega) (fun q => g1 y q), g2, ⟨hk.1, g3⟩, g4, ?_⟩
        show R a x + wlN R x l1 w + wlN R w l2 b ≤ R a x + wlN R x l b
        omega
theorem nd_len : ∀ (w : Nat) (l : List Nat), l.Nodup → (∀ x ∈ l, x < w) → l.length ≤ w
  | 0, l, _, h => by
    cases l with
    | nil => exact Nat.le_refl _
    | cons x l => exact absurd (h x List.mem_cons_self) (by omega)
  | w + 1, l, hn, h => by
    have h1 : (l.erase w).Nodup := hn.erase w
    have h2 : ∀ x ∈ l.erase w, x < w := fun x hx => by
      have h3 := h x (List.mem_of_mem_erase hx)
      have h4 : x ≠ w := fun e0 => by
        subst e0
        exact absurd hx (List.Nodup.not_mem_erase hn)
      omega
    have h5 := nd_len w (l.erase w) h1 h2
    have h6 := List.le_length_erase (a := w) (l := l)
    omega
theorem wl_le (hR : ∀ a b, R a b ≤ 1000) : ∀ (l : List Nat) (a b : Nat), wlN R a l b ≤ 1000 * ((l.length : Int) + 1)
  | [], a, b => by
    have := hR a b
    show R a b ≤ 1000 * (((0 : Nat) : Int) + 1)
    omega
  | x :: l, a, b => by
    have h1 := hR a x
    have h2 := wl_le hR l x b
    show R a x + wlN R x l b ≤ 1000 * (((l.length + 1 : Nat) : Int) + 1)
    omega
end FW
def D0f (R : Nat → Nat → Int) (a b : Nat) : Int := if a = b then 0 else if 0 < R a b then R a b else -4
def Dst (D : Nat → Nat → Int) (w a b : Nat) : Int := if D a w ≠ -4 ∧ D w b ≠ -4 ∧ (D a b = -4 ∨ D a w + D w b < D a b) then D a w + D w b else D a b
def Dn (R : Nat → Nat → Int) : Nat → Nat → Nat → Int
  | 0 => D0f R
  | w + 1 => Dst (Dn R w) w
def DP (R : Nat → Nat → Int) (w : Nat) (D : Nat → Nat → Int) : Prop :=
  (∀ a, D a a = 0) ∧ (∀ a b, D a b = -4 ∨ 0 ≤ D a b) ∧ (∀ a b, a ≠ b → D a b ≠ -4 → ∃ l : List Nat, l.Nodup ∧ (∀ x ∈ l, x < w) ∧ wkP R a l b ∧ D a b = wlN R a l b) ∧ (∀ a b l, (∀ x ∈ l, x < w) → wkP R a l b → D a b ≠ -4 ∧ D a b ≤ wlN R a l b)
theorem DP_0 (R : Nat → Nat → Int) : DP R 0 (D0f R) := by
  refine ⟨fun a => if_pos rfl, fun a b => ?_, fun a b hab h => ?_, fun a b l hl hk => ?_⟩
  · unfold D0f
    split
    · omega
    · split <;> omega
  · unfold D0f at h ⊢
    rw [if_neg hab] at h ⊢
    by_cases g : 0 < R a b
    · rw [if_pos g]
      exact ⟨[], List.nodup_nil, fun x hx => (by cases hx), g, rfl⟩
    · rw [if_neg g] at h
      exact absurd rfl h
  · cases l with
    | nil =>
      have hk' : 0 < R a b := hk
      show D0f R a b ≠ -4 ∧ D0f R a b ≤ R a b
      unfold D0f
      rw [if_pos hk']
      split <;> omega
    | cons x l => exact absurd (hl x List.mem_cons_self) (by omega)
theorem DP_s {R : Nat → Nat → Int} {w : Nat} {D : Nat → Nat → Int} (h : DP R w D) : DP R (w + 1) (Dst D w) := by
  obtain ⟨hd, hn, hw, ho⟩ := h
  refine ⟨fun a => ?_, fun a b => ?_, fun a b hab hne => ?_, fun a b l hl hk => ?_⟩
  · have h1 := hn a w
    have h2 := hn w a
    have h3 := hd a
    unfold Dst
    split <;> omega
  · have h1 := hn a w
    have h2 := hn w b
    have h3 := hn a b
    unfold Dst
    split <;> omega
  · unfold Dst at hne ⊢
    by_cases c : D a w ≠ -4 ∧ D w b ≠ -4 ∧ (D a b = -4 ∨ D a w + D w b < D a b)
    · rw [if_pos c]
      obtain ⟨c1, c2, c3⟩ := c
      have haw : a ≠ w := fun e0 => by
        subst e0
        have h1 := hd a
        have h2 := hn a b
        omega
      have hwb : w ≠ b := fun e0 => by
        subst e0
        have h1 := hd w
        have h2 := hn a w
        omega
      obtain ⟨l1, n1, b1, k1, e1⟩ := hw a w haw c1
      obtain ⟨l2, n2, b2, k2, e2⟩ := hw w b hwb c2
      refine ⟨l1 ++ w :: l2, ?_, fun y hy => (List.mem_append.mp hy).elim (fun h => by have := b1 y h; omega) (fun h => (List.mem_cons.mp h).elim (fun e0 => by omega) (fun h => by have := b2 y h; omega)), wk_app l1 a w l2 b k1 k2, by rw [wl_app, e1, e2]⟩
      refine List.nodup_append.mpr ⟨n1, List.nodup_cons.mpr ⟨fun q => absurd (b2 w q) (Nat.lt_irrefl w), n2⟩, fun x hx y hy e0 => ?_⟩
      subst e0
      rcases List.mem_cons.mp hy with e0 | hy
      · have := b1 x hx
        omega
      · obtain ⟨p, q, ep, kp, kq⟩ := wk_cut l1 a w x hx k1
        obtain ⟨r, s, er, kr, ks⟩ := wk_cut l2 w b x hy k2
        have hh := ho a b (p ++ x :: s) (fun y hy => (List.mem_append.mp hy).elim (fun h => b1 y (by rw [ep]; exact List.mem_append.mpr (Or.inl h))) (fun h => b2 y (by rw [er]; exact List.mem_append.mpr (Or.inr h)))) (wk_app p a x s b kp ks)
        rw [wl_app] at hh
        have z1 : wlN R a l1 w = wlN R a p x + wlN R x q w := by rw [ep, wl_app]
        have z2 : wlN R w l2 b = wlN R w r x + wlN R x s b := by rw [er, wl_app]
        have y1 := wl_pos q x w kq
        have y2 := wl_pos r w x kr
        omega
    · rw [if_neg c] at hne ⊢
      obtain ⟨l, n, b1, k, e0⟩ := hw a b hab hne
      exact ⟨l, n, fun x hx => by have := b1 x hx; omega, k, e0⟩
  · have m1 := hn a w
    have m2 := hn w b
    rcases wk_split l a b hl hk with hall | ⟨l1, l2, g1, g2, g3, g4, g5⟩
    · have h1 := ho a b l hall hk
      unfold Dst
      split <;> omega
    · have o1 := ho a w l1 g1 g3
      have o2 := ho w b l2 g2 g4
      unfold Dst
      split <;> omega
theorem Dn_P (R : Nat → Nat → Int) : ∀ w, DP R w (Dn R w)
  | 0 => DP_0 R
  | w + 1 => DP_s (Dn_P R w)
theorem Dn_bd {R : Nat → Nat → Int} (hR : ∀ a b, R a b ≤ 1000) {w : Nat} (hw : w ≤ 12) (a b : Nat) : Dn R w a b = -4 ∨ (0 ≤ Dn R w a b ∧ Dn R w a b ≤ 13000) := by
  obtain ⟨hd, hn, hx, ho⟩ := Dn_P R w
  rcases hn a b with h | h
  · exact Or.inl h
  · by_cases hab : a = b
    · subst hab
      have := hd a
      omega
    · by_cases h4 : Dn R w a b = -4
      · exact Or.inl h4
      · obtain ⟨l, n, b1, k, e0⟩ := hx a b hab h4
        have h1 := wl_le hR l a b
        have h2 := nd_len w l n b1
        omega
/-- the roads as a table of two -/
def rdR (L : Nat → Int) (a b : Nat) : Int := if a < 12 ∧ b < 12 then L (a * 12 + b) else 0
def dsF (L : Nat → Int) (nv : Nat) : Nat → Nat → Int := Dn (rdR L) nv
theorem rdR_congr {L L' : Nat → Int} (h : ∀ j, j < 144 → L j = L' j) : rdR L = rdR L' := by
  funext a b
  unfold rdR
  split
  · exact h _ (by omega)
  · rfl
def LOK (L : Nat → Int) : Prop := ∀ j, j < 144 → 0 ≤ L j ∧ L j ≤ 1000
theorem rdR_le {L : Nat → Int} (h : LOK L) (a b : Nat) : rdR L a b ≤ 1000 := by
  unfold rdR
  split
  · exact (h _ (by omega)).2
  · omega
theorem dsF_bd {L : Nat → Int} (h : LOK L) {nv : Nat} (hn : nv ≤ 12) (a b : Nat) : dsF L nv a b = -4 ∨ (0 ≤ dsF L nv a b ∧ dsF L nv a b ≤ 13000) := Dn_bd (rdR_le h) hn a b
def phI (x : Int) : Int := if x = -4 then 1000000 else x
def Dok (D : Nat → Nat → Int) : Prop := (∀ a, D a a = 0) ∧ ∀ a b, D a b = -4 ∨ (0 ≤ D a b ∧ D a b ≤ 13000)
theorem Dok_n {L : Nat → Int} (h : LOK L) {w : Nat} (hw : w ≤ 12) : Dok (Dn (rdR L) w) := ⟨(Dn_P _ w).1, Dn_bd (rdR_le h) hw⟩
/-- one row of a stage, on the model's side -/
theorem fwB_D {D : Nat → Nat → Int} {nv m a : Nat} (hD : Dok D) (hm : m < nv) (ha : a < nv) (hn : nv ≤ 12) {Y : Nat → Int} (h : ∀ x y, x < nv → y < nv → Y (12 * x + y) = if x < a then Dst D m x y else D x y) : ∀ b, b ≤ nv → ∀ x y, x < nv → y < nv → fwB m a Y b (12 * x + y) = if x < a ∨ (x = a ∧ y < b) then Dst D m x y else D x y
  | 0, _, x, y, hx, hy => by
    show Y (12 * x + y) = _
    rw [h x y hx hy]
    by_cases q : x < a
    · rw [if_pos q, if_pos (Or.inl q)]
    · rw [if_neg q, if_neg (by omega)]
  | b + 1, hb, x, y, hx, hy => by
    have ih := fwB_D hD hm ha hn h b (by omega)
    show fsF (fwB m a Y b) m a b (12 * x + y) = _
    generalize hZ : fwB m a Y b = Z at ih
    have e1 : Z (12 * a + m) = D a m := by
      rw [ih a m ha hm]
      split
      · unfold Dst
        have h1 := hD.1 m
        have h2 := hD.2 a m
        split <;> omega
      · rfl
    have e2 : Z (12 * m + b) = D m b := by
      rw [ih m b hm (by omega)]
      split
      · unfold Dst
        have h1 := hD.1 m
        have h2 := hD.2 m b
        split <;> omega
      · rfl
    have e3 : Z (12 * a + b) = D a b := by
      rw [ih a b ha (by omega), if_neg (by omega)]
    have b1 := hD.2 a m
    have b2 := hD.2 m b
    have eb : byF Z a m b = if D a m = -4 ∨ D m b = -4 then -4 else D a m + D m b := by
      unfold byF
      rw [e1, e2]
      split
      · rfl
      · exact w32_id (by unfold in32; omega)
    have ef : fsF Z m a b = if D a m ≠ -4 ∧ D m b ≠ -4 ∧ (D a b = -4 ∨ D a m + D m b < D a b) then gUp Z (12 * a + b) (D a m + D m b) else Z := by
      unfold fsF
      rw [eb, e3]
      by_cases c : D a m = -4 ∨ D m b = -4
      · rw [if_pos c, if_neg (fun q => q.1 rfl), if_neg (by omega)]
      · rw [if_neg c]
        by_cases c2 : D a b = -4 ∨ D a m + D m b < D a b
        · rw [if_pos ⟨by omega, c2⟩, if_pos ⟨by omega, by omega, c2⟩]
        · rw [if_neg (fun q => c2 q.2), if_neg (fun q => c2 q.2.2)]
    rw [ef]
    by_cases q : x = a ∧ y = b
    · obtain ⟨q1, q2⟩ := q
      subst q1
      subst q2
      rw [if_pos (Or.inr ⟨rfl, by omega⟩)]
      unfold Dst
      split
      · rw [gUp_s]
      · exact e3
    · have e4 : (if D a m ≠ -4 ∧ D m b ≠ -4 ∧ (D a b = -4 ∨ D a m + D m b < D a b) then gUp Z (12 * a + b) (D a m + D m b) else Z) (12 * x + y) = Z (12 * x + y) := by
        split
        · exact gUp_n (by omega)
        · rfl
      rw [e4, ih x y hx hy]
      by_cases q2 : x < a ∨ (x = a ∧ y < b)
      · rw [if_pos q2, if_pos (by omega)]
      · rw [if_neg q2, if_neg (by omega)]
theorem fwA_D {D : Nat → Nat → Int} {nv m : Nat} (hD : Dok D) (hm : m < nv) (hn : nv ≤ 12) {Y : Nat → Int} (h : ∀ x y, x < nv → y < nv → Y (12 * x + y) = D x y) : ∀ a, a ≤ nv → ∀ x y, x < nv → y < nv → fwA m nv Y a (12 * x + y) = if x < a then Dst D m x y else D x y
  | 0, _, x, y, hx, hy => by
    show Y (12 * x + y) = _
    rw [h x y hx hy, if_neg (by omega)]
  | a + 1, ha, x, y, hx, hy => by
    show fwB m a (fwA m nv Y a) nv (12 * x + y) = _
    rw [fwB_D hD hm (by omega) hn (fwA_D hD hm hn h a (by omega)) nv (Nat.le_refl _) x y hx hy]
    by_cases q : x < a + 1
    · rw [if_pos q, if_pos (by omega)]
    · rw [if_neg q, if_neg (by omega)]
theorem fwO_D {L : Nat → Int} {nv : Nat} (hL : LOK L) (hn : nv ≤ 12) {Y : Nat → Int} (h : ∀ x y, x < nv → y < nv → Y (12 * x + y) = D0f (rdR L) x y) : ∀ w, w ≤ nv → ∀ x y, x < nv → y < nv → fwO nv Y w (12 * x + y) = Dn (rdR L) w x y
  | 0, _, x, y, hx, hy => h x y hx hy
  | w + 1, hw, x, y, hx, hy => by
    show fwA w nv (fwO nv Y w) nv (12 * x + y) = _
    rw [fwA_D (Dok_n hL (w := w) (by omega)) (by omega) hn (fwO_D hL hn h w (by omega)) nv (Nat.le_refl _) x y hx hy, if_pos hx]
    rfl
theorem fiS_v (R Y : Nat → Int) : ∀ n i : Nat, fiS R Y n i = if i < n then (if i / 12 = i % 12 then 0 else if 0 < R i then R i else -4) else Y i
  | 0, i => by rw [if_neg (by omega)]; rfl
  | n + 1, i => by
    show gUp (fiS R Y n) n _ i = _
    by_cases q : i = n
    · subst q
      rw [gUp_s]
      exact (if_pos (by omega)).symm
    · rw [gUp_n q, fiS_v R Y n i]
      by_cases q2 : i < n
      · rw [if_pos q2]
        exact (if_pos (by omega)).symm
      · rw [if_neg q2]
        exact (if_neg (by omega)).symm
theorem wy_D {L R Y : Nat → Int} {nv : Nat} (hL : LOK L) (hn : nv ≤ 12) (hR : ∀ j, j < 144 → R j = L j) {x y : Nat} (hx : x < nv) (hy : y < nv) : wyF R Y nv (12 * x + y) = dsF L nv x y := by
  refine fwO_D hL hn (fun x y hx hy => ?_) nv (Nat.le_refl _) x y hx hy
  rw [fiS_v, if_pos (by omega)]
  have e1 : (12 * x + y) / 12 = x := by omega
  have e2 : (12 * x + y) % 12 = y := by omega
  have e3 : R (12 * x + y) = rdR L x y := by
    unfold rdR
    rw [if_pos ⟨by omega, by omega⟩, hR _ (by omega), Nat.mul_comm]
  rw [e1, e2, e3]
  rfl
/-- and on the class's -/
theorem shI_D {D : Nat → Nat → Int} {nv w a : Nat} (hD : Dok D) (hw : w < nv) (ha : a < nv) (hn : nv ≤ 12) {r : Nat → Int} (hf : D a w ≠ -4) (h : ∀ x y, x < nv → y < nv → r (x * 12 + y) = phI (if x < a then Dst D w x y else D x y)) : ∀ b, b ≤ nv → ∀ x y, x < nv → y < nv → shI (D a w) w a r b (x * 12 + y) = phI (if x < a ∨ (x = a ∧ y < b) then Dst D w x y else D x y)
  | 0, _, x, y, hx, hy => by
    show r (x * 12 + y) = _
    rw [h x y hx hy]
    by_cases q : x < a
    · rw [if_pos q, if_pos (Or.inl q)]
    · rw [if_neg q, if_neg (by omega)]
  | b + 1, hb, x, y, hx, hy => by
    have ih := shI_D hD hw ha hn hf h b (by omega)
    show (if w32 (D a w + shI (D a w) w a r b (w * 12 + b)) < shI (D a w) w a r b (a * 12 + b) then gUp (shI (D a w) w a r b) (a * 12 + b) (w32 (D a w + shI (D a w) w a r b (w * 12 + b))) else shI (D a w) w a r b) (x * 12 + y) = _
    generalize hZ : shI (D a w) w a r b = Z at ih
    have e2 : Z (w * 12 + b) = phI (D w b) := by
      rw [ih w b hw (by omega)]
      split
      · unfold Dst
        have h1 := hD.1 w
        have h2 := hD.2 w b
        split
        · congr 1; omega
        · rfl
      · rfl
    have e3 : Z (a * 12 + b) = phI (D a b) := by
      rw [ih a b ha (by omega), if_neg (by omega)]
    have b1 := hD.2 a w
    have b2 := hD.2 w b
    have b3 := hD.2 a b
    rw [e2, e3]
    have e0 : w32 (D a w + phI (D w b)) = D a w + phI (D w b) := w32_id (by unfold in32 phI; split <;> omega)
    rw [e0]
    by_cases q : x = a ∧ y = b
    · obtain ⟨q1, q2⟩ := q
      subst q1
      subst q2
      rw [if_pos (Or.inr ⟨rfl, by omega⟩)]
      by_cases c : D x w + phI (D w y) < phI (D x y)
      · rw [if_pos c, gUp_s]
        unfold Dst
        unfold phI at c ⊢
        split at c <;> split at c <;> split <;> (try split) <;> omega
      · rw [if_neg c, e3]
        unfold Dst
        unfold phI at c ⊢
        split at c <;> split at c <;> split <;> (try split) <;> omega
    · have e4 : (if D a w + phI (D w b) < phI (D a b) then gUp Z (a * 12 + b) (D a w + phI (D w b)) else Z) (x * 12 + y) = Z (x * 12 + y) := by
        split
        · exact gUp_n (by omega)
        · rfl
      rw [e4, ih x y hx hy]
      by_cases q2 : x < a ∨ (x = a ∧ y < b)
      · rw [if_pos q2, if_pos (by omega)]
      · rw [if_neg q2, if_neg (by omega)]
theorem meI_D {D : Nat → Nat → Int} {nv w : Nat} (hD : Dok D) (hw : w < nv) (hn : nv ≤ 12) {r : Nat → Int} (h : ∀ x y, x < nv → y < nv → r (x * 12 + y) = phI (D x y)) : ∀ a, a ≤ nv → ∀ x y, x < nv → y < nv → meI w nv r a (x * 12 + y) = phI (if x < a then Dst D w x y else D x y)
  | 0, _, x, y, hx, hy => by
    show r (x * 12 + y) = _
    rw [h x y hx hy, if_neg (by omega)]
  | a + 1, ha, x, y, hx, hy => by
    have ih := meI_D hD hw hn h a (by omega)
    show shF a w nv (meI w nv r a) (x * 12 + y) = _
    generalize meI w nv r a = Z at ih
    have e1 : Z (a * 12 + w) = phI (D a w) := by rw [ih a w (by omega) hw, if_neg (by omega)]
    have b1 := hD.2 a w
    unfold shF
    rw [e1]
    by_cases c : D a w = -4
    · rw [if_pos (by unfold phI; rw [if_pos c]), ih x y hx hy]
      by_cases q : x = a
      · subst q
        rw [if_neg (by omega), if_pos (by omega)]
        unfold Dst
        rw [if_neg (fun z => z.1 c)]
      · by_cases q2 : x < a
        · rw [if_pos q2, if_pos (by omega)]
        · rw [if_neg q2, if_neg (by omega)]
    · have e5 : phI (D a w) = D a w := by unfold phI; rw [if_neg c]
      rw [e5, if_neg (by omega), shI_D hD hw (by omega) hn c ih nv (Nat.le_refl _) x y hx hy]
      by_cases q : x < a + 1
      · rw [if_pos q, if_pos (by omega)]
      · rw [if_neg q, if_neg (by omega)]
theorem meO_D {L : Nat → Int} {nv : Nat} (hL : LOK L) (hn : nv ≤ 12) {r : Nat → Int} (h : ∀ x y, x < nv → y < nv → r (x * 12 + y) = phI (D0f (rdR L) x y)) : ∀ w, w ≤ nv → ∀ x y, x < nv → y < nv → meO nv r w (x * 12 + y) = phI (Dn (rdR L) w x y)
  | 0, _, x, y, hx, hy => h x y hx hy
  | w + 1, hw, x, y, hx, hy => by
    show meI w nv (meO nv r w) nv (x * 12 + y) = _
    rw [meI_D (Dok_n hL (w := w) (by omega)) (by omega) hn (meO_D hL hn h w (by omega)) nv (Nat.le_refl _) x y hx hy, if_pos hx]
    rfl
theorem trI_v (L : Nat → Int) (a : Nat) (r : Nat → Int) : ∀ (n x y : Nat), n ≤ 12 → y < 12 → trI L a r n (x * 12 + y) = if x = a ∧ y < n then (if 0 < L (x * 12 + y) then L (x * 12 + y) else 1000000) else r (x * 12 + y)
  | 0, x, y, _, hy => by rw [if_neg (by omega)]; rfl
  | n + 1, x, y, hn, hy => by
    show gUp (trI L a r n) (a * 12 + n) _ (x * 12 + y) = _
    by_cases q : x = a ∧ y = n
    · obtain ⟨q1, q2⟩ := q
      subst q1
      subst q2
      rw [gUp_s]
      exact (if_pos ⟨rfl, by omega⟩).symm
    · rw [gUp_n (by omega), trI_v L a r n x y (by omega) hy]
      by_cases q2 : x = a ∧ y < n
      · rw [if_pos q2]
        exact (if_pos (by omega)).symm
      · rw [if_neg q2]
        exact (if_neg (by omega)).symm
theorem trO_v (L : Nat → Int) (nv : Nat) (r : Nat → Int) (hn : nv ≤ 12) : ∀ (a x y : Nat), a ≤ nv → x < nv → y < nv → trO L nv r a (x * 12 + y) = if x < a then (if x = y then 0 else if 0 < L (x * 12 + y) then L (x * 12 + y) else 1000000) else r (x * 12 + y)
  | 0, x, y, _, hx, hy => by rw [if_neg (by omega)]; rfl
  | a + 1, x, y, ha, hx, hy => by
    show gUp (trI L a (trO L nv r a) nv) (a * 12 + a) 0 (x * 12 + y) = _
    by_cases q : x = a ∧ y = a
    · obtain ⟨q1, q2⟩ := q
      subst q1
      subst q2
      rw [gUp_s]
      exact ((if_pos (by omega)).trans (if_pos rfl)).symm
    · rw [gUp_n (by omega), trI_v L a _ nv x y hn (by omega), trO_v L nv r hn a x y (by omega) hx hy]
      by_cases q2 : x = a
      · rw [if_pos ⟨q2, hy⟩]
        exact ((if_pos (by omega)).trans (if_neg (by omega))).symm
      · rw [if_neg (show ¬ (x = a ∧ y < nv) from fun z => q2 z.1)]
        by_cases q3 : x < a
        · rw [if_pos q3]
          exact (if_pos (by omega)).symm
        · rw [if_neg q3]
          exact (if_neg (by omega)).symm
theorem wk_D {L S : Nat → Int} {nv : Nat} (hL : LOK L) (hn : nv ≤ 12) {x y : Nat} (hx : x < nv) (hy : y < nv) : meO nv (trO L nv S nv) nv (x * 12 + y) = phI (dsF L nv x y) := by
  refine meO_D hL hn (fun x y hx hy => ?_) nv (Nat.le_refl _) x y hx hy
  rw [trO_v L nv S hn nv x y (Nat.le_refl _) hx hy, if_pos hx]
  have e3 : rdR L x y = L (x * 12 + y) := by
    unfold rdR
    rw [if_pos ⟨by omega, by omega⟩]
  have hb := hL (x * 12 + y) (by omega)
  unfold D0f phI
  rw [e3]
  split
  · rfl
  · split
    · rw [if_neg (by omega)]
    · rw [if_pos rfl]
