/-! allowed: bit counts -/
theorem bcR_cnt : ∀ c : Nat, c < 1024 → bcR (c : Int) = ((cnt (fun p => c.testBit p) 10 : Nat) : Int) := by decide +kernel
def mkN (K : Nat → Int) (z : Int) : Nat → Nat
  | 0 => 0
  | p + 1 => mkN K z p ||| (if K p = z then 2 ^ p else 0)
theorem mkN_lt (K : Nat → Int) (z : Int) : ∀ n, mkN K z n < 2 ^ n
  | 0 => Nat.lt_add_one 0
  | n + 1 => by
    have h := mkN_lt K z n
    have h2 : 2 ^ n < 2 ^ (n + 1) := Nat.pow_lt_pow_right (by decide) (by omega)
    show mkN K z n ||| (if K n = z then 2 ^ n else 0) < 2 ^ (n + 1)
    refine Nat.or_lt_two_pow (by omega) ?_
    split <;> omega
theorem mkN_bit (K : Nat → Int) (z : Int) : ∀ n p, (mkN K z n).testBit p = decide (p < n ∧ K p = z)
  | 0, p => by simp [mkN]
  | n + 1, p => by
    show (mkN K z n ||| (if K n = z then 2 ^ n else 0)).testBit p = _
    rw [Nat.testBit_or, mkN_bit K z n p]
    by_cases q : K n = z
    · rw [if_pos q, Nat.testBit_two_pow]
      by_cases q2 : p = n
      · subst q2
        simp [q]
      · have e1 : decide (n = p) = false := decide_eq_false (fun e0 => q2 e0.symm)
        rw [e1, Bool.or_false]
        apply decide_eq_decide.mpr
        constructor <;> (intro h; exact ⟨by omega, h.2⟩)
    · rw [if_neg q, Nat.zero_testBit, Bool.or_false]
      apply decide_eq_decide.mpr
      constructor
      · intro h
        exact ⟨by omega, h.2⟩
      · intro h
        have : p ≠ n := fun e0 => q (by rw [← e0]; exact h.2)
        exact ⟨by omega, h.2⟩
theorem pkF_mk (K : Nat → Int) (z : Int) : ∀ n, n ≤ 10 → pkF K z n = ((mkN K z n : Nat) : Int)
  | 0, _ => rfl
  | n + 1, hn => by
    have h1 := mkN_lt K z n
    have h2 : 2 ^ n ≤ 2 ^ 10 := Nat.pow_le_pow_right (by decide) (by omega)
    show r32 (pkF K z n) (if K n = z then l32 1 (n : Int) else 0) = ((mkN K z n ||| (if K n = z then 2 ^ n else 0) : Nat) : Int)
    rw [pkF_mk K z n (by omega)]
    by_cases q : K n = z
    · rw [if_pos q, if_pos q, sh1 (by omega), r32n (by omega) (by omega)]
    · rw [if_neg q, if_neg q]
      exact r32n (b := 0) (by omega) (by omega)
theorem shF9_mk (K : Nat → Int) : ∀ n, n ≤ 10 → shF9 K n = ((mkN K 3 n : Nat) : Int)
  | 0, _ => rfl
  | n + 1, hn => by
    have h1 := mkN_lt K 3 n
    have h2 : 2 ^ n ≤ 2 ^ 10 := Nat.pow_le_pow_right (by decide) (by omega)
    show w32 (shF9 K n + if K n = 3 then l32 1 (n : Int) else 0) = ((mkN K 3 n ||| (if K n = 3 then 2 ^ n else 0) : Nat) : Int)
    rw [shF9_mk K n (by omega)]
    by_cases q : K n = 3
    · rw [if_pos q, if_pos q, sh1 (by omega), w32_id (by unfold in32; omega)]
      have h3 := Nat.two_pow_add_eq_or_of_lt h1 1
      rw [Nat.mul_one] at h3
      rw [Nat.or_comm, ← h3]
      omega
    · rw [if_neg q, if_neg q, w32_id (by unfold in32; omega), Nat.or_zero]
      omega
theorem cnt_congr {P Q : Nat → Bool} : ∀ n, (∀ x, x < n → P x = Q x) → cnt P n = cnt Q n
  | 0, _ => rfl
  | n + 1, h => by
    show cnt P n + (if P n = true then 1 else 0) = cnt Q n + (if Q n = true then 1 else 0)
    rw [cnt_congr n (fun x hx => h x (by omega)), h n (by omega)]
theorem cnt_tail {P : Nat → Bool} {n : Nat} : ∀ m, n ≤ m → (∀ x, n ≤ x → x < m → ¬ P x = true) → cnt P m = cnt P n
  | 0, h, _ => by rw [Nat.le_zero.mp h]
  | m + 1, h, hp => by
    by_cases q : n = m + 1
    · rw [q]
    · show cnt P m + (if P m = true then 1 else 0) = _
      rw [if_neg (hp m (by omega) (by omega)), cnt_tail m (by omega) (fun x h1 h2 => hp x h1 (by omega)), Nat.add_zero]
theorem bit_out {c n p : Nat} (h : c < 2 ^ n) (hp : n ≤ p) : c.testBit p = false := Nat.testBit_lt_two_pow (Nat.lt_of_lt_of_le h (Nat.pow_le_pow_right (by decide) hp))
theorem alN_cnt (K : Nat → Int) (c : Nat) : ∀ n, n ≤ 10 → alN K c n = ((cnt (fun p => c.testBit p) n + cnt (fun p => c.testBit p && decide (K p = 1)) n : Nat) : Int)
  | 0, _ => rfl
  | n + 1, hn => by
    have h1 := cnt_le (fun p => c.testBit p) n
    have h2 := cnt_le (fun p => c.testBit p && decide (K p = 1)) n
    simp only [alN, cnt]
    rw [alN_cnt K c n (by omega)]
    by_cases q : c.testBit n = true
    · by_cases q2 : K n = 1
      · rw [if_pos q, if_pos q2, if_pos q, if_pos (by rw [q, decide_eq_true q2]; rfl), w32_id (by unfold in32; omega)]
        omega
      · rw [if_pos q, if_neg q2, if_pos q, if_neg (by rw [q, decide_eq_false q2]; decide), w32_id (by unfold in32; omega)]
        omega
    · rw [if_neg q, if_neg q, if_neg (fun z => q (Bool.and_eq_true _ _ ▸ z).1), w32_id (by unfold in32; omega)]
      omega
theorem alB_iff (K : Nat → Int) (c : Nat) : ∀ n, alB K c n = true ↔ ∀ p, p < n → K p = 3 → c.testBit p = true
  | 0 => ⟨fun _ p hp => absurd hp (Nat.not_lt_zero _), fun _ => rfl⟩
  | n + 1 => by
    show (alB K c n && (c.testBit n || decide (K n ≠ 3))) = true ↔ _
    rw [Bool.and_eq_true, alB_iff K c n, Bool.or_eq_true, decide_eq_true_eq]
    constructor
    · intro h p hp hk
      by_cases q : p = n
      · subst q
        exact h.2.resolve_right (fun z => z hk)
      · exact h.1 p (by omega) hk
    · intro h
      refine ⟨fun p hp hk => h p (by omega) hk, ?_⟩
      by_cases q : K n = 3
      · exact Or.inl (h n (by omega) q)
      · exact Or.inr q
theorem and_sub {c s : Nat} : c &&& s = s ↔ ∀ p, s.testBit p = true → c.testBit p = true := by
  constructor
  · intro h p hp
    have h2 : (c &&& s).testBit p = true := by rw [h]; exact hp
    rw [Nat.testBit_and, Bool.and_eq_true] at h2
    exact h2.1
  · intro h
    apply Nat.eq_of_testBit_eq
    intro p
    rw [Nat.testBit_and]
    by_cases q : s.testBit p = true
    · rw [h p q, q]
      rfl
    · rw [Bool.not_eq_true] at q
      rw [q, Bool.and_false]
theorem ms_al {K : Nat → Int} {np : Nat} {num : Int} (hp : np ≤ 10) {c : Nat} (hc : c < 2 ^ np) : msB (pkF K 3 np) (pkF K 1 np) num (c : Int) = alP K np num c := by
  have h2 : 2 ^ np ≤ 2 ^ 10 := Nat.pow_le_pow_right (by decide) hp
  have h3 := mkN_lt K 3 np
  have h1 := mkN_lt K 1 np
  have hand : c &&& mkN K 1 np < 1024 := by
    have := Nat.and_le_left (n := c) (m := mkN K 1 np)
    omega
  unfold msB alP
  rw [pkF_mk K 3 np hp, pkF_mk K 1 np hp, a32n (by omega), a32n (by omega), bcR_cnt c (by omega), bcR_cnt _ hand, alN_cnt K c np hp]
  have e1 : cnt (fun p => c.testBit p) 10 = cnt (fun p => c.testBit p) np := cnt_tail 10 hp (fun x h _ z => by rw [bit_out hc h] at z; exact absurd z (by decide))
  have e2 : cnt (fun p => (c &&& mkN K 1 np).testBit p) 10 = cnt (fun p => c.testBit p && decide (K p = 1)) np := by
    rw [cnt_tail (n := np) 10 hp (fun x h _ z => by rw [Nat.testBit_and, bit_out hc h, Bool.false_and] at z; exact absurd z (by decide))]
    refine cnt_congr np (fun x hx => ?_)
    rw [Nat.testBit_and, mkN_bit]
    congr 1
    apply decide_eq_decide.mpr
    exact ⟨fun h => h.2, fun h => ⟨hx, h⟩⟩
  have l1 := cnt_le (fun p => c.testBit p) np
  have l2 := cnt_le (fun p => c.testBit p && decide (K p = 1)) np
  rw [e1, e2, w32_id (by unfold in32; omega)]
  congr 1
  · rw [Bool.eq_iff_iff, decide_eq_true_eq, alB_iff]
    constructor
    · intro h p hp2 hk
      exact and_sub.mp (Int.ofNat.inj h) p (by rw [mkN_bit]; exact decide_eq_true ⟨hp2, hk⟩)
    · intro h
      have : c &&& mkN K 3 np = mkN K 3 np := and_sub.mpr (fun p hb => by
        rw [mkN_bit] at hb
        have := of_decide_eq_true hb
        exact h p this.1 this.2)
      rw [this]
theorem alP_congr {K K' : Nat → Int} {np : Nat} {num : Int} {c : Nat} (h : ∀ p, p < np → K p = K' p) : alP K np num c = alP K' np num c := by
  have h1 : ∀ n, n ≤ np → alB K c n = alB K' c n := by
    intro n
    induction n with
    | zero => intro _; rfl
    | succ n ih =>
      intro hn
      simp only [alB]
      rw [ih (by omega), h n (by omega)]
  have h2 : ∀ n, n ≤ np → alN K c n = alN K' c n := by
    intro n
    induction n with
    | zero => intro _; rfl
    | succ n ih =>
      intro hn
      simp only [alN]
      rw [ih (by omega), h n (by omega)]
  unfold alP
  rw [h1 np (Nat.le_refl _), h2 np (Nat.le_refl _)]
theorem ks9_cnt (K : Nat → Int) : ∀ n, n ≤ 10 → ks9 K n = ((cnt (fun p => decide (K p = 3)) n : Nat) : Int)
  | 0, _ => rfl
  | n + 1, hn => by
    have h1 := cnt_le (fun p => decide (K p = 3)) n
    simp only [ks9, cnt]
    rw [ks9_cnt K n (by omega)]
    by_cases q : K n = 3
    · rw [if_pos q, if_pos (decide_eq_true q), w32_id (by unfold in32; omega)]
      omega
    · rw [if_neg q, if_neg (by rw [decide_eq_false q]; decide), w32_id (by unfold in32; omega)]
      omega
theorem ct5 {K : Nat → Int} {np : Nat} (hp : np ≤ 10) : bcR (pkF K 3 np) = ks9 K np := by
  have h2 : 2 ^ np ≤ 2 ^ 10 := Nat.pow_le_pow_right (by decide) hp
  have h3 := mkN_lt K 3 np
  rw [pkF_mk K 3 np hp, bcR_cnt _ (by omega), ks9_cnt K np hp]
  congr 1
  rw [cnt_tail (n := np) 10 hp (fun x h _ z => by rw [bit_out h3 h] at z; exact absurd z (by decide))]
  refine cnt_congr np (fun x hx => ?_)
  rw [mkN_bit]
  apply decide_eq_decide.mpr
  exact ⟨fun h => h.2, fun h => ⟨hx, h⟩⟩
theorem ks9_congr {K K' : Nat → Int} : ∀ n, (∀ p, p < n → K p = K' p) → ks9 K n = ks9 K' n
  | 0, _ => rfl
  | n + 1, h => by
    simp only [ks9]
    rw [ks9_congr n (fun p hp => h p (by omega)), h n (by omega)]
theorem shF9_congr {K K' : Nat → Int} : ∀ n, (∀ p, p < n → K p = K' p) → shF9 K n = shF9 K' n
  | 0, _ => rfl
  | n + 1, h => by
    simp only [shF9]
    rw [shF9_congr n (fun p hp => h p (by omega)), h n (by omega)]
theorem pkF_congr {K K' : Nat → Int} {z : Int} : ∀ n, (∀ p, p < n → K p = K' p) → pkF K z n = pkF K' z n
  | 0, _ => rfl
  | n + 1, h => by
    simp only [pkF]
    rw [pkF_congr n (fun p hp => h p (by omega)), h n (by omega)]
theorem ct4 {B B' : Nat → Int} : ∀ n, n ≤ 12 → (∀ j, j < n → 0 ≤ B j ∧ B j ≤ 1000) → (∀ j, j < n → B' j = B j) → sumN B n = bs9 B' n
  | 0, _, _, _ => rfl
  | n + 1, hn, h, he => by
    have h1 := sumN_bd (f := B) (b := 1000) (n := n) (fun j hj => h j (by omega))
    have h2 := h n (by omega)
    simp only [sumN, bs9]
    rw [← ct4 n (by omega) (fun j hj => h j (by omega)) (fun j hj => he j (by omega)), he n (by omega), w32_id (by unfold in32; omega)]
/-! roads counted -/
def cn2 (P : Nat → Nat → Bool) (m : Nat) : Nat → Nat
  | 0 => 0
  | a + 1 => cn2 P m a + cnt (P a) m
theorem rdI_cnt (L : Nat → Int) (a : Nat) (x : Nat) (hx : x ≤ 200) : ∀ n, n ≤ 12 → rdI L a (x : Int) n = ((x + cnt (fun b => decide (0 < L (a * 12 + b))) n : Nat) : Int)
  | 0, _ => rfl
  | n + 1, hn => by
    have h1 := cnt_le (fun b => decide (0 < L (a * 12 + b))) n
    simp only [rdI, cnt]
    rw [rdI_cnt L a x hx n (by omega)]
    by_cases q : 0 < L (a * 12 + n)
    · rw [if_pos q, if_pos (decide_eq_true q), w32_id (by unfold in32; omega)]
      omega
    · rw [if_neg q, if_neg (by rw [decide_eq_false q]; decide), w32_id (by unfold in32; omega)]
      omega
theorem cn2_le (P : Nat → Nat → Bool) (m : Nat) : ∀ a, cn2 P m a ≤ a * m
  | 0 => by simp [cn2]
  | a + 1 => by
    have h1 := cn2_le P m a
    have h2 := cnt_le (P a) m
    show cn2 P m a + cnt (P a) m ≤ (a + 1) * m
    rw [Nat.add_mul, Nat.one_mul]
    omega
theorem rdO_cn2 (L : Nat → Int) (nv : Nat) (hn : nv ≤ 12) : ∀ a, a ≤ nv → rdO L a = ((cn2 (fun a b => decide (b < a ∧ 0 < L (a * 12 + b))) 12 a : Nat) : Int)
  | 0, _ => rfl
  | a + 1, ha => by
    have h1 := cn2_le (fun a b => decide (b < a ∧ 0 < L (a * 12 + b))) 12 a
    simp only [rdO, cn2]
    rw [rdO_cn2 L nv hn a (by omega), rdI_cnt L a _ (by omega) a (by omega)]
    congr 2
    rw [cnt_tail (n := a) 12 (by omega) (fun x h _ z => by have := (of_decide_eq_true z).1; omega)]
    refine cnt_congr a (fun x hx => ?_)
    apply decide_eq_decide.mpr
    exact ⟨fun h => ⟨hx, h⟩, fun h => h.2⟩
theorem rd9_cn2 (R : Nat → Int) (nv : Nat) : ∀ a b, a < 12 → b ≤ 12 → rd9 R nv (12 * a + b) = ((cn2 (fun a b => decide (a < b ∧ a < nv ∧ b < nv ∧ 0 < R (12 * a + b))) 12 a + cnt (fun b => decide (a < b ∧ a < nv ∧ b < nv ∧ 0 < R (12 * a + b))) b : Nat) : Int) := by
  intro a
  induction a with
  | zero =>
    intro b
    induction b with
    | zero => intro _ _; rfl
    | succ b ih =>
      intro h1 h2
      have h3 := ih h1 (by omega)
      have h4 := cnt_le (fun b => decide (0 < b ∧ 0 < nv ∧ b < nv ∧ 0 < R (12 * 0 + b))) b
      show rd9 R nv (12 * 0 + b + 1) = _
      simp only [rd9, cnt]
      rw [h3, show (12 * 0 + b) / 12 = 0 by omega, show (12 * 0 + b) % 12 = b by omega]
      simp only [cn2]
      by_cases q : 0 < b ∧ 0 < nv ∧ b < nv ∧ 0 < R (12 * 0 + b)
      · rw [if_pos q, if_pos (decide_eq_true q), w32_id (by unfold in32; omega)]
        omega
      · rw [if_neg q, if_neg (by rw [decide_eq_false q]; decide), w32_id (by unfold in32; omega)]
        omega
  | succ a iha =>
    intro b
    induction b with
    | zero =>
      intro h1 _
      have := iha 12 (by omega) (by omega)
      rw [show 12 * (a + 1) + 0 = 12 * a + 12 by omega, this]
      rfl
    | succ b ih =>
      intro h1 h2
      have h3 := ih h1 (by omega)
      have h4 := cnt_le (fun b => decide (a + 1 < b ∧ a + 1 < nv ∧ b < nv ∧ 0 < R (12 * (a + 1) + b))) b
      have h5 := cn2_le (fun a b => decide (a < b ∧ a < nv ∧ b < nv ∧ 0 < R (12 * a + b))) 12 (a + 1)
      show rd9 R nv (12 * (a + 1) + b + 1) = _
      simp only [rd9, cnt]
      rw [h3, show (12 * (a + 1) + b) / 12 = a + 1 by omega, show (12 * (a + 1) + b) % 12 = b by omega]
      generalize cn2 (fun a b => decide (a < b ∧ a < nv ∧ b < nv ∧ 0 < R (12 * a + b))) 12 (a + 1) = z at h5 ⊢
      by_cases q : a + 1 < b ∧ a + 1 < nv ∧ b < nv ∧ 0 < R (12 * (a + 1) + b)
      · rw [if_pos q, if_pos (decide_eq_true q), w32_id (by unfold in32; omega)]
        omega
      · rw [if_neg q, if_neg (by rw [decide_eq_false q]; decide), w32_id (by unfold in32; omega)]
        omega
/-- rows and columns counted -/
theorem cn2_col (P : Nat → Nat → Bool) (m : Nat) : ∀ n, cn2 P (m + 1) n = cn2 P m n + cnt (fun a => P a m) n
  | 0 => rfl
  | n + 1 => by
    have := cn2_col P m n
    simp only [cn2, cnt]
    rw [this]
    omega
theorem cn2_z (P : Nat → Nat → Bool) : ∀ n, cn2 P 0 n = 0
  | 0 => rfl
  | n + 1 => by
    show cn2 P 0 n + 0 = 0
    rw [cn2_z P n]
theorem cn2_sw (P : Nat → Nat → Bool) (n : Nat) : ∀ m, cn2 P m n = cn2 (fun a b => P b a) n m
  | 0 => cn2_z P n
  | m + 1 => by
    rw [cn2_col, cn2_sw P n m]
    rfl
theorem cn2_congr {P Q : Nat → Nat → Bool} {m : Nat} : ∀ n, (∀ a b, a < n → b < m → P a b = Q a b) → cn2 P m n = cn2 Q m n
  | 0, _ => rfl
  | n + 1, h => by
    simp only [cn2]
    rw [cn2_congr n (fun a b ha hb => h a b (by omega) hb), cnt_congr m (fun b hb => h n b (by omega) hb)]
theorem cn2_tail {P : Nat → Nat → Bool} {m n : Nat} : ∀ k, n ≤ k → (∀ a b, n ≤ a → a < k → b < m → ¬ P a b = true) → cn2 P m k = cn2 P m n
  | 0, h, _ => by rw [Nat.le_zero.mp h]
  | k + 1, h, hp => by
    by_cases q : n = k + 1
    · rw [q]
    · show cn2 P m k + cnt (P k) m = _
      rw [cn2_tail k (by omega) (fun a b h1 h2 h3 => hp a b h1 (by omega) h3), cnt_tail (n := 0) m (Nat.zero_le _) (fun x _ h2 => hp k x (by omega) (by omega) h2)]
      rfl
theorem ct2 {L R : Nat → Int} {nv : Nat} (hn : nv ≤ 12) (hR : ∀ j, j < 144 → R j = L j) (hs : ∀ a b, a < 12 → b < 12 → L (a * 12 + b) = L (b * 12 + a)) : rdO L nv = rd9 R nv 144 := by
  have h1 := rd9_cn2 R nv 11 12 (by omega) (by omega)
  rw [show 12 * 11 + 12 = 144 by omega] at h1
  have h5 : cn2 (fun a b => decide (b < a ∧ 0 < L (a * 12 + b))) 12 nv = cn2 (fun a b => decide (a < b ∧ a < nv ∧ b < nv ∧ 0 < R (12 * a + b))) 12 12 := by
    rw [cn2_sw (fun a b => decide (a < b ∧ a < nv ∧ b < nv ∧ 0 < R (12 * a + b))) 12 12, cn2_tail (n := nv) 12 hn (fun a b h1 h2 h3 z => by simp only [decide_eq_true_eq] at z; omega)]
    refine cn2_congr nv (fun a b ha hb => ?_)
    apply decide_eq_decide.mpr
    rw [hR (12 * b + a) (by omega), show 12 * b + a = b * 12 + a by omega, ← hs a b (by omega) hb]
    constructor <;> (intro h; omega)
  rw [h1, rdO_cn2 L nv hn nv (Nat.le_refl _), h5]
  rfl
