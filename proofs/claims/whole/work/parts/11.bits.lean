/-! bits of small numbers -/
theorem qx_and (a b : Nat) : nI a &&& nI b = nI (a &&& b) := by
  apply Int32.toBitVec_inj.1
  show BitVec.ofNat 32 a &&& BitVec.ofNat 32 b = BitVec.ofNat 32 (a &&& b)
  apply BitVec.eq_of_getLsbD_eq
  intro i hi
  simp [hi]
theorem qx_or (a b : Nat) : nI a ||| nI b = nI (a ||| b) := by
  apply Int32.toBitVec_inj.1
  show BitVec.ofNat 32 a ||| BitVec.ofNat 32 b = BitVec.ofNat 32 (a ||| b)
  apply BitVec.eq_of_getLsbD_eq
  intro i hi
  simp [hi]
theorem qx_xor (a b : Nat) : nI a ^^^ nI b = nI (a ^^^ b) := by
  apply Int32.toBitVec_inj.1
  show BitVec.ofNat 32 a ^^^ BitVec.ofNat 32 b = BitVec.ofNat 32 (a ^^^ b)
  apply BitVec.eq_of_getLsbD_eq
  intro i hi
  simp [hi]
theorem qs_l : ∀ n, n < 32 → ((nI n &&& 31).toBitVec.smod 32).toNat = n := by decide +kernel
theorem qs_u : ∀ n, n < 32 → (((nI n).toUInt32 &&& Int32.toUInt32 31).toBitVec % 32).toNat = n := by decide +kernel
theorem o_nI (n : Nat) : Int32.ofInt (n : Int) = nI n := rfl
theorem a32n {a b : Nat} (ha : a < 2147483648) : a32 (a : Int) (b : Int) = ((a &&& b : Nat) : Int) := by
  unfold a32
  rw [o_nI, o_nI, qx_and, nI_toInt (Nat.lt_of_le_of_lt Nat.and_le_left ha)]
theorem r32n {a b : Nat} (ha : a < 2147483648) (hb : b < 2147483648) : r32 (a : Int) (b : Int) = ((a ||| b : Nat) : Int) := by
  unfold r32
  rw [o_nI, o_nI, qx_or, nI_toInt (Nat.or_lt_two_pow ha hb)]
theorem x32n {a b : Nat} (ha : a < 2147483648) (hb : b < 2147483648) : x32 (a : Int) (b : Int) = ((a ^^^ b : Nat) : Int) := by
  unfold x32
  rw [o_nI, o_nI, qx_xor, nI_toInt (Nat.xor_lt_two_pow ha hb)]
theorem l32n {a k : Nat} (hk : k < 31) (h : a * 2 ^ k < 2147483648) : l32 (a : Int) (k : Int) = ((a * 2 ^ k : Nat) : Int) := by
  unfold l32
  rw [o_nI, o_nI, pk_shlN _ k (qs_l k (by omega)) (by omega), nI_toInt h]
theorem s32n {a k : Nat} (hk : k < 32) (h : a < 2147483648) : s32 (a : Int) (k : Int) = ((a / 2 ^ k : Nat) : Int) := by
  unfold s32
  rw [o_nI, o_nI, pk_shrN h _ k (qs_l k hk), nI_toInt (Nat.lt_of_le_of_lt (Nat.div_le_self _ _) h)]
theorem d32n {a b : Nat} (ha : a < 2147483648) (h0 : 0 < b) (hb : b < 2147483648) : d32 (a : Int) (b : Int) = ((a / b : Nat) : Int) := by
  unfold d32
  rw [o_nI, o_nI, pk_div ha h0 hb, nI_toInt (Nat.lt_of_le_of_lt (Nat.div_le_self _ _) ha)]
theorem m32n {a b : Nat} (ha : a < 2147483648) (h0 : 0 < b) (hb : b < 2147483648) : m32 (a : Int) (b : Int) = ((a % b : Nat) : Int) := by
  unfold m32
  rw [o_nI, o_nI, pk_rem ha h0 hb, nI_toInt (Nat.lt_of_le_of_lt (Nat.mod_le _ _) ha)]
/-- bit p by a mask -/
theorem bit_m {c p : Nat} (hc : c < 2147483648) (hp : p < 31) : a32 (c : Int) (l32 1 (p : Int)) = 0 ↔ c.testBit p = false := by
  have e1 : l32 1 (p : Int) = ((1 * 2 ^ p : Nat) : Int) := l32n (a := 1) hp (by rw [Nat.one_mul]; exact Nat.pow_lt_pow_right (by decide) hp)
  rw [e1, a32n hc, Nat.one_mul]
  constructor
  · intro h
    have h0 : c &&& 2 ^ p = 0 := by omega
    cases h2 : c.testBit p with
    | false => rfl
    | true =>
      have h3 : (c &&& 2 ^ p).testBit p = true := by rw [Nat.testBit_and, h2, Nat.testBit_two_pow_self]; rfl
      rw [h0, Nat.zero_testBit] at h3
      cases h3
  · intro h
    have h0 : c &&& 2 ^ p = 0 := by
      apply Nat.eq_of_testBit_eq
      intro i
      rw [Nat.testBit_and, Nat.zero_testBit, Nat.testBit_two_pow]
      by_cases hi : p = i
      · subst hi
        rw [h]; rfl
      · simp [hi]
    rw [h0]; rfl
/-- bit p by a shift -/
theorem bit_s {c p : Nat} (hc : c < 2147483648) (hp : p < 31) : a32 (s32 (c : Int) (p : Int)) 1 = bI (c.testBit p = true) := by
  have h1 := Nat.div_le_self c (2 ^ p)
  rw [s32n (by omega) hc, show (1 : Int) = ((1 : Nat) : Int) from rfl, a32n (by omega), Nat.and_one_is_mod]
  unfold bI
  simp only [Nat.testBit_eq_decide_div_mod_eq, decide_eq_true_eq]
  generalize c / 2 ^ p = z
  split <;> omega
theorem u32z {x : Int} {k : Nat} (hx : in32 x) (hk : k < 31) : u32 x (k : Int) = 0 ↔ 0 ≤ x ∧ x < ((2 ^ k : Nat) : Int) := by
  have h := pk_ushr (Int32.ofInt x) (nI k) k (qs_u k (by omega))
  have e1 : u32 x (k : Int) = 0 ↔ (Int32.ofInt x).toBitVec.toNat / 2 ^ k = 0 := by
    rw [← h]
    unfold u32
    rw [o_nI]
    constructor
    · intro h0
      have h1 : ((Int32.ofInt x).toUInt32 >>> ((nI k).toUInt32 &&& Int32.toUInt32 31)).toInt32 = 0 := by
        apply Int32.toInt.inj
        rw [h0]; rfl
      rw [h1]; rfl
    · intro h0
      have h1 : ((Int32.ofInt x).toUInt32 >>> ((nI k).toUInt32 &&& Int32.toUInt32 31)).toInt32 = 0 := by
        apply Int32.toBitVec_inj.1
        apply BitVec.eq_of_toNat_eq
        rw [h0]; rfl
      rw [h1]; rfl
  rw [e1, Nat.div_eq_zero_iff]
  have h2 : 0 < 2 ^ k := Nat.two_pow_pos k
  have h3 : 2 ^ k ≤ 2 ^ 30 := Nat.pow_le_pow_right (by decide) (by omega)
  have e2 : ((Int32.ofInt x).toBitVec.toNat : Int) = if 0 ≤ x then x else x + 4294967296 := by
    have h4 : (Int32.ofInt x).toBitVec.toInt = x := o32 hx
    rw [BitVec.toInt_eq_toNat_cond] at h4
    have h5 := (Int32.ofInt x).toBitVec.isLt
    unfold in32 at hx
    split at h4 <;> split <;> omega
  unfold in32 at hx
  constructor
  · intro h4
    have h5 : (Int32.ofInt x).toBitVec.toNat < 2 ^ k := by omega
    split at e2 <;> omega
  · intro h4
    rw [if_pos h4.1] at e2
    right
    omega
theorem cmp_lt {x y : Int} : cmpI x y < 0 ↔ x < y := by unfold cmpI; split <;> (try split) <;> omega
theorem cmp_ge {x y : Int} : 0 ≤ cmpI x y ↔ y ≤ x := by unfold cmpI; split <;> (try split) <;> omega
theorem cmp_gt {x y : Int} : 0 < cmpI x y ↔ y < x := by unfold cmpI; split <;> (try split) <;> omega
theorem cmp_le {x y : Int} : cmpI x y ≤ 0 ↔ x ≤ y := by unfold cmpI; split <;> (try split) <;> omega
theorem cmp_eq {x y : Int} : cmpI x y = 0 ↔ x = y := by unfold cmpI; split <;> (try split) <;> omega
theorem cmp_ne {x y : Int} : cmpI x y ≠ 0 ↔ x ≠ y := by unfold cmpI; split <;> (try split) <;> omega
