/-! whole numbers of 32 and 64 bits as Int -/
def w32 (x : Int) : Int := Int.bmod x 4294967296
def w64 (x : Int) : Int := Int.bmod x 18446744073709551616
def in32 (x : Int) : Prop := -2147483648 ≤ x ∧ x ≤ 2147483647
def in64 (x : Int) : Prop := -9223372036854775808 ≤ x ∧ x ≤ 9223372036854775807
theorem w32_in (x : Int) : in32 (w32 x) := by
  have h1 := Int.bmod_lt (x := x) (m := 4294967296) (by decide)
  have h2 := Int.le_bmod (x := x) (m := 4294967296) (by decide)
  unfold in32 w32
  omega
theorem w64_in (x : Int) : in64 (w64 x) := by
  have h1 := Int.bmod_lt (x := x) (m := 18446744073709551616) (by decide)
  have h2 := Int.le_bmod (x := x) (m := 18446744073709551616) (by decide)
  unfold in64 w64
  omega
theorem o32w (x : Int) : (Int32.ofInt x).toInt = w32 x := Int32.toInt_ofInt
theorem o64w (x : Int) : (Int64.ofInt x).toInt = w64 x := Int64.toInt_ofInt
theorem w32_id {x : Int} (h : in32 x) : w32 x = x := by
  unfold w32
  exact Int.bmod_eq_of_le (by have := h.1; omega) (by have := h.2; omega)
theorem w64_id {x : Int} (h : in64 x) : w64 x = x := by
  unfold w64
  exact Int.bmod_eq_of_le (by have := h.1; omega) (by have := h.2; omega)
theorem o32 {x : Int} (h : in32 x) : (Int32.ofInt x).toInt = x := by rw [o32w, w32_id h]
theorem o64 {x : Int} (h : in64 x) : (Int64.ofInt x).toInt = x := by rw [o64w, w64_id h]
theorem t32 (z : Int32) : in32 z.toInt := ⟨by have := Int32.minValue_le_toInt z; simpa using this, by have := Int32.toInt_lt z; omega⟩
theorem t64 (z : Int64) : in64 z.toInt := ⟨by have := Int64.minValue_le_toInt z; simpa using this, by have := Int64.toInt_lt z; omega⟩
theorem ot32 (z : Int32) : Int32.ofInt z.toInt = z := Int32.ofInt_toInt z
theorem ot64 (z : Int64) : Int64.ofInt z.toInt = z := Int64.ofInt_toInt z
theorem ow32 (x : Int) : Int32.ofInt (w32 x) = Int32.ofInt x := by rw [← o32w, ot32]
theorem ow64 (x : Int) : Int64.ofInt (w64 x) = Int64.ofInt x := by rw [← o64w, ot64]
theorem o32_add (x y : Int) : Int32.ofInt x + Int32.ofInt y = Int32.ofInt (w32 (x + y)) := by rw [ow32, Int32.ofInt_add]
theorem o32_sub (x y : Int) : Int32.ofInt x - Int32.ofInt y = Int32.ofInt (w32 (x - y)) := by rw [ow32, Int32.ofInt_sub]
theorem o32_mul (x y : Int) : Int32.ofInt x * Int32.ofInt y = Int32.ofInt (w32 (x * y)) := by rw [ow32, Int32.ofInt_mul]
theorem o32_neg (x : Int) : - Int32.ofInt x = Int32.ofInt (w32 (-x)) := by rw [ow32, Int32.ofInt_neg]
theorem o64_add (x y : Int) : Int64.ofInt x + Int64.ofInt y = Int64.ofInt (w64 (x + y)) := by rw [ow64, Int64.ofInt_add]
theorem o64_sub (x y : Int) : Int64.ofInt x - Int64.ofInt y = Int64.ofInt (w64 (x - y)) := by rw [ow64, Int64.ofInt_sub]
theorem o64_mul (x y : Int) : Int64.ofInt x * Int64.ofInt y = Int64.ofInt (w64 (x * y)) := by rw [ow64, Int64.ofInt_mul]
theorem o64_neg (x : Int) : - Int64.ofInt x = Int64.ofInt (w64 (-x)) := by rw [ow64, Int64.ofInt_neg]
def a32 (x y : Int) : Int := (Int32.ofInt x &&& Int32.ofInt y).toInt
def r32 (x y : Int) : Int := (Int32.ofInt x ||| Int32.ofInt y).toInt
def x32 (x y : Int) : Int := (Int32.ofInt x ^^^ Int32.ofInt y).toInt
def l32 (x y : Int) : Int := (Int32.ofInt x <<< (Int32.ofInt y &&& 31)).toInt
def s32 (x y : Int) : Int := (Int32.ofInt x >>> (Int32.ofInt y &&& 31)).toInt
def u32 (x y : Int) : Int := ((Int32.ofInt x).toUInt32 >>> ((Int32.ofInt y).toUInt32 &&& Int32.toUInt32 31)).toInt32.toInt
def d32 (x y : Int) : Int := (Int32.ofInt x / Int32.ofInt y).toInt
def m32 (x y : Int) : Int := (Int32.ofInt x - Int32.ofInt x / Int32.ofInt y * Int32.ofInt y).toInt
def b32 (x : Int) : Int := (Int32.ofInt x).toInt8.toInt32.toInt
def a64 (x y : Int) : Int := (Int64.ofInt x &&& Int64.ofInt y).toInt
def r64 (x y : Int) : Int := (Int64.ofInt x ||| Int64.ofInt y).toInt
def l64 (x y : Int) : Int := (Int64.ofInt x <<< ((Int32.ofInt y).toInt64 &&& 63)).toInt
theorem lt32 {x y : Int} (hx : in32 x) (hy : in32 y) : Int32.ofInt x < Int32.ofInt y ↔ x < y := by rw [Int32.lt_iff_toInt_lt, o32 hx, o32 hy]
theorem le32 {x y : Int} (hx : in32 x) (hy : in32 y) : Int32.ofInt x ≤ Int32.ofInt y ↔ x ≤ y := by rw [Int32.le_iff_toInt_le, o32 hx, o32 hy]
theorem eq32 {x y : Int} (hx : in32 x) (hy : in32 y) : Int32.ofInt x = Int32.ofInt y ↔ x = y := ⟨fun h => by rw [← o32 hx, ← o32 hy, h], fun h => by rw [h]⟩
theorem z32 : Int32.ofInt 0 = 0 := rfl
theorem in32_0 : in32 0 := by unfold in32; omega
theorem lt64 {x y : Int} (hx : in64 x) (hy : in64 y) : Int64.ofInt x < Int64.ofInt y ↔ x < y := by rw [Int64.lt_iff_toInt_lt, o64 hx, o64 hy]
theorem le64 {x y : Int} (hx : in64 x) (hy : in64 y) : Int64.ofInt x ≤ Int64.ofInt y ↔ x ≤ y := by rw [Int64.le_iff_toInt_le, o64 hx, o64 hy]
theorem eq64 {x y : Int} (hx : in64 x) (hy : in64 y) : Int64.ofInt x = Int64.ofInt y ↔ x = y := ⟨fun h => by rw [← o64 hx, ← o64 hy, h], fun h => by rw [h]⟩
theorem in32_64 {x : Int} (h : in32 x) : in64 x := by unfold in32 at h; unfold in64; omega
theorem i2l_ok {x : Int} (h : in32 x) : (Int32.ofInt x).toInt64 = Int64.ofInt x := by
  apply Int64.toInt.inj
  rw [Int32.toInt_toInt64, o32 h, o64 (in32_64 h)]
theorem l2i_ok {x : Int} (h : in64 x) : (Int64.ofInt x).toInt32 = Int32.ofInt (w32 x) := by
  apply Int32.toInt.inj
  rw [Int64.toInt_toInt32, o64 h, ow32, o32w]
  rfl
def cmpI (x y : Int) : Int := if y < x then 1 else if x = y then 0 else -1
theorem cmp_ok {x y : Int} (hx : in64 x) (hy : in64 y) : lg_cmp (Int64.ofInt x) (Int64.ofInt y) = Int32.ofInt (cmpI x y) := by
  unfold lg_cmp cmpI
  simp only [gt_iff_lt, lt64 hy hx, eq64 hx hy]
  by_cases h1 : y < x
  · simp [h1]
  · by_cases h2 : x = y
    · simp [h2]
    · simp [h1, h2]
theorem cmp_in (x y : Int) : in32 (cmpI x y) := by unfold cmpI in32; split <;> (try split) <;> omega
theorem nn32 {x : Int} (h : in32 x) : (Int32.ofInt x).toNatClampNeg = x.toNat := by
  show (Int32.ofInt x).toInt.toNat = _
  rw [o32 h]
theorem in_32 {x : Int} {n : Nat} (h : in32 x) (h0 : 0 ≤ x) (h1 : x < n) : vp_in (Int32.ofInt x) n := by
  rw [vp_in_iff, o32 h]
  exact ⟨h0, h1⟩
