section GV
variable {D : va_G} {ca : Nat → ClassId} {sc : gScr} {R : Room} {m : gMd} {pc pc' : Nat} {ls ls' : gLs} {st st' : List gAV} {sh sh' : gShp} {M M' : gMem} {rv : List gAV}
theorem Go_topI {x v : Int} (hv : x = v) (k : Go D ca sc R m pc ls (gI v :: st) sh M rv sh' M') : Go D ca sc R m pc ls (gI x :: st) sh M rv sh' M' := hv ▸ k
theorem Go_topJ {x v : Int} (hv : x = v) (k : Go D ca sc R m pc ls (gJ v :: st) sh M rv sh' M') : Go D ca sc R m pc ls (gJ x :: st) sh M rv sh' M' := hv ▸ k
theorem Go_M {M2 : gMem} (hM : M = M2) (k : Go D ca sc R m pc ls (st) sh M2 rv sh' M') : Go D ca sc R m pc ls (st) sh M rv sh' M' := hM ▸ k
theorem Go_ls2 (hl : ls = ls') (k : Go D ca sc R m pc ls' (st) sh M rv sh' M') : Go D ca sc R m pc ls (st) sh M rv sh' M' := hl ▸ k
theorem Go_iaddc {x y : Int} (h : -2147483648 ≤ x + y ∧ x + y ≤ 2147483647) (hd : decode (gCode m) pc = .ok (.iadd, 1)) (k : Go D ca sc R m (pc + 1) ls (gI (x + y) :: st) sh M rv sh' M') : Go D ca sc R m pc ls (gI y :: gI x :: st) sh M rv sh' M' := Go_iadd hd (by rw [w32_id h]; exact k)
theorem Go_isubc {x y : Int} (h : -2147483648 ≤ x - y ∧ x - y ≤ 2147483647) (hd : decode (gCode m) pc = .ok (.isub, 1)) (k : Go D ca sc R m (pc + 1) ls (gI (x - y) :: st) sh M rv sh' M') : Go D ca sc R m pc ls (gI y :: gI x :: st) sh M rv sh' M' := Go_isub hd (by rw [w32_id h]; exact k)
theorem Go_imulc {x y : Int} (h : -2147483648 ≤ x * y ∧ x * y ≤ 2147483647) (hd : decode (gCode m) pc = .ok (.imul, 1)) (k : Go D ca sc R m (pc + 1) ls (gI (x * y) :: st) sh M rv sh' M') : Go D ca sc R m pc ls (gI y :: gI x :: st) sh M rv sh' M' := Go_imul hd (by rw [w32_id h]; exact k)
theorem Go_laddc {x y : Int} (h : -9223372036854775808 ≤ x + y ∧ x + y ≤ 9223372036854775807) (hd : decode (gCode m) pc = .ok (.ladd, 1)) (k : Go D ca sc R m (pc + 1) ls (gJ (x + y) :: st) sh M rv sh' M') : Go D ca sc R m pc ls (gJ y :: gJ x :: st) sh M rv sh' M' := Go_ladd hd (by rw [w64_id h]; exact k)
theorem Go_lsubc {x y : Int} (h : -9223372036854775808 ≤ x - y ∧ x - y ≤ 9223372036854775807) (hd : decode (gCode m) pc = .ok (.lsub, 1)) (k : Go D ca sc R m (pc + 1) ls (gJ (x - y) :: st) sh M rv sh' M') : Go D ca sc R m pc ls (gJ y :: gJ x :: st) sh M rv sh' M' := Go_lsub hd (by rw [w64_id h]; exact k)
theorem Go_lmulc {x y : Int} (h : -9223372036854775808 ≤ x * y ∧ x * y ≤ 9223372036854775807) (hd : decode (gCode m) pc = .ok (.lmul, 1)) (k : Go D ca sc R m (pc + 1) ls (gJ (x * y) :: st) sh M rv sh' M') : Go D ca sc R m pc ls (gJ y :: gJ x :: st) sh M rv sh' M' := Go_lmul hd (by rw [w64_id h]; exact k)
theorem Go_inegc {x : Int} (h : -2147483648 ≤ -x ∧ -x ≤ 2147483647) (hd : decode (gCode m) pc = .ok (.ineg, 1)) (k : Go D ca sc R m (pc + 1) ls (gI (-x) :: st) sh M rv sh' M') : Go D ca sc R m pc ls (gI x :: st) sh M rv sh' M' := Go_ineg hd (by rw [w32_id h]; exact k)
theorem Go_lnegc {x : Int} (h : -9223372036854775808 ≤ -x ∧ -x ≤ 9223372036854775807) (hd : decode (gCode m) pc = .ok (.lneg, 1)) (k : Go D ca sc R m (pc + 1) ls (gJ (-x) :: st) sh M rv sh' M') : Go D ca sc R m pc ls (gJ x :: st) sh M rv sh' M' := Go_lneg hd (by rw [w64_id h]; exact k)
theorem Go_l2ic {x : Int} (h : -2147483648 ≤ x ∧ x ≤ 2147483647) (hd : decode (gCode m) pc = .ok (.l2i, 1)) (k : Go D ca sc R m (pc + 1) ls (gI x :: st) sh M rv sh' M') : Go D ca sc R m pc ls (gJ x :: st) sh M rv sh' M' := Go_l2i hd (by rw [w32_id h]; exact k)
theorem Go_iaddn {x y : Int} (a b : Nat) (hx : x = (a : Int)) (hy : y = (b : Int)) (h : a + b < 2147483648) (hd : decode (gCode m) pc = .ok (.iadd, 1)) (k : Go D ca sc R m (pc + 1) ls (gI ((a + b : Nat) : Int) :: st) sh M rv sh' M') : Go D ca sc R m pc ls (gI y :: gI x :: st) sh M rv sh' M' := by
  subst hx; subst hy
  exact Go_iaddc (by omega) hd (by rw [← Int.natCast_add]; exact k)
theorem Go_isubn {x y : Int} (a b : Nat) (hx : x = (a : Int)) (hy : y = (b : Int)) (h : b ≤ a ∧ a < 2147483648) (hd : decode (gCode m) pc = .ok (.isub, 1)) (k : Go D ca sc R m (pc + 1) ls (gI ((a - b : Nat) : Int) :: st) sh M rv sh' M') : Go D ca sc R m pc ls (gI y :: gI x :: st) sh M rv sh' M' := by
  subst hx; subst hy
  exact Go_isubc (by omega) hd (by rw [← Int.ofNat_sub h.1]; exact k)
theorem Go_imuln {x y : Int} (a b : Nat) (hx : x = (a : Int)) (hy : y = (b : Int)) (h : a * b < 2147483648) (hd : decode (gCode m) pc = .ok (.imul, 1)) (k : Go D ca sc R m (pc + 1) ls (gI ((a * b : Nat) : Int) :: st) sh M rv sh' M') : Go D ca sc R m pc ls (gI y :: gI x :: st) sh M rv sh' M' := by
  subst hx; subst hy
  have e0 : ((a : Int) * (b : Int)) = ((a * b : Nat) : Int) := (Int.natCast_mul a b).symm
  exact Go_imulc (by rw [e0]; omega) hd (by rw [e0]; exact k)
theorem Go_iincn {x n : Int} {i : Nat} (a b : Nat) (hx : x = (a : Int)) (hn' : n = (b : Int)) (h : a + b < 2147483648) (k0 : Nat) (hk0 : ls[k0]? = some (i, gI x)) (hd : decode (gCode m) pc = .ok (.iinc i n, 3)) (hn : i < gNL m) (hl' : (i, gI ((a + b : Nat) : Int)) :: ls.filter (fun q => !(q.1 == i) && !(q.1 + 1 == i && q.2.1 == 1)) = ls') (k : Go D ca sc R m (pc + 3) ls' (st) sh M rv sh' M') : Go D ca sc R m pc ls (st) sh M rv sh' M' := by
  subst hx; subst hn'
  refine Go_iinc k0 hk0 hd hn ?_ k
  rw [w32_id (show in32 ((a : Int) + (b : Int)) by unfold in32; omega), ← Int.natCast_add]
  exact hl'
theorem Go_iincc {x n : Int} {i : Nat} (h : -2147483648 ≤ x + n ∧ x + n ≤ 2147483647) (k0 : Nat) (hk0 : ls[k0]? = some (i, gI x)) (hd : decode (gCode m) pc = .ok (.iinc i n, 3)) (hn : i < gNL m) (hl' : (i, gI (x + n)) :: ls.filter (fun q => !(q.1 == i) && !(q.1 + 1 == i && q.2.1 == 1)) = ls') (k : Go D ca sc R m (pc + 3) ls' (st) sh M rv sh' M') : Go D ca sc R m pc ls (st) sh M rv sh' M' := by
  refine Go_iinc k0 hk0 hd hn ?_ k
  rw [w32_id h]
  exact hl'
theorem Go_getIv {i ci j idx : Nat} {v : Int} (hv : M i j = v) (fa : gFa (gOwn m) idx ci j 0) (hk : sh[i]? = some (0, ci)) (hd : decode (gCode m) pc = .ok (.getfield idx, 3)) (k : Go D ca sc R m (pc + 3) ls (gI v :: st) sh M rv sh' M') : Go D ca sc R m pc ls (gR i :: st) sh M rv sh' M' := Go_getI fa hk hd (by rw [hv]; exact k)
theorem Go_getJv {i ci j idx : Nat} {v : Int} (hv : M i j = v) (fa : gFa (gOwn m) idx ci j 1) (hk : sh[i]? = some (0, ci)) (hd : decode (gCode m) pc = .ok (.getfield idx, 3)) (k : Go D ca sc R m (pc + 3) ls (gJ v :: st) sh M rv sh' M') : Go D ca sc R m pc ls (gR i :: st) sh M rv sh' M' := Go_getJ fa hk hd (by rw [hv]; exact k)
theorem Go_getZv {i ci j idx : Nat} {v : Int} (hv : M i j = v) (fa : gFa (gOwn m) idx ci j 3) (hk : sh[i]? = some (0, ci)) (hd : decode (gCode m) pc = .ok (.getfield idx, 3)) (k : Go D ca sc R m (pc + 3) ls (gI v :: st) sh M rv sh' M') : Go D ca sc R m pc ls (gR i :: st) sh M rv sh' M' := Go_getZ fa hk hd (by rw [hv]; exact k)
theorem Go_ialoadv {i n : Nat} {x v : Int} (j : Nat) (hv : M i j = v) (hk : sh[i]? = some (1, n)) (hj : x = (j : Int)) (hlt : j < n) (hd : decode (gCode m) pc = .ok (.iaload, 1)) (k : Go D ca sc R m (pc + 1) ls (gI v :: st) sh M rv sh' M') : Go D ca sc R m pc ls (gI x :: gR i :: st) sh M rv sh' M' := Go_iaload j hk hj hlt hd (by rw [hv]; exact k)
theorem Go_laloadv {i n : Nat} {x v : Int} (j : Nat) (hv : M i j = v) (hk : sh[i]? = some (2, n)) (hj : x = (j : Int)) (hlt : j < n) (hd : decode (gCode m) pc = .ok (.laload, 1)) (k : Go D ca sc R m (pc + 1) ls (gJ v :: st) sh M rv sh' M') : Go D ca sc R m pc ls (gI x :: gR i :: st) sh M rv sh' M' := Go_laload j hk hj hlt hd (by rw [hv]; exact k)
theorem Go_mmaxI {x y : Int} {idx : Nat} (cw : gCw (gOwn m) idx mJ9_max_7cf53 2) (hR : 1 ≤ R.frames ∧ gWd st + 13 ≤ R.locals) (hsh : sh.length ≤ sh'.length ∧ gSz sh ≤ gSz sh') (hd : decode (gCode m) pc = .ok (.invokestatic idx, 3)) (k : Go D ca sc R m (pc + 3) ls (gI (max x y) :: st) sh M rv sh' M') : Go D ca sc R m pc ls (gI y :: gI x :: st) sh M rv sh' M' := by
  intro p l e s mi args below meth c Q ad H locs cells slots A H0 lc hc hs hr1 hr2 hk0
  obtain ⟨hl, hlo, hso, hok, hP, hD, hS⟩ := hs
  have hts := hc.2.2.2.2.2.1
  have hy : in32 y := ok_h hso
  have hx : in32 x := ok_h (ok_t hso)
  have hw : ((st.map fun v => gVl ca ad v.1 v.2).map fun v => v.category).sum = gWd st := by
    rw [List.map_map]
    unfold gWd
    congr 1
    exact List.map_congr_left (fun v _ => cat_val ca ad v.1 v.2)
  have hmx : in32 (max x y) := by unfold in32 at *; omega
  have e0 : (if Int32.ofInt x < Int32.ofInt y then Int32.ofInt y else Int32.ofInt x) = Int32.ofInt (max x y) := by
    by_cases h : Int32.ofInt x < Int32.ofInt y
    · rw [if_pos h]
      have h2 := (lt32 hx hy).mp h
      congr 1
      omega
    · rw [if_neg h]
      have h2 : ¬ (x < y) := fun q => h ((lt32 hx hy).mpr q)
      congr 1
      omega
  have w := k p l e s mi args below meth c Q ad H locs cells slots A H0 lc hc ⟨hl, hlo, ok_c hmx (ok_t (ok_t hso)), hok, hP, hD, hS⟩ hr1 hr2 hk0
  refine va_mmax (x := Int32.ofInt x) (y := Int32.ofInt y) hc.1 hc.2.1 (by rw [hc.2.2.1]; exact hl.1.symm) hc.2.2.2.2.1 (hts _ cw.1) (hts _ smJ9_max_7cf53) (hts _ iniJ9) (hts _ cdJ9_max_7cf53) hR.1 (by rw [hw]; exact hR.2) (by omega) (by omega) hd ?_
  rw [e0]
  exact w
theorem Go_mminI {x y : Int} {idx : Nat} (cw : gCw (gOwn m) idx mJ9_min_7cf53 2) (hR : 1 ≤ R.frames ∧ gWd st + 13 ≤ R.locals) (hsh : sh.length ≤ sh'.length ∧ gSz sh ≤ gSz sh') (hd : decode (gCode m) pc = .ok (.invokestatic idx, 3)) (k : Go D ca sc R m (pc + 3) ls (gI (min x y) :: st) sh M rv sh' M') : Go D ca sc R m pc ls (gI y :: gI x :: st) sh M rv sh' M' := by
  intro p l e s mi args below meth c Q ad H locs cells slots A H0 lc hc hs hr1 hr2 hk0
  obtain ⟨hl, hlo, hso, hok, hP, hD, hS⟩ := hs
  have hts := hc.2.2.2.2.2.1
  have hy : in32 y := ok_h hso
  have hx : in32 x := ok_h (ok_t hso)
  have hw : ((st.map fun v => gVl ca ad v.1 v.2).map fun v => v.category).sum = gWd st := by
    rw [List.map_map]
    unfold gWd
    congr 1
    exact List.map_congr_left (fun v _ => cat_val ca ad v.1 v.2)
  have hmx : in32 (min x y) := by unfold in32 at *; omega
  have e0 : (if Int32.ofInt y < Int32.ofInt x then Int32.ofInt y else Int32.ofInt x) = Int32.ofInt (min x y) := by
    by_cases h : Int32.ofInt y < Int32.ofInt x
    · rw [if_pos h]
      have h2 := (lt32 hy hx).mp h
      congr 1
      omega
    · rw [if_neg h]
      have h2 : ¬ (y < x) := fun q => h ((lt32 hy hx).mpr q)
      congr 1
      omega
  have w := k p l e s mi args below meth c Q ad H locs cells slots A H0 lc hc ⟨hl, hlo, ok_c hmx (ok_t (ok_t hso)), hok, hP, hD, hS⟩ hr1 hr2 hk0
  refine va_mmin (x := Int32.ofInt x) (y := Int32.ofInt y) hc.1 hc.2.1 (by rw [hc.2.2.1]; exact hl.1.symm) hc.2.2.2.2.1 (hts _ cw.1) (hts _ smJ9_min_7cf53) (hts _ iniJ9) (hts _ cdJ9_min_7cf53) hR.1 (by rw [hw]; exact hR.2) (by omega) (by omega) hd ?_
  rw [e0]
  exact w
theorem Go_mmaxJ {x y : Int} {idx : Nat} (cw : gCw (gOwn m) idx mJ9_max_f86c9 2) (hR : 1 ≤ R.frames ∧ gWd st + 15 ≤ R.locals) (hsh : sh.length ≤ sh'.length ∧ gSz sh ≤ gSz sh') (hd : decode (gCode m) pc = .ok (.invokestatic idx, 3)) (k : Go D ca sc R m (pc + 3) ls (gJ (max x y) :: st) sh M rv sh' M') : Go D ca sc R m pc ls (gJ y :: gJ x :: st) sh M rv sh' M' := by
  intro p l e s mi args below meth c Q ad H locs cells slots A H0 lc hc hs hr1 hr2 hk0
  obtain ⟨hl, hlo, hso, hok, hP, hD, hS⟩ := hs
  have hts := hc.2.2.2.2.2.1
  have hy : in64 y := ok_h hso
  have hx : in64 x := ok_h (ok_t hso)
  have hw : ((st.map fun v => gVl ca ad v.1 v.2).map fun v => v.category).sum = gWd st := by
    rw [List.map_map]
    unfold gWd
    congr 1
    exact List.map_congr_left (fun v _ => cat_val ca ad v.1 v.2)
  have hmx : in64 (max x y) := by unfold in64 at *; omega
  have e0 : (if Int64.ofInt y < Int64.ofInt x then Int64.ofInt x else Int64.ofInt y) = Int64.ofInt (max x y) := by
    by_cases h : Int64.ofInt y < Int64.ofInt x
    · rw [if_pos h]
      have h2 := (lt64 hy hx).mp h
      congr 1
      omega
    · rw [if_neg h]
      have h2 : ¬ (y < x) := fun q => h ((lt64 hy hx).mpr q)
      congr 1
      omega
  have w := k p l e s mi args below meth c Q ad H locs cells slots A H0 lc hc ⟨hl, hlo, ok_c hmx (ok_t (ok_t hso)), hok, hP, hD, hS⟩ hr1 hr2 hk0
  refine va_mmax_long (x := Int64.ofInt x) (y := Int64.ofInt y) hc.1 hc.2.1 (by rw [hc.2.2.1]; exact hl.1.symm) hc.2.2.2.2.1 (hts _ cw.1) (hts _ smJ9_max_f86c9) (hts _ iniJ9) (hts _ cdJ9_max_f86c9) hR.1 (by rw [hw]; exact hR.2) (by omega) (by omega) hd ?_
  rw [e0]
  exact w
theorem Go_mminJ {x y : Int} {idx : Nat} (cw : gCw (gOwn m) idx mJ9_min_f86c9 2) (hR : 1 ≤ R.frames ∧ gWd st + 15 ≤ R.locals) (hsh : sh.length ≤ sh'.length ∧ gSz sh ≤ gSz sh') (hd : decode (gCode m) pc = .ok (.invokestatic idx, 3)) (k : Go D ca sc R m (pc + 3) ls (gJ (min x y) :: st) sh M rv sh' M') : Go D ca sc R m pc ls (gJ y :: gJ x :: st) sh M rv sh' M' := by
  intro p l e s mi args below meth c Q ad H locs cells slots A H0 lc hc hs hr1 hr2 hk0
  obtain ⟨hl, hlo, hso, hok, hP, hD, hS⟩ := hs
  have hts := hc.2.2.2.2.2.1
  have hy : in64 y := ok_h hso
  have hx : in64 x := ok_h (ok_t hso)
  have hw : ((st.map fun v => gVl ca ad v.1 v.2).map fun v => v.category).sum = gWd st := by
    rw [List.map_map]
    unfold gWd
    congr 1
    exact List.map_congr_left (fun v _ => cat_val ca ad v.1 v.2)
  have hmx : in64 (min x y) := by unfold in64 at *; omega
  have e0 : (if Int64.ofInt y < Int64.ofInt x then Int64.ofInt y else Int64.ofInt x) = Int64.ofInt (min x y) := by
    by_cases h : Int64.ofInt y < Int64.ofInt x
    · rw [if_pos h]
      have h2 := (lt64 hy hx).mp h
      congr 1
      omega
    · rw [if_neg h]
      have h2 : ¬ (y < x) := fun q => h ((lt64 hy hx).mpr q)
      congr 1
      omega
  have w := k p l e s mi args below meth c Q ad H locs cells slots A H0 lc hc ⟨hl, hlo, ok_c hmx (ok_t (ok_t hso)), hok, hP, hD, hS⟩ hr1 hr2 hk0
  refine va_mmin_long (x := Int64.ofInt x) (y := Int64.ofInt y) hc.1 hc.2.1 (by rw [hc.2.2.1]; exact hl.1.symm) hc.2.2.2.2.1 (hts _ cw.1) (hts _ smJ9_min_f86c9) (hts _ iniJ9) (hts _ cdJ9_min_f86c9) hR.1 (by rw [hw]; exact hR.2) (by omega) (by omega) hd ?_
  rw [e0]
  exact w
end GV
def SH : gShp := [(0, 8), (0, 6), (1, 12), (1, 144), (1, 10), (1, 10), (1, 10), (1, 10), (0, 2), (3, 11), (0, 6), (1, 12), (1, 144), (1, 10), (1, 10), (1, 10), (1, 10), (0, 6), (1, 12), (1, 144), (1, 10), (1, 10), (1, 10), (1, 10), (0, 6), (1, 12), (1, 144), (1, 10), (1, 10), (1, 10), (1, 10), (0, 6), (1, 12), (1, 144), (1, 10), (1, 10), (1, 10), (1, 10), (0, 6), (1, 12), (1, 144), (1, 10), (1, 10), (1, 10), (1, 10), (0, 6), (1, 12), (1, 144), (1, 10), (1, 10), (1, 10), (1, 10), (0, 6), (1, 12), (1, 144), (1, 10), (1, 10), (1, 10), (1, 10), (0, 6), (1, 12), (1, 144), (1, 10), (1, 10), (1, 10), (1, 10), (0, 6), (1, 12), (1, 144), (1, 10), (1, 10), (1, 10), (1, 10), (0, 6), (1, 12), (1, 144), (1, 10), (1, 10), (1, 10), (1, 10), (0, 6), (1, 12), (1, 144), (1, 10), (1, 10), (1, 10), (1, 10), (4, 4), (0, 7), (1, 144), (0, 3), (1, 120), (0, 5), (2, 10), (0, 0), (0, 4), (2, 12), (2, 1024), (0, 1), (2, 60), (0, 1), (2, 60), (0, 1), (2, 60), (0, 1), (2, 60), (0, 9), (1, 12), (2, 12), (1, 144), (1, 10), (1, 10), (1, 10), (1, 10), (1, 4), (1, 4), (2, 240), (1, 10), (1, 120), (1, 1440), (1, 10), (1, 100), (1, 10), (1, 144), (1, 144), (2, 10)]
theorem sh_0 : SH[0]? = some (0, 8) := rfl
theorem sh_1 : SH[1]? = some (0, 6) := rfl
theorem sh_2 : SH[2]? = some (1, 12) := rfl
theorem sh_3 : SH[3]? = some (1, 144) := rfl
theorem sh_4 : SH[4]? = some (1, 10) := rfl
theorem sh_5 : SH[5]? = some (1, 10) := rfl
theorem sh_6 : SH[6]? = some (1, 10) := rfl
theorem sh_7 : SH[7]? = some (1, 10) := rfl
theorem sh_8 : SH[8]? = some (0, 2) := rfl
theorem sh_9 : SH[9]? = some (3, 11) := rfl
theorem sh_10 : SH[10]? = some (0, 6) := rfl
theorem sh_11 : SH[11]? = some (1, 12) := rfl
theorem sh_12 : SH[12]? = some (1, 144) := rfl
theorem sh_13 : SH[13]? = some (1, 10) := rfl
theorem sh_14 : SH[14]? = some (1, 10) := rfl
theorem sh_15 : SH[15]? = some (1, 10) := rfl
theorem sh_16 : SH[16]? = some (1, 10) := rfl
theorem sh_17 : SH[17]? = some (0, 6) := rfl
theorem sh_18 : SH[18]? = some (1, 12) := rfl
theorem sh_19 : SH[19]? = some (1, 144) := rfl
theorem sh_20 : SH[20]? = some (1, 10) := rfl
theorem sh_21 : SH[21]? = some (1, 10) := rfl
theorem sh_22 : SH[22]? = some (1, 10) := rfl
theorem sh_23 : SH[23]? = some (1, 10) := rfl
theorem sh_24 : SH[24]? = some (0, 6) := rfl
theorem sh_25 : SH[25]? = some (1, 12) := rfl
theorem sh_26 : SH[26]? = some (1, 144) := rfl
theorem sh_27 : SH[27]? = some (1, 10) := rfl
theorem sh_28 : SH[28]? = some (1, 10) := rfl
theorem sh_29 : SH[29]? = some (1, 10) := rfl
theorem sh_30 : SH[30]? = some (1, 10) := rfl
theorem sh_31 : SH[31]? = some (0, 6) := rfl
theorem sh_32 : SH[32]? = some (1, 12) := rfl
theorem sh_33 : SH[33]? = some (1, 144) := rfl
theorem sh_34 : SH[34]? = some (1, 10) := rfl
theorem sh_35 : SH[35]? = some (1, 10) := rfl
theorem sh_36 : SH[36]? = some (1, 10) := rfl
theorem sh_37 : SH[37]? = some (1, 10) := rfl
theorem sh_38 : SH[38]? = some (0, 6) := rfl
theorem sh_39 : SH[39]? = some (1, 12) := rfl
theorem sh_40 : SH[40]? = some (1, 144) := rfl
theorem sh_41 : SH[41]? = some (1, 10) := rfl
theorem sh_42 : SH[42]? = some (1, 10) := rfl
theorem sh_43 : SH[43]? = some (1, 10) := rfl
theorem sh_44 : SH[44]? = some (1, 10) := rfl
theorem sh_45 : SH[45]? = some (0, 6) := rfl
theorem sh_46 : SH[46]? = some (1, 12) := rfl
theorem sh_47 : SH[47]? = some (1, 144) := rfl
theorem sh_48 : SH[48]? = some (1, 10) := rfl
theorem sh_49 : SH[49]? = some (1, 10) := rfl
theorem sh_50 : SH[50]? = some (1, 10) := rfl
theorem sh_51 : SH[51]? = some (1, 10) := rfl
theorem sh_52 : SH[52]? = some (0, 6) := rfl
theorem sh_53 : SH[53]? = some (1, 12) := rfl
theorem sh_54 : SH[54]? = some (1, 144) := rfl
theorem sh_55 : SH[55]? = some (1, 10) := rfl
theorem sh_56 : SH[56]? = some (1, 10) := rfl
theorem sh_57 : SH[57]? = some (1, 10) := rfl
theorem sh_58 : SH[58]? = some (1, 10) := rfl
theorem sh_59 : SH[59]? = some (0, 6) := rfl
theorem sh_60 : SH[60]? = some (1, 12) := rfl
theorem sh_61 : SH[61]? = some (1, 144) := rfl
theorem sh_62 : SH[62]? = some (1, 10) := rfl
theorem sh_63 : SH[63]? = some (1, 10) := rfl
theorem sh_64 : SH[64]? = some (1, 10) := rfl
theorem sh_65 : SH[65]? = some (1, 10) := rfl
theorem sh_66 : SH[66]? = some (0, 6) := rfl
theorem sh_67 : SH[67]? = some (1, 12) := rfl
theorem sh_68 : SH[68]? = some (1, 144) := rfl
theorem sh_69 : SH[69]? = some (1, 10) := rfl
theorem sh_70 : SH[70]? = some (1, 10) := rfl
theorem sh_71 : SH[71]? = some (1, 10) := rfl
theorem sh_72 : SH[72]? = some (1, 10) := rfl
theorem sh_73 : SH[73]? = some (0, 6) := rfl
theorem sh_74 : SH[74]? = some (1, 12) := rfl
theorem sh_75 : SH[75]? = some (1, 144) := rfl
theorem sh_76 : SH[76]? = some (1, 10) := rfl
theorem sh_77 : SH[77]? = some (1, 10) := rfl
theorem sh_78 : SH[78]? = some (1, 10) := rfl
theorem sh_79 : SH[79]? = some (1, 10) := rfl
theorem sh_80 : SH[80]? = some (0, 6) := rfl
theorem sh_81 : SH[81]? = some (1, 12) := rfl
theorem sh_82 : SH[82]? = some (1, 144) := rfl
theorem sh_83 : SH[83]? = some (1, 10) := rfl
theorem sh_84 : SH[84]? = some (1, 10) := rfl
theorem sh_85 : SH[85]? = some (1, 10) := rfl
theorem sh_86 : SH[86]? = some (1, 10) := rfl
theorem sh_87 : SH[87]? = some (4, 4) := rfl
theorem sh_88 : SH[88]? = some (0, 7) := rfl
theorem sh_89 : SH[89]? = some (1, 144) := rfl
theorem sh_90 : SH[90]? = some (0, 3) := rfl
theorem sh_91 : SH[91]? = some (1, 120) := rfl
theorem sh_92 : SH[92]? = some (0, 5) := rfl
theorem sh_93 : SH[93]? = some (2, 10) := rfl
theorem sh_94 : SH[94]? = some (0, 0) := rfl
theorem sh_95 : SH[95]? = some (0, 4) := rfl
theorem sh_96 : SH[96]? = some (2, 12) := rfl
theorem sh_97 : SH[97]? = some (2, 1024) := rfl
theorem sh_98 : SH[98]? = some (0, 1) := rfl
theorem sh_99 : SH[99]? = some (2, 60) := rfl
theorem sh_100 : SH[100]? = some (0, 1) := rfl
theorem sh_101 : SH[101]? = some (2, 60) := rfl
theorem sh_102 : SH[102]? = some (0, 1) := rfl
theorem sh_103 : SH[103]? = some (2, 60) := rfl
theorem sh_104 : SH[104]? = some (0, 1) := rfl
theorem sh_105 : SH[105]? = some (2, 60) := rfl
theorem sh_106 : SH[106]? = some (0, 9) := rfl
theorem sh_107 : SH[107]? = some (1, 12) := rfl
theorem sh_108 : SH[108]? = some (2, 12) := rfl
theorem sh_109 : SH[109]? = some (1, 144) := rfl
theorem sh_110 : SH[110]? = some (1, 10) := rfl
theorem sh_111 : SH[111]? = some (1, 10) := rfl
theorem sh_112 : SH[112]? = some (1, 10) := rfl
theorem sh_113 : SH[113]? = some (1, 10) := rfl
theorem sh_114 : SH[114]? = some (1, 4) := rfl
theorem sh_115 : SH[115]? = some (1, 4) := rfl
theorem sh_116 : SH[116]? = some (2, 240) := rfl
theorem sh_117 : SH[117]? = some (1, 10) := rfl
theorem sh_118 : SH[118]? = some (1, 120) := rfl
theorem sh_119 : SH[119]? = some (1, 1440) := rfl
theorem sh_120 : SH[120]? = some (1, 10) := rfl
theorem sh_121 : SH[121]? = some (1, 100) := rfl
theorem sh_122 : SH[122]? = some (1, 10) := rfl
theorem sh_123 : SH[123]? = some (1, 144) := rfl
theorem sh_124 : SH[124]? = some (1, 144) := rfl
theorem sh_125 : SH[125]? = some (2, 10) := rfl
def gPt : List (Nat × Nat × Nat) := [(1, 3, 2), (1, 4, 3), (1, 5, 4), (1, 6, 5), (1, 7, 6), (1, 8, 7), (0, 0, 1), (8, 0, 9), (10, 3, 11), (10, 4, 12), (10, 5, 13), (10, 6, 14), (10, 7, 15), (10, 8, 16), (9, 0, 10), (17, 3, 18), (17, 4, 19), (17, 5, 20), (17, 6, 21), (17, 7, 22), (17, 8, 23), (9, 1, 17), (24, 3, 25), (24, 4, 26), (24, 5, 27), (24, 6, 28), (24, 7, 29), (24, 8, 30), (9, 2, 24), (31, 3, 32), (31, 4, 33), (31, 5, 34), (31, 6, 35), (31, 7, 36), (31, 8, 37), (9, 3, 31), (38, 3, 39), (38, 4, 40), (38, 5, 41), (38, 6, 42), (38, 7, 43), (38, 8, 44), (9, 4, 38), (45, 3, 46), (45, 4, 47), (45, 5, 48), (45, 6, 49), (45, 7, 50), (45, 8, 51), (9, 5, 45), (52, 3, 53), (52, 4, 54), (52, 5, 55), (52, 6, 56), (52, 7, 57), (52, 8, 58), (9, 6, 52), (59, 3, 60), (59, 4, 61), (59, 5, 62), (59, 6, 63), (59, 7, 64), (59, 8, 65), (9, 7, 59), (66, 3, 67), (66, 4, 68), (66, 5, 69), (66, 6, 70), (66, 7, 71), (66, 8, 72), (9, 8, 66), (73, 3, 74), (73, 4, 75), (73, 5, 76), (73, 6, 77), (73, 7, 78), (73, 8, 79), (9, 9, 73), (80, 3, 81), (80, 4, 82), (80, 5, 83), (80, 6, 84), (80, 7, 85), (80, 8, 86), (9, 10, 80), (0, 1, 8), (0, 2, 87), (88, 0, 89), (0, 3, 88), (90, 1, 91), (90, 0, 1), (0, 4, 90), (92, 9, 93), (0, 5, 92), (94, 0, 90), (0, 6, 94), (95, 2, 96), (95, 3, 97), (95, 0, 1), (95, 1, 90), (0, 7, 95), (98, 2, 99), (87, 0, 98), (100, 2, 101), (87, 1, 100), (102, 2, 103), (87, 2, 102), (104, 2, 105), (87, 3, 104), (106, 1, 107), (106, 2, 108), (106, 3, 109), (106, 5, 110), (106, 6, 111), (106, 7, 112), (106, 8, 113), (106, 10, 114), (106, 11, 115), (106, 12, 116), (106, 14, 117), (106, 15, 118), (106, 16, 119), (106, 17, 120), (106, 18, 121), (106, 19, 122), (106, 20, 123), (106, 21, 124), (106, 35, 125)]
/-- where the fields point that never change -/
def gPtr (M : gMem) : Prop := ∀ q ∈ gPt, M q.1 q.2.1 = (q.2.2 : Int) + 1
theorem gPtr_at {M : gMem} (h : gPtr M) (i : Nat) {a b c : Nat} (hi : gPt[i]? = some (a, b, c)) : M a b = (c : Int) + 1 := h (a, b, c) (List.mem_of_getElem? hi)
theorem pt_1_3 {M : gMem} (h : gPtr M) : M 1 3 = ((2 : Nat) : Int) + 1 := gPtr_at h 0 rfl
theorem pt_1_4 {M : gMem} (h : gPtr M) : M 1 4 = ((3 : Nat) : Int) + 1 := gPtr_at h 1 rfl
theorem pt_1_5 {M : gMem} (h : gPtr M) : M 1 5 = ((4 : Nat) : Int) + 1 := gPtr_at h 2 rfl
theorem pt_1_6 {M : gMem} (h : gPtr M) : M 1 6 = ((5 : Nat) : Int) + 1 := gPtr_at h 3 rfl
theorem pt_1_7 {M : gMem} (h : gPtr M) : M 1 7 = ((6 : Nat) : Int) + 1 := gPtr_at h 4 rfl
theorem pt_1_8 {M : gMem} (h : gPtr M) : M 1 8 = ((7 : Nat) : Int) + 1 := gPtr_at h 5 rfl
theorem pt_0_0 {M : gMem} (h : gPtr M) : M 0 0 = ((1 : Nat) : Int) + 1 := gPtr_at h 6 rfl
theorem pt_8_0 {M : gMem} (h : gPtr M) : M 8 0 = ((9 : Nat) : Int) + 1 := gPtr_at h 7 rfl
theorem pt_10_3 {M : gMem} (h : gPtr M) : M 10 3 = ((11 : Nat) : Int) + 1 := gPtr_at h 8 rfl
theorem pt_10_4 {M : gMem} (h : gPtr M) : M 10 4 = ((12 : Nat) : Int) + 1 := gPtr_at h 9 rfl
theorem pt_10_5 {M : gMem} (h : gPtr M) : M 10 5 = ((13 : Nat) : Int) + 1 := gPtr_at h 10 rfl
theorem pt_10_6 {M : gMem} (h : gPtr M) : M 10 6 = ((14 : Nat) : Int) + 1 := gPtr_at h 11 rfl
theorem pt_10_7 {M : gMem} (h : gPtr M) : M 10 7 = ((15 : Nat) : Int) + 1 := gPtr_at h 12 rfl
theorem pt_10_8 {M : gMem} (h : gPtr M) : M 10 8 = ((16 : Nat) : Int) + 1 := gPtr_at h 13 rfl
theorem pt_9_0 {M : gMem} (h : gPtr M) : M 9 0 = ((10 : Nat) : Int) + 1 := gPtr_at h 14 rfl
theorem pt_17_3 {M : gMem} (h : gPtr M) : M 17 3 = ((18 : Nat) : Int) + 1 := gPtr_at h 15 rfl
theorem pt_17_4 {M : gMem} (h : gPtr M) : M 17 4 = ((19 : Nat) : Int) + 1 := gPtr_at h 16 rfl
theorem pt_17_5 {M : gMem} (h : gPtr M) : M 17 5 = ((20 : Nat) : Int) + 1 := gPtr_at h 17 rfl
theorem pt_17_6 {M : gMem} (h : gPtr M) : M 17 6 = ((21 : Nat) : Int) + 1 := gPtr_at h 18 rfl
theorem pt_17_7 {M : gMem} (h : gPtr M) : M 17 7 = ((22 : Nat) : Int) + 1 := gPtr_at h 19 rfl
theorem pt_17_8 {M : gMem} (h : gPtr M) : M 17 8 = ((23 : Nat) : Int) + 1 := gPtr_at h 20 rfl
theorem pt_9_1 {M : gMem} (h : gPtr M) : M 9 1 = ((17 : Nat) : Int) + 1 := gPtr_at h 21 rfl
theorem pt_24_3 {M : gMem} (h : gPtr M) : M 24 3 = ((25 : Nat) : Int) + 1 := gPtr_at h 22 rfl
theorem pt_24_4 {M : gMem} (h : gPtr M) : M 24 4 = ((26 : Nat) : Int) + 1 := gPtr_at h 23 rfl
theorem pt_24_5 {M : gMem} (h : gPtr M) : M 24 5 = ((27 : Nat) : Int) + 1 := gPtr_at h 24 rfl
theorem pt_24_6 {M : gMem} (h : gPtr M) : M 24 6 = ((28 : Nat) : Int) + 1 := gPtr_at h 25 rfl
theorem pt_24_7 {M : gMem} (h : gPtr M) : M 24 7 = ((29 : Nat) : Int) + 1 := gPtr_at h 26 rfl
theorem pt_24_8 {M : gMem} (h : gPtr M) : M 24 8 = ((30 : Nat) : Int) + 1 := gPtr_at h 27 rfl
theorem pt_9_2 {M : gMem} (h : gPtr M) : M 9 2 = ((24 : Nat) : Int) + 1 := gPtr_at h 28 rfl
theorem pt_31_3 {M : gMem} (h : gPtr M) : M 31 3 = ((32 : Nat) : Int) + 1 := gPtr_at h 29 rfl
theorem pt_31_4 {M : gMem} (h : gPtr M) : M 31 4 = ((33 : Nat) : Int) + 1 := gPtr_at h 30 rfl
theorem pt_31_5 {M : gMem} (h : gPtr M) : M 31 5 = ((34 : Nat) : Int) + 1 := gPtr_at h 31 rfl
theorem pt_31_6 {M : gMem} (h : gPtr M) : M 31 6 = ((35 : Nat) : Int) + 1 := gPtr_at h 32 rfl
theorem pt_31_7 {M : gMem} (h : gPtr M) : M 31 7 = ((36 : Nat) : Int) + 1 := gPtr_at h 33 rfl
theorem pt_31_8 {M : gMem} (h : gPtr M) : M 31 8 = ((37 : Nat) : Int) + 1 := gPtr_at h 34 rfl
theorem pt_9_3 {M : gMem} (h : gPtr M) : M 9 3 = ((31 : Nat) : Int) + 1 := gPtr_at h 35 rfl
theorem pt_38_3 {M : gMem} (h : gPtr M) : M 38 3 = ((39 : Nat) : Int) + 1 := gPtr_at h 36 rfl
theorem pt_38_4 {M : gMem} (h : gPtr M) : M 38 4 = ((40 : Nat) : Int) + 1 := gPtr_at h 37 rfl
theorem pt_38_5 {M : gMem} (h : gPtr M) : M 38 5 = ((41 : Nat) : Int) + 1 := gPtr_at h 38 rfl
theorem pt_38_6 {M : gMem} (h : gPtr M) : M 38 6 = ((42 : Nat) : Int) + 1 := gPtr_at h 39 rfl
theorem pt_38_7 {M : gMem} (h : gPtr M) : M 38 7 = ((43 : Nat) : Int) + 1 := gPtr_at h 40 rfl
theorem pt_38_8 {M : gMem} (h : gPtr M) : M 38 8 = ((44 : Nat) : Int) + 1 := gPtr_at h 41 rfl
theorem pt_9_4 {M : gMem} (h : gPtr M) : M 9 4 = ((38 : Nat) : Int) + 1 := gPtr_at h 42 rfl
theorem pt_45_3 {M : gMem} (h : gPtr M) : M 45 3 = ((46 : Nat) : Int) + 1 := gPtr_at h 43 rfl
theorem pt_45_4 {M : gMem} (h : gPtr M) : M 45 4 = ((47 : Nat) : Int) + 1 := gPtr_at h 44 rfl
theorem pt_45_5 {M : gMem} (h : gPtr M) : M 45 5 = ((48 : Nat) : Int) + 1 := gPtr_at h 45 rfl
theorem pt_45_6 {M : gMem} (h : gPtr M) : M 45 6 = ((49 : Nat) : Int) + 1 := gPtr_at h 46 rfl
theorem pt_45_7 {M : gMem} (h : gPtr M) : M 45 7 = ((50 : Nat) : Int) + 1 := gPtr_at h 47 rfl
theorem pt_45_8 {M : gMem} (h : gPtr M) : M 45 8 = ((51 : Nat) : Int) + 1 := gPtr_at h 48 rfl
theorem pt_9_5 {M : gMem} (h : gPtr M) : M 9 5 = ((45 : Nat) : Int) + 1 := gPtr_at h 49 rfl
theorem pt_52_3 {M : gMem} (h : gPtr M) : M 52 3 = ((53 : Nat) : Int) + 1 := gPtr_at h 50 rfl
theorem pt_52_4 {M : gMem} (h : gPtr M) : M 52 4 = ((54 : Nat) : Int) + 1 := gPtr_at h 51 rfl
theorem pt_52_5 {M : gMem} (h : gPtr M) : M 52 5 = ((55 : Nat) : Int) + 1 := gPtr_at h 52 rfl
theorem pt_52_6 {M : gMem} (h : gPtr M) : M 52 6 = ((56 : Nat) : Int) + 1 := gPtr_at h 53 rfl
theorem pt_52_7 {M : gMem} (h : gPtr M) : M 52 7 = ((57 : Nat) : Int) + 1 := gPtr_at h 54 rfl
theorem pt_52_8 {M : gMem} (h : gPtr M) : M 52 8 = ((58 : Nat) : Int) + 1 := gPtr_at h 55 rfl
theorem pt_9_6 {M : gMem} (h : gPtr M) : M 9 6 = ((52 : Nat) : Int) + 1 := gPtr_at h 56 rfl
theorem pt_59_3 {M : gMem} (h : gPtr M) : M 59 3 = ((60 : Nat) : Int) + 1 := gPtr_at h 57 rfl
theorem pt_59_4 {M : gMem} (h : gPtr M) : M 59 4 = ((61 : Nat) : Int) + 1 := gPtr_at h 58 rfl
theorem pt_59_5 {M : gMem} (h : gPtr M) : M 59 5 = ((62 : Nat) : Int) + 1 := gPtr_at h 59 rfl
theorem pt_59_6 {M : gMem} (h : gPtr M) : M 59 6 = ((63 : Nat) : Int) + 1 := gPtr_at h 60 rfl
theorem pt_59_7 {M : gMem} (h : gPtr M) : M 59 7 = ((64 : Nat) : Int) + 1 := gPtr_at h 61 rfl
theorem pt_59_8 {M : gMem} (h : gPtr M) : M 59 8 = ((65 : Nat) : Int) + 1 := gPtr_at h 62 rfl
theorem pt_9_7 {M : gMem} (h : gPtr M) : M 9 7 = ((59 : Nat) : Int) + 1 := gPtr_at h 63 rfl
theorem pt_66_3 {M : gMem} (h : gPtr M) : M 66 3 = ((67 : Nat) : Int) + 1 := gPtr_at h 64 rfl
theorem pt_66_4 {M : gMem} (h : gPtr M) : M 66 4 = ((68 : Nat) : Int) + 1 := gPtr_at h 65 rfl
theorem pt_66_5 {M : gMem} (h : gPtr M) : M 66 5 = ((69 : Nat) : Int) + 1 := gPtr_at h 66 rfl
theorem pt_66_6 {M : gMem} (h : gPtr M) : M 66 6 = ((70 : Nat) : Int) + 1 := gPtr_at h 67 rfl
theorem pt_66_7 {M : gMem} (h : gPtr M) : M 66 7 = ((71 : Nat) : Int) + 1 := gPtr_at h 68 rfl
theorem pt_66_8 {M : gMem} (h : gPtr M) : M 66 8 = ((72 : Nat) : Int) + 1 := gPtr_at h 69 rfl
theorem pt_9_8 {M : gMem} (h : gPtr M) : M 9 8 = ((66 : Nat) : Int) + 1 := gPtr_at h 70 rfl
theorem pt_73_3 {M : gMem} (h : gPtr M) : M 73 3 = ((74 : Nat) : Int) + 1 := gPtr_at h 71 rfl
theorem pt_73_4 {M : gMem} (h : gPtr M) : M 73 4 = ((75 : Nat) : Int) + 1 := gPtr_at h 72 rfl
theorem pt_73_5 {M : gMem} (h : gPtr M) : M 73 5 = ((76 : Nat) : Int) + 1 := gPtr_at h 73 rfl
theorem pt_73_6 {M : gMem} (h : gPtr M) : M 73 6 = ((77 : Nat) : Int) + 1 := gPtr_at h 74 rfl
theorem pt_73_7 {M : gMem} (h : gPtr M) : M 73 7 = ((78 : Nat) : Int) + 1 := gPtr_at h 75 rfl
theorem pt_73_8 {M : gMem} (h : gPtr M) : M 73 8 = ((79 : Nat) : Int) + 1 := gPtr_at h 76 rfl
theorem pt_9_9 {M : gMem} (h : gPtr M) : M 9 9 = ((73 : Nat) : Int) + 1 := gPtr_at h 77 rfl
theorem pt_80_3 {M : gMem} (h : gPtr M) : M 80 3 = ((81 : Nat) : Int) + 1 := gPtr_at h 78 rfl
theorem pt_80_4 {M : gMem} (h : gPtr M) : M 80 4 = ((82 : Nat) : Int) + 1 := gPtr_at h 79 rfl
theorem pt_80_5 {M : gMem} (h : gPtr M) : M 80 5 = ((83 : Nat) : Int) + 1 := gPtr_at h 80 rfl
theorem pt_80_6 {M : gMem} (h : gPtr M) : M 80 6 = ((84 : Nat) : Int) + 1 := gPtr_at h 81 rfl
theorem pt_80_7 {M : gMem} (h : gPtr M) : M 80 7 = ((85 : Nat) : Int) + 1 := gPtr_at h 82 rfl
theorem pt_80_8 {M : gMem} (h : gPtr M) : M 80 8 = ((86 : Nat) : Int) + 1 := gPtr_at h 83 rfl
theorem pt_9_10 {M : gMem} (h : gPtr M) : M 9 10 = ((80 : Nat) : Int) + 1 := gPtr_at h 84 rfl
theorem pt_0_1 {M : gMem} (h : gPtr M) : M 0 1 = ((8 : Nat) : Int) + 1 := gPtr_at h 85 rfl
theorem pt_0_2 {M : gMem} (h : gPtr M) : M 0 2 = ((87 : Nat) : Int) + 1 := gPtr_at h 86 rfl
theorem pt_88_0 {M : gMem} (h : gPtr M) : M 88 0 = ((89 : Nat) : Int) + 1 := gPtr_at h 87 rfl
theorem pt_0_3 {M : gMem} (h : gPtr M) : M 0 3 = ((88 : Nat) : Int) + 1 := gPtr_at h 88 rfl
theorem pt_90_1 {M : gMem} (h : gPtr M) : M 90 1 = ((91 : Nat) : Int) + 1 := gPtr_at h 89 rfl
theorem pt_90_0 {M : gMem} (h : gPtr M) : M 90 0 = ((1 : Nat) : Int) + 1 := gPtr_at h 90 rfl
theorem pt_0_4 {M : gMem} (h : gPtr M) : M 0 4 = ((90 : Nat) : Int) + 1 := gPtr_at h 91 rfl
theorem pt_92_9 {M : gMem} (h : gPtr M) : M 92 9 = ((93 : Nat) : Int) + 1 := gPtr_at h 92 rfl
theorem pt_0_5 {M : gMem} (h : gPtr M) : M 0 5 = ((92 : Nat) : Int) + 1 := gPtr_at h 93 rfl
theorem pt_94_0 {M : gMem} (h : gPtr M) : M 94 0 = ((90 : Nat) : Int) + 1 := gPtr_at h 94 rfl
theorem pt_0_6 {M : gMem} (h : gPtr M) : M 0 6 = ((94 : Nat) : Int) + 1 := gPtr_at h 95 rfl
theorem pt_95_2 {M : gMem} (h : gPtr M) : M 95 2 = ((96 : Nat) : Int) + 1 := gPtr_at h 96 rfl
theorem pt_95_3 {M : gMem} (h : gPtr M) : M 95 3 = ((97 : Nat) : Int) + 1 := gPtr_at h 97 rfl
theorem pt_95_0 {M : gMem} (h : gPtr M) : M 95 0 = ((1 : Nat) : Int) + 1 := gPtr_at h 98 rfl
theorem pt_95_1 {M : gMem} (h : gPtr M) : M 95 1 = ((90 : Nat) : Int) + 1 := gPtr_at h 99 rfl
theorem pt_0_7 {M : gMem} (h : gPtr M) : M 0 7 = ((95 : Nat) : Int) + 1 := gPtr_at h 100 rfl
theorem pt_98_2 {M : gMem} (h : gPtr M) : M 98 2 = ((99 : Nat) : Int) + 1 := gPtr_at h 101 rfl
theorem pt_87_0 {M : gMem} (h : gPtr M) : M 87 0 = ((98 : Nat) : Int) + 1 := gPtr_at h 102 rfl
theorem pt_100_2 {M : gMem} (h : gPtr M) : M 100 2 = ((101 : Nat) : Int) + 1 := gPtr_at h 103 rfl
theorem pt_87_1 {M : gMem} (h : gPtr M) : M 87 1 = ((100 : Nat) : Int) + 1 := gPtr_at h 104 rfl
theorem pt_102_2 {M : gMem} (h : gPtr M) : M 102 2 = ((103 : Nat) : Int) + 1 := gPtr_at h 105 rfl
theorem pt_87_2 {M : gMem} (h : gPtr M) : M 87 2 = ((102 : Nat) : Int) + 1 := gPtr_at h 106 rfl
theorem pt_104_2 {M : gMem} (h : gPtr M) : M 104 2 = ((105 : Nat) : Int) + 1 := gPtr_at h 107 rfl
theorem pt_87_3 {M : gMem} (h : gPtr M) : M 87 3 = ((104 : Nat) : Int) + 1 := gPtr_at h 108 rfl
theorem pt_106_1 {M : gMem} (h : gPtr M) : M 106 1 = ((107 : Nat) : Int) + 1 := gPtr_at h 109 rfl
theorem pt_106_2 {M : gMem} (h : gPtr M) : M 106 2 = ((108 : Nat) : Int) + 1 := gPtr_at h 110 rfl
theorem pt_106_3 {M : gMem} (h : gPtr M) : M 106 3 = ((109 : Nat) : Int) + 1 := gPtr_at h 111 rfl
theorem pt_106_5 {M : gMem} (h : gPtr M) : M 106 5 = ((110 : Nat) : Int) + 1 := gPtr_at h 112 rfl
theorem pt_106_6 {M : gMem} (h : gPtr M) : M 106 6 = ((111 : Nat) : Int) + 1 := gPtr_at h 113 rfl
theorem pt_106_7 {M : gMem} (h : gPtr M) : M 106 7 = ((112 : Nat) : Int) + 1 := gPtr_at h 114 rfl
theorem pt_106_8 {M : gMem} (h : gPtr M) : M 106 8 = ((113 : Nat) : Int) + 1 := gPtr_at h 115 rfl
theorem pt_106_10 {M : gMem} (h : gPtr M) : M 106 10 = ((114 : Nat) : Int) + 1 := gPtr_at h 116 rfl
theorem pt_106_11 {M : gMem} (h : gPtr M) : M 106 11 = ((115 : Nat) : Int) + 1 := gPtr_at h 117 rfl
theorem pt_106_12 {M : gMem} (h : gPtr M) : M 106 12 = ((116 : Nat) : Int) + 1 := gPtr_at h 118 rfl
theorem pt_106_14 {M : gMem} (h : gPtr M) : M 106 14 = ((117 : Nat) : Int) + 1 := gPtr_at h 119 rfl
theorem pt_106_15 {M : gMem} (h : gPtr M) : M 106 15 = ((118 : Nat) : Int) + 1 := gPtr_at h 120 rfl
theorem pt_106_16 {M : gMem} (h : gPtr M) : M 106 16 = ((119 : Nat) : Int) + 1 := gPtr_at h 121 rfl
theorem pt_106_17 {M : gMem} (h : gPtr M) : M 106 17 = ((120 : Nat) : Int) + 1 := gPtr_at h 122 rfl
theorem pt_106_18 {M : gMem} (h : gPtr M) : M 106 18 = ((121 : Nat) : Int) + 1 := gPtr_at h 123 rfl
theorem pt_106_19 {M : gMem} (h : gPtr M) : M 106 19 = ((122 : Nat) : Int) + 1 := gPtr_at h 124 rfl
theorem pt_106_20 {M : gMem} (h : gPtr M) : M 106 20 = ((123 : Nat) : Int) + 1 := gPtr_at h 125 rfl
theorem pt_106_21 {M : gMem} (h : gPtr M) : M 106 21 = ((124 : Nat) : Int) + 1 := gPtr_at h 126 rfl
theorem pt_106_35 {M : gMem} (h : gPtr M) : M 106 35 = ((125 : Nat) : Int) + 1 := gPtr_at h 127 rfl
theorem gPtr_set {M : gMem} {i : Nat} {r : Nat → Int} (h : gPtr M) (hi : ∀ q ∈ gPt, q.1 = i → r q.2.1 = M i q.2.1) : gPtr (gSet M i r) := by
  intro q hq
  by_cases e : q.1 = i
  · show gSet M i r q.1 q.2.1 = _
    have e2 := hi q hq e
    rw [e, gSet_s, e2, ← e]
    exact h q hq
  · rw [gSet_n e]
    exact h q hq
/-- a cell without such fields -/
theorem gPtr_row {M : gMem} {i : Nat} {r : Nat → Int} (h : gPtr M) (hi : gPt.all (fun q => q.1 != i) = true) : gPtr (gSet M i r) := gPtr_set h (fun q hq e => by
  have := List.all_eq_true.mp hi q hq
  simp [e] at this)
theorem gPtr_up {M : gMem} {i j : Nat} {x : Int} (h : gPtr M) (hi : gPt.all (fun q => !(q.1 == i && q.2.1 == j)) = true) : gPtr (gSet M i (gUp (M i) j x)) := gPtr_set h (fun q hq e => by
  have h2 := List.all_eq_true.mp hi q hq
  refine gUp_n (fun e2 => ?_)
  simp [e, e2] at h2)
theorem sh_rf : SH.length ≤ SH.length ∧ SH.length ≤ SH.length ∧ gSz SH ≤ gSz SH ∧ gSz SH ≤ gSz SH := ⟨Nat.le_refl _, Nat.le_refl _, Nat.le_refl _, Nat.le_refl _⟩
theorem rv_0 : (∀ v ∈ ([] : List gAV), v.1 < 2) ∧ ([] : List gAV).length ≤ 1 := ⟨fun v h => (by cases h), by decide⟩
theorem rv_I {x : Int} : (∀ v ∈ [gI x], v.1 < 2) ∧ [gI x].length ≤ 1 := ⟨fun v h => (by
  rcases List.mem_cons.mp h with rfl | h
  · exact (by decide : 0 < 2)
  · cases h), Nat.le_refl 1⟩
theorem rv_J {x : Int} : (∀ v ∈ [gJ x], v.1 < 2) ∧ [gJ x].length ≤ 1 := ⟨fun v h => (by
  rcases List.mem_cons.mp h with rfl | h
  · exact (by decide : 1 < 2)
  · cases h), Nat.le_refl 1⟩
def bI (b : Prop) [Decidable b] : Int := if b then 1 else 0
theorem bI_0 {b : Prop} [Decidable b] : bI b = 0 ↔ ¬ b := by unfold bI; split <;> simp_all
theorem bI_n {b : Prop} [Decidable b] : bI b ≠ 0 ↔ b := by unfold bI; split <;> simp_all
theorem bI_t {b : Prop} [Decidable b] (h : b) : bI b = 1 := if_pos h
theorem bI_f {b : Prop} [Decidable b] (h : ¬ b) : bI b = 0 := if_neg h
theorem bI_01 (b : Prop) [Decidable b] : bI b = 0 ∨ bI b = 1 := by unfold bI; split <;> simp
