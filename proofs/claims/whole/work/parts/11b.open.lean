section GO2
variable {D : va_G} {ca : Nat → ClassId} {sc : gScr} {R : Room} {m : gMd} {pc pc' : Nat} {ls ls' : gLs} {st st' : List gAV} {sh sh' : gShp} {M M' : gMem} {rv : List gAV}
theorem gSet_ss (M : gMem) (i : Nat) (r r' : Nat → Int) : gSet (gSet M i r) i r' = gSet M i r' := by
  funext j
  by_cases h : j = i
  · subst h; rw [gSet_s, gSet_s]
  · rw [gSet_n h, gSet_n h, gSet_n h]
theorem gSet_id (M : gMem) (i : Nat) : gSet M i (M i) = M := by
  funext j
  by_cases h : j = i
  · subst h; rw [gSet_s]
  · rw [gSet_n h]
theorem gSet_cm {M : gMem} {i j : Nat} {r r' : Nat → Int} (h : i ≠ j) : gSet (gSet M i r) j r' = gSet (gSet M j r') i r := by
  funext k
  by_cases h1 : k = i
  · subst h1; rw [gSet_n h, gSet_s, gSet_s]
  · by_cases h2 : k = j
    · subst h2; rw [gSet_s, gSet_n h1, gSet_s]
    · rw [gSet_n h2, gSet_n h1, gSet_n h1, gSet_n h2]
theorem gUp_uu (r : Nat → Int) (j : Nat) (x y : Int) : gUp (gUp r j x) j y = gUp r j y := by
  funext k
  by_cases h : k = j
  · subst h; rw [gUp_s, gUp_s]
  · rw [gUp_n h, gUp_n h, gUp_n h]
theorem gUp_id (r : Nat → Int) (j : Nat) : gUp r j (r j) = r := by
  funext k
  by_cases h : k = j
  · subst h; rw [gUp_s]
  · rw [gUp_n h]
theorem gUp_cm {r : Nat → Int} {i j : Nat} {x y : Int} (h : i ≠ j) : gUp (gUp r i x) j y = gUp (gUp r j y) i x := by
  funext k
  by_cases h1 : k = i
  · subst h1; rw [gUp_n h, gUp_s, gUp_s]
  · by_cases h2 : k = j
    · subst h2; rw [gUp_s, gUp_n h1, gUp_s]
    · rw [gUp_n h2, gUp_n h1, gUp_n h1, gUp_n h2]
/-- the memory is taken as open at a cell -/
theorem Go_o (i : Nat) (k : Go D ca sc R m pc ls (st) sh (gSet M i (M i)) rv sh' M') : Go D ca sc R m pc ls (st) sh M rv sh' M' := by
  rw [gSet_id] at k
  exact k
theorem Go_iastoreS {i n : Nat} {x v : Int} {r : Nat → Int} (j : Nat) (hk : sh[i]? = some (1, n)) (hj : x = (j : Int)) (hlt : j < n) (hd : decode (gCode m) pc = .ok (.iastore, 1)) (k : Go D ca sc R m (pc + 1) ls (st) sh (gSet M i (gUp r j v)) rv sh' M') : Go D ca sc R m pc ls (gI v :: gI x :: gR i :: st) sh (gSet M i r) rv sh' M' := by
  refine Go_iastore j hk hj hlt hd ?_
  rw [gSet_s, gSet_ss]
  exact k
theorem Go_lastoreS {i n : Nat} {x v : Int} {r : Nat → Int} (j : Nat) (hk : sh[i]? = some (2, n)) (hj : x = (j : Int)) (hlt : j < n) (hd : decode (gCode m) pc = .ok (.lastore, 1)) (k : Go D ca sc R m (pc + 1) ls (st) sh (gSet M i (gUp r j v)) rv sh' M') : Go D ca sc R m pc ls (gJ v :: gI x :: gR i :: st) sh (gSet M i r) rv sh' M' := by
  refine Go_lastore j hk hj hlt hd ?_
  rw [gSet_s, gSet_ss]
  exact k
theorem Go_putIS {i ci j idx : Nat} {x : Int} {r : Nat → Int} (fp : gFp (gOwn m) idx ci j 0 false) (hk : sh[i]? = some (0, ci)) (hd : decode (gCode m) pc = .ok (.putfield idx, 3)) (k : Go D ca sc R m (pc + 3) ls (st) sh (gSet M i (gUp r j x)) rv sh' M') : Go D ca sc R m pc ls ((0, x) :: gR i :: st) sh (gSet M i r) rv sh' M' := by
  refine Go_putI fp hk hd ?_
  rw [gSet_s, gSet_ss]
  exact k
theorem Go_putJS {i ci j idx : Nat} {x : Int} {r : Nat → Int} (fp : gFp (gOwn m) idx ci j 1 false) (hk : sh[i]? = some (0, ci)) (hd : decode (gCode m) pc = .ok (.putfield idx, 3)) (k : Go D ca sc R m (pc + 3) ls (st) sh (gSet M i (gUp r j x)) rv sh' M') : Go D ca sc R m pc ls ((1, x) :: gR i :: st) sh (gSet M i r) rv sh' M' := by
  refine Go_putJ fp hk hd ?_
  rw [gSet_s, gSet_ss]
  exact k
theorem Go_callVI {m' : gMd} {as stk : List gAV} {sh1 : gShp} {M1 : gMem} {r : Int} {b ci idx : Nat} {q : vw_C} (hF : Fn D ca m' (gR b :: as) sh M [gI r] sh1 M1) (cw : gCw (gOwn m) idx m' as.length) (ci' : Cond.instanceMethod (gNm m') ∈ gTb ∧ Cond.selects (gNm m').cls (gNm m') (gNm m') ∈ gTb) (hq : vwCl[ci]? = some q) (hqc : q.1 = (gNm m').cls) (hR : gSub R m') (hk : sh[b]? = some (0, ci)) (hstk : stk = as.reverse ++ gR b :: st) (hw : gWd st ≤ 8) (hsh : sh.length ≤ sh1.length ∧ sh1.length ≤ sh'.length ∧ gSz sh ≤ gSz sh1 ∧ gSz sh1 ≤ gSz sh') (hd : decode (gCode m) pc = .ok (.invokevirtual idx, 3)) (k : Go D ca sc R m (pc + 3) ls (gI r :: st) sh1 M1 rv sh' M') : Go D ca sc R m pc ls stk sh M rv sh' M' := Go_callV hF cw ci' hq hqc hR hk hstk hw rv_I hsh hd k
theorem Go_callVJ {m' : gMd} {as stk : List gAV} {sh1 : gShp} {M1 : gMem} {r : Int} {b ci idx : Nat} {q : vw_C} (hF : Fn D ca m' (gR b :: as) sh M [gJ r] sh1 M1) (cw : gCw (gOwn m) idx m' as.length) (ci' : Cond.instanceMethod (gNm m') ∈ gTb ∧ Cond.selects (gNm m').cls (gNm m') (gNm m') ∈ gTb) (hq : vwCl[ci]? = some q) (hqc : q.1 = (gNm m').cls) (hR : gSub R m') (hk : sh[b]? = some (0, ci)) (hstk : stk = as.reverse ++ gR b :: st) (hw : gWd st ≤ 8) (hsh : sh.length ≤ sh1.length ∧ sh1.length ≤ sh'.length ∧ gSz sh ≤ gSz sh1 ∧ gSz sh1 ≤ gSz sh') (hd : decode (gCode m) pc = .ok (.invokevirtual idx, 3)) (k : Go D ca sc R m (pc + 3) ls (gJ r :: st) sh1 M1 rv sh' M') : Go D ca sc R m pc ls stk sh M rv sh' M' := Go_callV hF cw ci' hq hqc hR hk hstk hw rv_J hsh hd k
theorem Go_callV0 {m' : gMd} {as stk : List gAV} {sh1 : gShp} {M1 : gMem} {b ci idx : Nat} {q : vw_C} (hF : Fn D ca m' (gR b :: as) sh M [] sh1 M1) (cw : gCw (gOwn m) idx m' as.length) (ci' : Cond.instanceMethod (gNm m') ∈ gTb ∧ Cond.selects (gNm m').cls (gNm m') (gNm m') ∈ gTb) (hq : vwCl[ci]? = some q) (hqc : q.1 = (gNm m').cls) (hR : gSub R m') (hk : sh[b]? = some (0, ci)) (hstk : stk = as.reverse ++ gR b :: st) (hw : gWd st ≤ 8) (hsh : sh.length ≤ sh1.length ∧ sh1.length ≤ sh'.length ∧ gSz sh ≤ gSz sh1 ∧ gSz sh1 ≤ gSz sh') (hd : decode (gCode m) pc = .ok (.invokevirtual idx, 3)) (k : Go D ca sc R m (pc + 3) ls (st) sh1 M1 rv sh' M') : Go D ca sc R m pc ls stk sh M rv sh' M' := Go_callV hF cw ci' hq hqc hR hk hstk hw rv_0 hsh hd k
theorem Go_callSI {m' : gMd} {as stk : List gAV} {sh1 : gShp} {M1 : gMem} {r : Int} {idx : Nat} (hF : Fn D ca m' as sh M [gI r] sh1 M1) (cw : gCw (gOwn m) idx m' as.length) (ci' : Cond.static (gNm m') ∈ gTb) (hR : gSub R m') (hstk : stk = as.reverse ++ st) (hw : gWd st ≤ 8) (hsh : sh.length ≤ sh1.length ∧ sh1.length ≤ sh'.length ∧ gSz sh ≤ gSz sh1 ∧ gSz sh1 ≤ gSz sh') (hd : decode (gCode m) pc = .ok (.invokestatic idx, 3)) (k : Go D ca sc R m (pc + 3) ls (gI r :: st) sh1 M1 rv sh' M') : Go D ca sc R m pc ls stk sh M rv sh' M' := Go_callS hF cw ci' hR hstk hw rv_I hsh hd k
theorem Go_callSJ {m' : gMd} {as stk : List gAV} {sh1 : gShp} {M1 : gMem} {r : Int} {idx : Nat} (hF : Fn D ca m' as sh M [gJ r] sh1 M1) (cw : gCw (gOwn m) idx m' as.length) (ci' : Cond.static (gNm m') ∈ gTb) (hR : gSub R m') (hstk : stk = as.reverse ++ st) (hw : gWd st ≤ 8) (hsh : sh.length ≤ sh1.length ∧ sh1.length ≤ sh'.length ∧ gSz sh ≤ gSz sh1 ∧ gSz sh1 ≤ gSz sh') (hd : decode (gCode m) pc = .ok (.invokestatic idx, 3)) (k : Go D ca sc R m (pc + 3) ls (gJ r :: st) sh1 M1 rv sh' M') : Go D ca sc R m pc ls stk sh M rv sh' M' := Go_callS hF cw ci' hR hstk hw rv_J hsh hd k
theorem Go_callS0 {m' : gMd} {as stk : List gAV} {sh1 : gShp} {M1 : gMem} {idx : Nat} (hF : Fn D ca m' as sh M [] sh1 M1) (cw : gCw (gOwn m) idx m' as.length) (ci' : Cond.static (gNm m') ∈ gTb) (hR : gSub R m') (hstk : stk = as.reverse ++ st) (hw : gWd st ≤ 8) (hsh : sh.length ≤ sh1.length ∧ sh1.length ≤ sh'.length ∧ gSz sh ≤ gSz sh1 ∧ gSz sh1 ≤ gSz sh') (hd : decode (gCode m) pc = .ok (.invokestatic idx, 3)) (k : Go D ca sc R m (pc + 3) ls (st) sh1 M1 rv sh' M') : Go D ca sc R m pc ls stk sh M rv sh' M' := Go_callS hF cw ci' hR hstk hw rv_0 hsh hd k
theorem Go_callSNI {m' : gMd} {as stk : List gAV} {sh1 : gShp} {M1 : gMem} {r : Int} {idx : Nat} {host : String} (hF : Fn D ca m' as sh M [gI r] sh1 M1) (cw : gCn (gOwn m) idx m' host as.length) (ci' : Cond.static (gNm m') ∈ gTb) (hR : gSub R m') (hstk : stk = as.reverse ++ st) (hw : gWd st ≤ 8) (hsh : sh.length ≤ sh1.length ∧ sh1.length ≤ sh'.length ∧ gSz sh ≤ gSz sh1 ∧ gSz sh1 ≤ gSz sh') (hd : decode (gCode m) pc = .ok (.invokestatic idx, 3)) (k : Go D ca sc R m (pc + 3) ls (gI r :: st) sh1 M1 rv sh' M') : Go D ca sc R m pc ls stk sh M rv sh' M' := Go_callSN hF cw ci' hR hstk hw rv_I hsh hd k
theorem Go_callSNJ {m' : gMd} {as stk : List gAV} {sh1 : gShp} {M1 : gMem} {r : Int} {idx : Nat} {host : String} (hF : Fn D ca m' as sh M [gJ r] sh1 M1) (cw : gCn (gOwn m) idx m' host as.length) (ci' : Cond.static (gNm m') ∈ gTb) (hR : gSub R m') (hstk : stk = as.reverse ++ st) (hw : gWd st ≤ 8) (hsh : sh.length ≤ sh1.length ∧ sh1.length ≤ sh'.length ∧ gSz sh ≤ gSz sh1 ∧ gSz sh1 ≤ gSz sh') (hd : decode (gCode m) pc = .ok (.invokestatic idx, 3)) (k : Go D ca sc R m (pc + 3) ls (gJ r :: st) sh1 M1 rv sh' M') : Go D ca sc R m pc ls stk sh M rv sh' M' := Go_callSN hF cw ci' hR hstk hw rv_J hsh hd k
theorem Go_callSN0 {m' : gMd} {as stk : List gAV} {sh1 : gShp} {M1 : gMem} {idx : Nat} {host : String} (hF : Fn D ca m' as sh M [] sh1 M1) (cw : gCn (gOwn m) idx m' host as.length) (ci' : Cond.static (gNm m') ∈ gTb) (hR : gSub R m') (hstk : stk = as.reverse ++ st) (hw : gWd st ≤ 8) (hsh : sh.length ≤ sh1.length ∧ sh1.length ≤ sh'.length ∧ gSz sh ≤ gSz sh1 ∧ gSz sh1 ≤ gSz sh') (hd : decode (gCode m) pc = .ok (.invokestatic idx, 3)) (k : Go D ca sc R m (pc + 3) ls (st) sh1 M1 rv sh' M') : Go D ca sc R m pc ls stk sh M rv sh' M' := Go_callSN hF cw ci' hR hstk hw rv_0 hsh hd k
end GO2
