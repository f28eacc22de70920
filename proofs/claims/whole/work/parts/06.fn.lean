/-! a method as a whole: Fn; calls -/
def gRm (m : gMd) (dc ds : Nat) : Room := { frames := gFr m, cells := dc, slots := ds, locals := gLo m }
def gWs (m : gMd) : List Cond := Cond.code (gNm m) (gCode m) (gNL m) (gRet m) :: gTb
def gQ (D : va_G) (ca : Nat → ClassId) (A : Nat → Prop) (ad : Nat → Nat) (sh : gShp) (rv : List gAV) (sh' : gShp) (M' : gMem) : Array Value → State → Outcome → State → Prop := fun _ st oc t =>
  (oc = .returned ((rv.map fun v => gVl ca ad v.1 v.2).head?) ∧ (∀ v ∈ rv, gOkV sh'.length v.1 v.2) ∧ gOk sh' M' ∧ ∃ ad' : Nat → Nat, (∀ i, i < sh.length → ad' i = ad i) ∧ va_P D vwCl (gW ca ad' sh' M') t.heap ∧ va_D A (gW ca ad' sh' M')) ∧ va_F A st t
def gB (D : va_G) (ca : Nat → ClassId) (ad : Nat → Nat) (sh : gShp) (M : gMem) (sz : Nat) (U : State) : Prop := U.heap.size = sz ∧ va_P D vwCl (gW ca ad sh M) U.heap ∧ gKx D ca U ∧ va_D (fun _ => True) (gW ca ad sh M)
/-- the method m with these arguments and this memory answers rv and leaves M' -/
def Fn (D : va_G) (ca : Nat → ClassId) (m : gMd) (as : List gAV) (sh : gShp) (M : gMem) (rv : List gAV) (sh' : gShp) (M' : gMem) : Prop :=
  ∀ (l : Launch) (ad : Nat → Nat) (sz : Nat), (∀ v ∈ as, gOkV sh.length v.1 v.2) → gOk sh M →
    Met l (gNm m) (gWs m) (gRm m (sh'.length - sh.length) (gSz sh' - gSz sh)) (va_Pc (as.map fun v => gVl ca ad v.1 v.2) (gB D ca ad sh M sz)) (gQ D ca (va_A (gW ca ad sh M) sz) ad sh rv sh' M') (sh'.length - sh.length) (gSz sh' - gSz sh) (va_A (gW ca ad sh M) sz)
def gArgs : Nat → List gAV → gLs
  | _, [] => []
  | i, v :: vs => (i, v) :: gArgs (if v.1 = 1 then i + 2 else i + 1) vs
def gWd (as : List gAV) : Nat := (as.map fun v => if v.1 = 1 then 2 else 1).sum
theorem cat_if (ca : Nat → ClassId) (ad : Nat → Nat) (t : Nat) (x : Int) : (gVl ca ad t x).category = 2 ↔ t = 1 := by
  have h := cat_gVl (ca := ca) ad t x
  constructor
  · intro h2
    rw [h2] at h
    simpa using h.symm
  · intro h2
    subst h2
    rfl
theorem cat_val (ca : Nat → ClassId) (ad : Nat → Nat) (t : Nat) (x : Int) : (gVl ca ad t x).category = if t = 1 then 2 else 1 := by
  match t with
  | 0 => rfl
  | 1 => rfl
  | 2 =>
    show (va_rf (gRf ad x)).category = 1
    rcases va_rf_or (gRf ad x) with h | ⟨a, h⟩ <;> rw [h] <;> rfl
  | 3 => rfl
  | n + 4 => rfl
theorem gArgs_map (ca : Nat → ClassId) (ad : Nat → Nat) : ∀ (as : List gAV) (i : Nat), lv_args i (as.map fun v => gVl ca ad v.1 v.2) = (gArgs i as).map fun q => (q.1, gVl ca ad q.2.1 q.2.2)
  | [], _ => rfl
  | v :: vs, i => by
    show (i, gVl ca ad v.1 v.2) :: lv_args (if (gVl ca ad v.1 v.2).category = 2 then i + 2 else i + 1) (vs.map fun v => gVl ca ad v.1 v.2) = (i, gVl ca ad v.1 v.2) :: (gArgs (if v.1 = 1 then i + 2 else i + 1) vs).map fun q => (q.1, gVl ca ad q.2.1 q.2.2)
    rw [← gArgs_map ca ad vs]
    simp only [cat_if]
theorem gWd_len (ca : Nat → ClassId) (ad : Nat → Nat) : ∀ (as : List gAV), (lg_sl (as.map fun v => gVl ca ad v.1 v.2)).length = gWd as
  | [] => rfl
  | v :: vs => by
    have ih := gWd_len ca ad vs
    simp only [lg_sl, List.map_cons, List.flatMap_cons, List.length_append] at ih ⊢
    rw [ih, show gWd (v :: vs) = (if v.1 = 1 then 2 else 1) + gWd vs from by simp [gWd]]
    by_cases h : v.1 = 1
    · rw [if_pos ((cat_if ca ad v.1 v.2).mpr h), if_pos h]; rfl
    · rw [if_neg (fun q => h ((cat_if ca ad v.1 v.2).mp q)), if_neg h]; rfl
theorem gArgs_mem : ∀ (as : List gAV) (i : Nat) (q : Nat × gAV), q ∈ gArgs i as → q.2 ∈ as
  | [], _, _, h => by cases h
  | v :: vs, i, q, h => by
    rcases List.mem_cons.mp h with rfl | h
    · exact List.mem_cons_self
    · exact List.mem_cons_of_mem _ (gArgs_mem vs _ q h)
def gRok (ret : Option FieldType) (rv : List gAV) : Prop := (ret = none ∧ rv = []) ∨ (∃ x, ret = some .int ∧ rv = [gI x]) ∨ (∃ x, ret = some .boolean ∧ rv = [gI x] ∧ (x = 0 ∨ x = 1)) ∨ (∃ x, ret = some .long ∧ rv = [gJ x])
/-- what a method's record must be -/
def gMok (m : gMd) : Prop := plainName (gNm m).cls = true ∧ (gNm m).cls = gOwn m ∧ (gIni m = true → (gNm m).name = "<init>")
theorem Fn_of {D : va_G} {ca : Nat → ClassId} {m : gMd} {as : List gAV} {sh sh' : gShp} {M M' : gMem} {rv : List gAV} (hm : gMok m) (hn : gWd as ≤ gNL m) (hrv : gRok (gRet m) rv) (hls : sh.length ≤ sh'.length) (hsz : gSz sh ≤ gSz sh')
    (h : Go D ca none (gRm m (sh'.length - sh.length) (gSz sh' - gSz sh)) m 0 (gArgs 0 as) [] sh M rv sh' M') : Fn D ca m as sh M rv sh' M' := by
  intro l ad sz hao hok
  refine Met.ofW (cc := gCode m) (maxL := gNL m) (ret := gRet m) (ws' := gTb) hm.1 rfl ?_
  intro p e s mi args below meth c s₁ B hml hv
  obtain ⟨rfl, hsz0, hP, hK, hD0⟩ := hv
  have hr := B.returns
  have hts0 := atoms_spec (ws := gWs m) B.pre
  have hown : s.vm.findClass (gOwn m) = some mi.cls := by rw [← hm.2.1]; exact findClass_of_methodNamed B.named
  have hlocks := B.notSynchronized
  subst hsz0
  have hD := hD0.self (sz := s.heap.size)
  have hA : ∀ q : Nat, s.heap.size ≤ q → va_A (gW ca ad sh M) s.heap.size q := fun q h => Or.inr h
  have hl := lv_entry (as.map fun v => gVl ca ad v.1 v.2) (n := gNL m) (by rw [gWd_len]; exact hn)
  rw [lg_entry_eq]
  rw [gArgs_map] at hl
  refine h p l e s mi _ below meth c _ ad s.heap [] 0 0 (va_A (gW ca ad sh M) s.heap.size) s.heap _ ⟨B.exec, B.bytes, hml, hr, hown, fun w hw => hts0 w (List.mem_cons_of_mem _ hw), hlocks, hK, fun hi => ?_, hA, trivial⟩ ⟨hl, fun q hq => hao q.2 (gArgs_mem as 0 q hq), fun v hv => (by cases hv), hok, hP, hD, va_S.rf⟩ ?_ ?_ ?_
  · rw [← hm.2.2 hi]
    exact (name_of_methodNamed B.named B.method).1
  · show 0 + sh'.length ≤ (sh'.length - sh.length) + sh.length
    omega
  · show 0 + gSz sh' ≤ (gSz sh' - gSz sh) + gSz sh
    omega
  · intro ad' H' locs' cells' slots' lc' pc' g1 g2 g3 g4 g5 g6 g7 g8 g9
    refine W.widen (k := sh'.length - sh.length) (n := gSz sh' - gSz sh) (by omega) (by omega) ?_
    have hq : ∀ t : State, t.heap = H' → gQ D ca (va_A (gW ca ad sh M) s.heap.size) ad sh rv sh' M' (as.map fun v => gVl ca ad v.1 v.2).toArray s (.returned ((rv.map fun v => gVl ca ad v.1 v.2).head?)) t := fun t ht => ⟨⟨rfl, g2, g3, ad', g1, by rw [ht]; exact g4, g5⟩, g6.F ht⟩
    rcases hrv with ⟨h1, h2⟩ | ⟨x, h1, h2⟩ | ⟨x, h1, h2, h3⟩ | ⟨x, h1, h2⟩
    · subst h2
      exact W.vret B.exec B.bytes (hr.trans h1) (fun t ht _ => hq t ht) g6.2.2 g9
    · subst h2
      exact W.iret B.exec B.bytes (hr.trans h1) (fun t ht _ => hq t ht) g6.2.2 g9
    · subst h2
      exact W.zret (ty := .boolean) B.exec B.bytes (hr.trans h1) (by rcases h3 with rfl | rfl <;> rfl) (fun t ht _ => hq t ht) g6.2.2 g9
    · subst h2
      exact W.lret B.exec B.bytes (hr.trans h1) (fun t ht _ => hq t ht) g6.2.2 g9
theorem gTb_good : ∀ w ∈ gTb, goodWord w = true := fun w h => (List.mem_filter.mp h).2
theorem gWs_good {m : gMd} (h : Cond.code (gNm m) (gCode m) (gNL m) (gRet m) ∈ gTb) : GoodIn gTb (gWs m) := fun w hw => by
  rcases List.mem_cons.mp hw with rfl | hw
  · exact ⟨h, good_of_word (gTb_good _ h)⟩
  · exact ⟨hw, good_of_word (gTb_good _ hw)⟩
section GC
variable {D : va_G} {ca : Nat → ClassId} {sc : gScr} {R : Room} {m m' : gMd} {pc pc' : Nat} {ls ls' : gLs} {st stk : List gAV} {sh sh1 sh' : gShp} {M M1 M' : gMem} {rv rv1 : List gAV} {as : List gAV}
theorem gB_blind {ad : Nat → Nat} {sz : Nat} {av : List Value} : FrameBlind (va_Pc av (gB D ca ad sh M sz)) := by
  intro a U g mk q
  obtain ⟨q0, q1, qP, qK, qD⟩ := q
  exact ⟨q0, q1, qP, qK.same rfl, qD⟩
/-- what a call leaves -/
theorem Go_ran (hrv : ∀ v ∈ rv1, v.1 < 2) (hr2 : rv1.length ≤ 1) (hsh : sh.length ≤ sh1.length) (hsz : gSz sh ≤ gSz sh1) (hst : ∀ v ∈ st, v ∈ stk)
    (h : ∀ (p : Program) (l : Launch) (e : Env) (s : State) (mi : MethodId) (args : Array Value) (below : List Frame) (meth : Method) (c : Code) (ad : Nat → Nat) (H : Heap) (locs : List Loc) (cells slots : Nat) (A : Nat → Prop) (H0 : Heap) (lc : Array Slot), gCx D ca sc m p s mi args meth c A H0 → gSt D ca m ls stk sh M ad H locs A H0 lc →
      cells + (sh1.length - sh.length) ≤ R.cells → slots + (gSz sh1 - gSz sh) ≤ R.slots → ∃ a : Array Value,
      va_Run p l e R s mi args below meth c H locs cells slots (sh1.length - sh.length) (gSz sh1 - gSz sh) (F0 mi pc lc (stk.map fun v => gVl ca ad v.1 v.2)) (st.map fun v => gVl ca ad v.1 v.2) (gQ D ca (va_A (gW ca ad sh M) H.size) ad sh rv1 sh1 M1 a) (va_A (gW ca ad sh M) H.size))
    (hsh1 : sh1.length ≤ sh'.length) (hsz1 : gSz sh1 ≤ gSz sh')
    (k : Go D ca sc R m (pc + 3) ls (rv1 ++ st) sh1 M1 rv sh' M') : Go D ca sc R m pc ls stk sh M rv sh' M' := by
  intro p l e s mi args below meth c Q ad H locs cells slots A H0 lc hc hs hr1 hr2' hk
  obtain ⟨a, hr⟩ := h p l e s mi args below meth c ad H locs cells slots A H0 lc hc hs (by omega) (by omega)
  obtain ⟨hl, hlo, hso, hok, hP, hD, hS⟩ := hs
  have hF : ∀ q, va_A (gW ca ad sh M) H.size q → A q := fun q hq => by
    rcases hq with ⟨k, e1, h1⟩ | h1
    · exact hD.2 k (q, e1) h1
    · exact hc.2.2.2.2.2.2.2.2.2.1 q (Nat.le_trans hS.1 h1)
  intro T hT X
  obtain ⟨v, st₀, t, T', L, h0, X', hL, e1, e2, ⟨⟨hv, hrok, hok1, ad', hag, hP1, hD1⟩, hz, hk1⟩, stp⟩ := hr T hT X
  rw [h0] at hz hk1
  have hS1 : va_S A H0 t.heap (locs ++ L) := ⟨Nat.le_trans hS.1 hz, fun q h1 h2 => by rw [hk1 q (Nat.lt_of_lt_of_le h1 hS.1) (fun z => h2 (hF q z))]; exact hS.2.1 q h1 h2, fun q hq => by
      rcases List.mem_append.mp hq with h | h
      · exact hS.2.2 q h
      · exact hF _ (hL q h)⟩
  have hv' : v = (rv1.map fun v => gVl ca ad v.1 v.2).head? := by
    have := hv
    simpa using this
  have es : v.toList ++ (st.map fun v => gVl ca ad v.1 v.2) = (rv1 ++ st).map fun v => gVl ca ad' v.1 v.2 := by
    rw [hv', List.map_append]
    congr 1
    · match rv1, hrv, hr2 with
      | [], _, _ => rfl
      | [w], hrv, _ =>
        have hw := hrv w List.mem_cons_self
        show [gVl ca ad w.1 w.2] = [gVl ca ad' w.1 w.2]
        rw [show gVl ca ad w.1 w.2 = gVl ca ad' w.1 w.2 from by
          obtain ⟨t, x⟩ := w
          match t, hw with
          | 0, _ => rfl
          | 1, _ => rfl]
      | _ :: _ :: _, _, hr2 => exact absurd hr2 (by simp)
    · exact List.map_congr_left (fun w hw => (gVl_ad hag (hso w (hst w hw))).symm)
  have K := k p l e s mi args below meth c Q ad' t.heap (locs ++ L) (cells + (sh1.length - sh.length)) (slots + (gSz sh1 - gSz sh)) A H0 lc hc ⟨?_, ?_, ?_, hok1, hP1, hD1.weaken (fun _ q _ h => hF q.1 h), hS1⟩ (by omega) (by omega) ?_
  · rw [← es] at K
    obtain ⟨t2, a1, b1⟩ := K T' e1 X'
    exact ⟨t2, stp t2 a1, b1⟩
  · have e3 : (ls.map fun q' => (q'.1, gVl ca ad' q'.2.1 q'.2.2)) = ls.map fun q' => (q'.1, gVl ca ad q'.2.1 q'.2.2) := List.map_congr_left (fun v hv => by rw [gVl_ad hag (hlo v hv)])
    rw [e3]
    exact hl
  · exact fun q hq => gOkV_mono hsh (hlo q hq)
  · intro w hw
    rcases List.mem_append.mp hw with hw | hw
    · exact hrok w hw
    · exact gOkV_mono hsh (hso w (hst w hw))
  · intro ad2 H' locs' cells' slots' lc' pc2 g1 g2 g3 g4 g5 g6 g7 g8 g9
    exact hk ad2 H' locs' cells' slots' lc' pc2 (fun i hi => (g1 i (by omega)).trans (hag i hi)) g2 g3 g4 g5 g6 (by omega) (by omega) g9
theorem gRooms {st : List gAV} {ad : Nat → Nat} {mi : MethodId} {lc : Array Slot} {vs : List Value} (h : gWd st ≤ 8) : 2 * (F0 mi pc lc vs).monitorRoom + ((st.map fun v => gVl ca ad v.1 v.2).map fun v => v.category).sum ≤ 8 := by
  refine lv_room ?_
  have : ((st.map fun v => gVl ca ad v.1 v.2).map fun v => v.category).sum = gWd st := by
    rw [List.map_map]
    unfold gWd
    congr 1
    exact List.map_congr_left (fun v _ => cat_val ca ad v.1 v.2)
  rw [this]
  exact h
/-- a call's words: of the method m' from the class own by the entry idx -/
def gCw (own : String) (idx : Nat) (m' : gMd) (n : Nat) : Prop := Cond.methodLink own idx (gNm m') ∈ gTb ∧ Cond.code (gNm m') (gCode m') (gNL m') (gRet m') ∈ gTb ∧ Cond.initialized (gNm m').cls ∈ gTb ∧ ((gNm m').cls ≠ "java/lang/invoke/MethodHandle" ∧ (gNm m').cls ≠ "java/lang/invoke/VarHandle" ∧ (parseMethodDescriptor (gNm m').desc).map (fun d => d.parameters.length) = some n)
def gCn (own : String) (idx : Nat) (m' : gMd) (host : String) (n : Nat) : Prop := (own, idx, gNm m', host) ∈ gNest ∧ Cond.code (gNm m') (gCode m') (gNL m') (gRet m') ∈ gTb ∧ Cond.initialized (gNm m').cls ∈ gTb ∧ ((gNm m').cls ≠ "java/lang/invoke/MethodHandle" ∧ (gNm m').cls ≠ "java/lang/invoke/VarHandle" ∧ (parseMethodDescriptor (gNm m').desc).map (fun d => d.parameters.length) = some n)
def gSub (R : Room) (m' : gMd) : Prop := gFr m' + 1 ≤ R.frames ∧ 8 + (gNL m' + 11) + gLo m' ≤ R.locals
theorem gCallB {s : State} {args : Array Value} {own : String} {idx n dc ds : Nat} (ht : ∀ w ∈ gTb, w.before args s = true) (cw : gCw own idx m' n) (hR : gSub R m') : CallB R s args own idx (gNm m') (gCode m') (gNL m') (gRet m') (gWs m') (gRm m' dc ds) dc ds n :=
  callB_of n ht (gWs_good cw.2.1) rfl rfl rfl (ht _ cw.2.2.1) (ht _ cw.1) cw.2.2.2 hR
theorem gCallN {s : State} {args : Array Value} {own host : String} {idx n dc ds : Nat} (ht : ∀ w ∈ gTb, w.before args s = true) (hK : gKx D ca s) (cw : gCn own idx m' host n) (hR : gSub R m') : va_CN R s args own idx (gNm m') host (gCode m') (gNL m') (gRet m') (gWs m') (gRm m' dc ds) dc ds n :=
  va_cnB n ht (gWs_good cw.2.1) rfl rfl rfl (hK.2.1 _ cw.1) (ht _ cw.2.2.1) cw.2.2.2 hR
theorem gPreS {s : State} {H : Heap} {A : Nat → Prop} {ad : Nat → Nat} {av : List Value} (hP : va_P D vwCl (gW ca ad sh M) H) (hD : va_D A (gW ca ad sh M)) (hK : gKx D ca s) : PreS s H (va_Pc av (gB D ca ad sh M H.size)) av :=
  ⟨gB_blind, fun U hU hW => ⟨rfl, by rw [hU], by rw [hU]; exact hP, hK.warm hW, hD.weaken (fun _ _ _ _ => trivial)⟩⟩
theorem map_rev (ad : Nat → Nat) (as st : List gAV) : (as.reverse ++ st).map (fun v => gVl ca ad v.1 v.2) = (as.map fun v => gVl ca ad v.1 v.2).reverse ++ st.map fun v => gVl ca ad v.1 v.2 := by
  rw [List.map_append, List.map_reverse]
/-- of an instance -/
theorem Go_callV {b ci idx : Nat} {q : vw_C} (hF : Fn D ca m' (gR b :: as) sh M rv1 sh1 M1) (cw : gCw (gOwn m) idx m' as.length) (ci' : Cond.instanceMethod (gNm m') ∈ gTb ∧ Cond.selects (gNm m').cls (gNm m') (gNm m') ∈ gTb) (hq : vwCl[ci]? = some q) (hqc : q.1 = (gNm m').cls) (hR : gSub R m') (hk : sh[b]? = some (0, ci)) (hstk : stk = as.reverse ++ gR b :: st) (hw : gWd st ≤ 8)
    (hrv : (∀ v ∈ rv1, v.1 < 2) ∧ rv1.length ≤ 1) (hsh : sh.length ≤ sh1.length ∧ sh1.length ≤ sh'.length ∧ gSz sh ≤ gSz sh1 ∧ gSz sh1 ≤ gSz sh') (hd : decode (gCode m) pc = .ok (.invokevirtual idx, 3))
    (k : Go D ca sc R m (pc + 3) ls (rv1 ++ st) sh1 M1 rv sh' M') : Go D ca sc R m pc ls stk sh M rv sh' M' := by
  refine Go_ran hrv.1 hrv.2 hsh.1 hsh.2.2.1 (fun v hv => by rw [hstk]; exact List.mem_append_right _ (List.mem_cons_of_mem _ hv)) (fun p l e s mi args below meth c ad H locs cells slots A H0 lc hc hs h1 h2 => ?_) hsh.2.1 hsh.2.2.2 k
  obtain ⟨hl, hlo, hso, hok, hP, hD, hS⟩ := hs
  have hK := hc.2.2.2.2.2.2.2.1
  have hts := hc.2.2.2.2.2.1
  have hao : ∀ v ∈ gR b :: as, gOkV sh.length v.1 v.2 := fun v hv => hso v (by
    rw [hstk]
    rcases List.mem_cons.mp hv with rfl | hv
    · exact List.mem_append_right _ List.mem_cons_self
    · exact List.mem_append_left _ (List.mem_reverse.mpr hv))
  have hM := hF l ad H.size hao hok
  have e1 : ((gR b :: as).map fun v => gVl ca ad v.1 v.2) = .ref (ad b) :: as.map fun v => gVl ca ad v.1 v.2 := mapR b as
  rw [e1] at hM
  obtain ⟨cell, g1, g2, g3⟩ := va_recv hK.1 hP hq (gW_at hk)
  have hp : PreV s H (gNm m').cls (ad b) (va_Pc (.ref (ad b) :: as.map fun v => gVl ca ad v.1 v.2) (gB D ca ad sh M H.size)) (as.map fun v => gVl ca ad v.1 v.2) := ⟨gB_blind, ⟨cell, g1, g2, by rw [← hqc]; exact g3⟩, (gPreS hP hD hK).2⟩
  exact ⟨_, va_runV (n := as.length) (b := ad b) (As := as.map fun v => gVl ca ad v.1 v.2) ⟨hc.1, hc.2.1, hc.2.2.1, hc.2.2.2.2.1, hts⟩ hM ⟨gCallB hts cw hR, hts _ ci'.1, hts _ ci'.2⟩ hp rfl (by rw [List.length_map]) hl.1 (by show stk.map _ = _; rw [hstk, map_rev, mapR]) (gRooms hw) hd ⟨h1, h2⟩⟩
/-- of a class -/
theorem Go_callS {idx : Nat} (hF : Fn D ca m' as sh M rv1 sh1 M1) (cw : gCw (gOwn m) idx m' as.length) (ci' : Cond.static (gNm m') ∈ gTb) (hR : gSub R m') (hstk : stk = as.reverse ++ st) (hw : gWd st ≤ 8)
    (hrv : (∀ v ∈ rv1, v.1 < 2) ∧ rv1.length ≤ 1) (hsh : sh.length ≤ sh1.length ∧ sh1.length ≤ sh'.length ∧ gSz sh ≤ gSz sh1 ∧ gSz sh1 ≤ gSz sh') (hd : decode (gCode m) pc = .ok (.invokestatic idx, 3))
    (k : Go D ca sc R m (pc + 3) ls (rv1 ++ st) sh1 M1 rv sh' M') : Go D ca sc R m pc ls stk sh M rv sh' M' := by
  refine Go_ran hrv.1 hrv.2 hsh.1 hsh.2.2.1 (fun v hv => by rw [hstk]; exact List.mem_append_right _ hv) (fun p l e s mi args below meth c ad H locs cells slots A H0 lc hc hs h1 h2 => ?_) hsh.2.1 hsh.2.2.2 k
  obtain ⟨hl, hlo, hso, hok, hP, hD, hS⟩ := hs
  have hts := hc.2.2.2.2.2.1
  have hM := hF l ad H.size (fun v hv => hso v (by rw [hstk]; exact List.mem_append_left _ (List.mem_reverse.mpr hv))) hok
  exact ⟨_, va_runS (n := as.length) (As := as.map fun v => gVl ca ad v.1 v.2) ⟨hc.1, hc.2.1, hc.2.2.1, hc.2.2.2.2.1, hts⟩ hM ⟨gCallB hts cw hR, hts _ ci'⟩ (gPreS hP hD hc.2.2.2.2.2.2.2.1) rfl (by rw [List.length_map]) hl.1 (by show stk.map _ = _; rw [hstk, map_rev]) (gRooms hw) hd ⟨h1, h2⟩⟩
theorem Go_callSN {idx : Nat} {host : String} (hF : Fn D ca m' as sh M rv1 sh1 M1) (cw : gCn (gOwn m) idx m' host as.length) (ci' : Cond.static (gNm m') ∈ gTb) (hR : gSub R m') (hstk : stk = as.reverse ++ st) (hw : gWd st ≤ 8)
    (hrv : (∀ v ∈ rv1, v.1 < 2) ∧ rv1.length ≤ 1) (hsh : sh.length ≤ sh1.length ∧ sh1.length ≤ sh'.length ∧ gSz sh ≤ gSz sh1 ∧ gSz sh1 ≤ gSz sh') (hd : decode (gCode m) pc = .ok (.invokestatic idx, 3))
    (k : Go D ca sc R m (pc + 3) ls (rv1 ++ st) sh1 M1 rv sh' M') : Go D ca sc R m pc ls stk sh M rv sh' M' := by
  refine Go_ran hrv.1 hrv.2 hsh.1 hsh.2.2.1 (fun v hv => by rw [hstk]; exact List.mem_append_right _ hv) (fun p l e s mi args below meth c ad H locs cells slots A H0 lc hc hs h1 h2 => ?_) hsh.2.1 hsh.2.2.2 k
  obtain ⟨hl, hlo, hso, hok, hP, hD, hS⟩ := hs
  have hts := hc.2.2.2.2.2.1
  have hM := hF l ad H.size (fun v hv => hso v (by rw [hstk]; exact List.mem_append_left _ (List.mem_reverse.mpr hv))) hok
  exact ⟨_, va_runSN (n := as.length) (As := as.map fun v => gVl ca ad v.1 v.2) ⟨hc.1, hc.2.1, hc.2.2.1, hc.2.2.2.2.1, hts⟩ hM ⟨gCallN hts hc.2.2.2.2.2.2.2.1 cw hR, hts _ ci', trivial⟩ (gPreS hP hD hc.2.2.2.2.2.2.2.1) rfl (by rw [List.length_map]) hl.1 (by show stk.map _ = _; rw [hstk, map_rev]) (gRooms hw) hd ⟨h1, h2⟩⟩
theorem gInitMet {l : Launch} {ad : Nat → Nat} {sz b : Nat} (hF : Fn D ca m' (gR b :: as) sh M [] sh1 M1) (hok : gOk sh M) (hao : ∀ v ∈ gR b :: as, gOkV sh.length v.1 v.2) : Met l (gNm m') (gWs m') (gRm m' (sh1.length - sh.length) (gSz sh1 - gSz sh)) (va_Pc (.ref (ad b) :: as.map fun v => gVl ca ad v.1 v.2) (gB D ca ad sh M sz)) (gQ D ca (va_A (gW ca ad sh M) sz) ad sh [] sh1 M1) (sh1.length - sh.length) (gSz sh1 - gSz sh) (va_A (gW ca ad sh M) sz) := by
  have hM := hF l ad sz hao hok
  rw [show ((gR b :: as).map fun v => gVl ca ad v.1 v.2) = .ref (ad b) :: as.map fun v => gVl ca ad v.1 v.2 from mapR b as] at hM
  exact hM
/-- of a constructor -/
theorem Go_callI {b idx : Nat} (hF : Fn D ca m' (gR b :: as) sh M [] sh1 M1) (hret : gRet m' = none) (cw : gCw (gOwn m) idx m' as.length) (ci' : Cond.instanceMethod (gNm m') ∈ gTb ∧ (gNm m').name = "<init>") (hR : gSub R m') (hstk : stk = as.reverse ++ gR b :: st) (hw : gWd st ≤ 8)
    (hsh : sh.length ≤ sh1.length ∧ sh1.length ≤ sh'.length ∧ gSz sh ≤ gSz sh1 ∧ gSz sh1 ≤ gSz sh') (hd : decode (gCode m) pc = .ok (.invokespecial idx, 3))
    (k : Go D ca sc R m (pc + 3) ls st sh1 M1 rv sh' M') : Go D ca sc R m pc ls stk sh M rv sh' M' := by
  refine Go_ran (rv1 := []) (fun v hv => by cases hv) (Nat.zero_le _) hsh.1 hsh.2.2.1 (fun v hv => by rw [hstk]; exact List.mem_append_right _ (List.mem_cons_of_mem _ hv)) (fun p l e s mi args below meth c ad H locs cells slots A H0 lc hc hs h1 h2 => ?_) hsh.2.1 hsh.2.2.2 k
  obtain ⟨hl, hlo, hso, hok, hP, hD, hS⟩ := hs
  have hts := hc.2.2.2.2.2.1
  have hao : ∀ v ∈ gR b :: as, gOkV sh.length v.1 v.2 := fun v hv => hso v (by
    rw [hstk]
    rcases List.mem_cons.mp hv with rfl | hv
    · exact List.mem_append_right _ List.mem_cons_self
    · exact List.mem_append_left _ (List.mem_reverse.mpr hv))
  have hM := gInitMet (l := l) (ad := ad) (sz := H.size) hF hok hao
  have hB := gCallB (R := R) (dc := sh1.length - sh.length) (ds := gSz sh1 - gSz sh) hts cw hR
  rw [hret] at hB
  exact ⟨_, va_runI (n := as.length) (b := ad b) (As := as.map fun v => gVl ca ad v.1 v.2) ⟨hc.1, hc.2.1, hc.2.2.1, hc.2.2.2.2.1, hts⟩ hM ⟨hB, ci'.2, hts _ ci'.1⟩ (gPreS hP hD hc.2.2.2.2.2.2.2.1) rfl (by rw [List.length_map]) hl.1 (by show stk.map _ = _; rw [hstk, map_rev, mapR]) (gRooms hw) hd ⟨h1, h2⟩⟩
theorem Go_callIN {b idx : Nat} {host : String} (hF : Fn D ca m' (gR b :: as) sh M [] sh1 M1) (hret : gRet m' = none) (cw : gCn (gOwn m) idx m' host as.length) (ci' : Cond.instanceMethod (gNm m') ∈ gTb ∧ (gNm m').name = "<init>") (hR : gSub R m') (hstk : stk = as.reverse ++ gR b :: st) (hw : gWd st ≤ 8)
    (hsh : sh.length ≤ sh1.length ∧ sh1.length ≤ sh'.length ∧ gSz sh ≤ gSz sh1 ∧ gSz sh1 ≤ gSz sh') (hd : decode (gCode m) pc = .ok (.invokespecial idx, 3))
    (k : Go D ca sc R m (pc + 3) ls st sh1 M1 rv sh' M') : Go D ca sc R m pc ls stk sh M rv sh' M' := by
  refine Go_ran (rv1 := []) (fun v hv => by cases hv) (Nat.zero_le _) hsh.1 hsh.2.2.1 (fun v hv => by rw [hstk]; exact List.mem_append_right _ (List.mem_cons_of_mem _ hv)) (fun p l e s mi args below meth c ad H locs cells slots A H0 lc hc hs h1 h2 => ?_) hsh.2.1 hsh.2.2.2 k
  obtain ⟨hl, hlo, hso, hok, hP, hD, hS⟩ := hs
  have hts := hc.2.2.2.2.2.1
  have hao : ∀ v ∈ gR b :: as, gOkV sh.length v.1 v.2 := fun v hv => hso v (by
    rw [hstk]
    rcases List.mem_cons.mp hv with rfl | hv
    · exact List.mem_append_right _ List.mem_cons_self
    · exact List.mem_append_left _ (List.mem_reverse.mpr hv))
  have hM := gInitMet (l := l) (ad := ad) (sz := H.size) hF hok hao
  have hB := gCallN (R := R) (dc := sh1.length - sh.length) (ds := gSz sh1 - gSz sh) hts hc.2.2.2.2.2.2.2.1 cw hR
  rw [hret] at hB
  exact ⟨_, va_runIN (n := as.length) (b := ad b) (As := as.map fun v => gVl ca ad v.1 v.2) ⟨hc.1, hc.2.1, hc.2.2.1, hc.2.2.2.2.1, hts⟩ hM ⟨hB, ci'.2, hts _ ci'.1⟩ (gPreS hP hD hc.2.2.2.2.2.2.2.1) rfl (by rw [List.length_map]) hl.1 (by show stk.map _ = _; rw [hstk, map_rev, mapR]) (gRooms hw) hd ⟨h1, h2⟩⟩
/-- java.lang.Object's constructor -/
theorem Go_oinit {b idx : Nat} (ol : Cond.methodLink (gOwn m) idx Lib.objectInit ∈ gTb ∧ Cond.instanceMethod Lib.objectInit ∈ gTb ∧ Cond.code Lib.objectInit ⟨#[0xb1]⟩ 1 none ∈ gTb) (hR : 1 ≤ R.frames ∧ gWd st + 12 ≤ R.locals) (hd : decode (gCode m) pc = .ok (.invokespecial idx, 3)) (k : Go D ca sc R m (pc + 3) ls st sh M rv sh' M') : Go D ca sc R m pc ls (gR b :: st) sh M rv sh' M' := by
  refine Go_step (st' := st) (fun p l e s mi args below meth c Q ad H locs cells slots A H0 lc hc hs => ⟨ok_t hs.2.2.1, fun w => ?_⟩) k
  rw [mapR]
  have hts := hc.2.2.2.2.2.1
  have hw : ((st.map fun v => gVl ca ad v.1 v.2).map fun v => v.category).sum = gWd st := by
    rw [List.map_map]
    unfold gWd
    congr 1
    exact List.map_congr_left (fun v _ => cat_val ca ad v.1 v.2)
  refine W.objInit hc.1 hc.2.1 hc.2.2.2.2.1 (hts _ ol.1) (hts _ ol.2.1) (hts _ ol.2.2) rfl (by show lc.size = _; rw [hc.2.2.1]; exact hs.1.1) rfl hd hR.1 ?_ w
  show 2 * 0 + ((st.map fun v => gVl ca ad v.1 v.2).map fun v => v.category).sum + 12 ≤ R.locals
  rw [hw]
  omega
/-- System.arraycopy of whole rows of ints -/
theorem Go_copy {a b idx n : Nat} {x : Int} (ol : Cond.methodLink (gOwn m) idx arraycopyName ∈ gTb ∧ Cond.native arraycopyName ∈ gTb ∧ Cond.static arraycopyName ∈ gTb ∧ Cond.initialized "java/lang/System" ∈ gTb) (ha : sh[a]? = some (1, n)) (hb : sh[b]? = some (1, n)) (hx : x = (n : Int)) (hR : 1 ≤ R.frames ∧ gWd st + (nativeFrameWords "java/lang/System" "arraycopy" 5 + 11) ≤ R.locals) (hd : decode (gCode m) pc = .ok (.invokestatic idx, 3))
    (k : Go D ca sc R m (pc + 3) ls st sh (gSet M b (fun j => if j < n then M a j else M b j)) rv sh' M') : Go D ca sc R m pc ls (gI x :: gI 0 :: gR b :: gI 0 :: gR a :: st) sh M rv sh' M' := by
  intro p l e s mi args below meth c Q ad H locs cells slots A H0 lc hc hs hr1 hr2 hk0
  obtain ⟨hl, hlo, hso, hok, hP, hD, hS⟩ := hs
  have hx3 : in32 x := ok_h hso
  have hts := hc.2.2.2.2.2.1
  have e0 : (Int32.ofInt x).toNatClampNeg = n := by rw [nn32 hx3]; omega
  show W p l e R s mi args below meth c H locs cells slots Q (F0 mi pc lc (.int (Int32.ofInt x) :: .int (Int32.ofInt 0) :: gVl ca ad 2 ((b : Int) + 1) :: .int (Int32.ofInt 0) :: gVl ca ad 2 ((a : Int) + 1) :: st.map fun v => gVl ca ad v.1 v.2))
  rw [gVl_R, gVl_R]
  have hw : ((st.map fun v => gVl ca ad v.1 v.2).map fun v => v.category).sum = gWd st := by
    rw [List.map_map]
    unfold gWd
    congr 1
    exact List.map_congr_left (fun v _ => cat_val ca ad v.1 v.2)
  refine va_copyi (f := fun j => Int32.ofInt (M a j)) (g := fun j => Int32.ofInt (M b j)) (n0 := n) (n1 := n) (ty := .int) (sp := Int32.ofInt 0) (dp := Int32.ofInt 0) (n := Int32.ofInt x) hc.1 hc.2.1 (by rw [hc.2.2.1]; exact hl.1.symm) hc.2.2.2.2.1 (hts _ ol.1) (hts _ ol.2.1) (hts _ ol.2.2.1) (hts _ ol.2.2.2) hc.2.2.2.2.2.2.2.1.1 hP hD hS a b 0 0 (gW_at ha) (gW_at hb) rfl rfl rfl (by decide) (by decide) (fun h => by rw [show (0 : Int32) = Int32.ofInt 0 from rfl, lt32 hx3 in32_0] at h; omega) (by rw [e0]; show (Int32.ofInt 0).toNatClampNeg + n ≤ n; rw [show (Int32.ofInt 0).toNatClampNeg = 0 from rfl]; omega) (by rw [e0]; show (Int32.ofInt 0).toNatClampNeg + n ≤ n; rw [show (Int32.ofInt 0).toNatClampNeg = 0 from rfl]; omega) (fun i _ => rfl) hR.1 (by rw [hw]; exact hR.2) hd (fun H1 locs1 hP1 hD1 hS1 => ?_)
  have e2 : va_cpy (fun j => Int32.ofInt (M a j)) (fun j => Int32.ofInt (M b j)) (Int32.ofInt 0).toNatClampNeg (Int32.ofInt 0).toNatClampNeg (Int32.ofInt x).toNatClampNeg = fun j => Int32.ofInt (if j < n then M a j else M b j) := by
    rw [e0, show (Int32.ofInt 0).toNatClampNeg = 0 from rfl]
    funext j
    simp only [va_cpy, Nat.zero_le, true_and, Nat.zero_add, Nat.sub_zero]
    by_cases hj : j < n
    · rw [if_pos hj, if_pos hj]
    · rw [if_neg hj, if_neg hj]
  rw [e2] at hP1 hD1
  have e3 := gW_set (ca := ca) (ad := ad) (M := M) hb (fun j => if j < n then M a j else M b j)
  have hP2 : va_P D vwCl (gW ca ad sh (gSet M b (fun j => if j < n then M a j else M b j))) H1 := by rw [← e3]; exact hP1
  have hD2 : va_D A (gW ca ad sh (gSet M b (fun j => if j < n then M a j else M b j))) := by rw [← e3]; exact hD1
  refine k p l e s mi args below meth c Q ad H1 locs1 cells slots A H0 lc hc ⟨hl, hlo, ok_t (ok_t (ok_t (ok_t (ok_t hso)))), gOk_set hok hb ?_, hP2, hD2, hS1⟩ hr1 hr2 hk0
  intro j
  show in32 (if j < n then M a j else M b j)
  split
  · exact hok a _ ha j
  · exact hok b _ hb j
/-- the end of a method -/
theorem Go_ret {stv : List gAV} (hst : stv = rv) (hd : decode (gCode m) pc = .ok (gRi rv, 1)) : Go D ca sc R m pc ls stv sh M rv sh M := by
  subst hst
  intro p l e s mi args below meth c Q ad H locs cells slots A H0 lc hc hs hr1 hr2 hk
  exact hk ad H locs cells slots lc pc (fun _ _ => rfl) hs.2.2.1 hs.2.2.2.1 hs.2.2.2.2.1 hs.2.2.2.2.2.1 hs.2.2.2.2.2.2 (Nat.le_refl _) (Nat.le_refl _) hd
end GC
