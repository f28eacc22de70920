/-! the memory as whole numbers: cells by their numbers, places in them; the judgement Go over it -/
abbrev gAV : Type := Nat × Int
abbrev gMem : Type := Nat → Nat → Int
abbrev gShp : Type := List (Nat × Nat)
/-- a method: name, code, its class, places for locals, type of its answer, whether it is a constructor, frames and words below it -/
abbrev gMd : Type := MethodName × ByteArray × String × Nat × Option FieldType × Bool × Nat × Nat
abbrev gNm (m : gMd) : MethodName := m.1
abbrev gCode (m : gMd) : ByteArray := m.2.1
abbrev gOwn (m : gMd) : String := m.2.2.1
abbrev gNL (m : gMd) : Nat := m.2.2.2.1
abbrev gRet (m : gMd) : Option FieldType := m.2.2.2.2.1
abbrev gIni (m : gMd) : Bool := m.2.2.2.2.2.1
abbrev gFr (m : gMd) : Nat := m.2.2.2.2.2.2.1
abbrev gLo (m : gMd) : Nat := m.2.2.2.2.2.2.2
abbrev gI (x : Int) : gAV := (0, x)
abbrev gJ (x : Int) : gAV := (1, x)
abbrev gR (k : Nat) : gAV := (2, (k : Int) + 1)
abbrev gNull : gAV := (2, 0)
abbrev gS : gAV := (4, 0)
def gFt (c : Nat) : List Nat := match c with
  | 0 => [2, 0, 0, 1]
  | 1 => [0, 0, 2]
  | 2 => [2, 0, 0]
  | 3 => [2, 2, 0, 0]
  | 4 => [2, 2, 2, 2, 0, 1]
  | 5 => [1, 0, 0, 0, 0, 1, 0, 0, 0, 2]
  | 6 => [0, 0, 0, 2, 2, 2, 2, 2, 2]
  | 7 => [2]
  | 8 => [2, 2, 2, 2, 2, 2, 2, 2, 3]
  | 9 => [0, 2, 2, 2, 0, 2, 2, 2, 2, 0, 2, 2, 2, 0, 2, 2, 2, 2, 2, 2, 2, 2, 0, 1, 0, 0, 1, 0, 0, 0, 0, 0, 0, 0, 1, 2, 0, 1, 1]
  | _ => []
def gRf (ad : Nat → Nat) (x : Int) : Option Nat := if x = 0 then none else some (ad (x.toNat - 1))
def gVl (ca : Nat → ClassId) (ad : Nat → Nat) (t : Nat) (x : Int) : Value := match t with
  | 0 => .int (Int32.ofInt x)
  | 1 => .long (Int64.ofInt x)
  | 2 => va_rf (gRf ad x)
  | 3 => .int (Int32.ofInt x)
  | _ => .ref (ca 9)
def gEnt (ca : Nat → ClassId) (ad : Nat → Nat) (k : Nat × Nat) (r : Nat → Int) : va_E := match k.1 with
  | 0 => .inr (k.2, (gFt k.2).mapIdx (fun j t => gVl ca ad t (r j)))
  | 1 => .inl (ca 0, k.2, .inl (fun j => Int32.ofInt (r j)))
  | 2 => .inl (ca 1, k.2, .inr (.inl (fun j => Int64.ofInt (r j))))
  | t + 3 => .inl (ca (t + 2), k.2, .inr (.inr (.inr (.inr (fun j => gRf ad (r j))))))
def gW (ca : Nat → ClassId) (ad : Nat → Nat) (sh : gShp) (M : gMem) : va_W := sh.mapIdx (fun i k => (ad i, gEnt ca ad k (M i)))
def gOkV (n t : Nat) (x : Int) : Prop := match t with
  | 0 => in32 x
  | 1 => in64 x
  | 2 => 0 ≤ x ∧ x ≤ n
  | 3 => x = 0 ∨ x = 1
  | _ => True
def gOkK (n : Nat) (k : Nat × Nat) (r : Nat → Int) : Prop := match k.1 with
  | 0 => ∀ j t, (gFt k.2)[j]? = some t → gOkV n t (r j)
  | 1 => ∀ j, in32 (r j)
  | 2 => ∀ j, in64 (r j)
  | _ => ∀ j, 0 ≤ r j ∧ r j ≤ n
def gOk (sh : gShp) (M : gMem) : Prop := ∀ i k, sh[i]? = some k → gOkK sh.length k (M i)
def gKs (k : Nat × Nat) : Nat := if k.1 = 0 then (gFt k.2).length else k.2
def gSz (sh : gShp) : Nat := (sh.map gKs).sum
def gTy (ca : Nat → ClassId) : List (ClassId × FieldType) := [(ca 0, .int), (ca 1, .long), (ca 2, .object "BreadOvens$Valley"), (ca 3, .object "BreadOvens$Chart")]
def gTb : List Cond := lw_tbl.filter goodWord
def gNest : List (String × Nat × MethodName × String) := [("BreadOvens", 13, ⟨"BreadOvens$Valley", "<init>", "()V"⟩, "BreadOvens"), ("BreadOvens$Diary", 24, ⟨"BreadOvens$Valley", "<init>", "()V"⟩, "BreadOvens"), ("BreadOvens", 33, ⟨"BreadOvens$Ways", "<init>", "()V"⟩, "BreadOvens"), ("BreadOvens", 49, ⟨"BreadOvens$Survey", "<init>", "()V"⟩, "BreadOvens"), ("BreadOvens", 76, ⟨"BreadOvens$Chart", "<init>", "()V"⟩, "BreadOvens"), ("BreadOvens$Valley", 40, ⟨"BreadOvens", "isWithin", "(JJJ)Z"⟩, "BreadOvens"), ("BreadOvens$Ovens", 65, ⟨"BreadOvens", "isIn", "(II)Z"⟩, "BreadOvens"), ("BreadOvens$Survey", 86, ⟨"BreadOvens", "isIn", "(II)Z"⟩, "BreadOvens"), ("BreadOvens$Builder", 51, ⟨"BreadOvens", "isIn", "(II)Z"⟩, "BreadOvens"), ("BreadOvens$Purse", 100, ⟨"BreadOvens", "isIn", "(II)Z"⟩, "BreadOvens")]
/-- what the tables say, as far as it isn't in gTb -/
def gKx (D : va_G) (ca : Nat → ClassId) (U : State) : Prop := va_K D vwCl (gTy ca) U ∧ (∀ q ∈ gNest, va_Nw (.methodLinkNest q.1 q.2.1 q.2.2.1 q.2.2.2) U) ∧ va_AO "BreadOvens$Valley" U ∧ va_AO "BreadOvens$Chart" U
theorem gKx.warm {D : va_G} {ca : Nat → ClassId} {s U : State} (hW : s.WarmedH U.vm) (h : gKx D ca s) : gKx D ca U := ⟨va_K.moved hW.alike h.1, fun q hq => va_Nw.warmM hW (h.2.1 q hq), h.2.2.1.moved hW.alike, h.2.2.2.moved hW.alike⟩
theorem gKx.same {D : va_G} {ca : Nat → ClassId} {s U : State} (hv : s.vm = U.vm) (h : gKx D ca s) : gKx D ca U := ⟨va_K.moved (by rw [hv]; exact Vm.Alike.refl _) h.1, fun q hq => va_Nw.same rfl hv (h.2.1 q hq), h.2.2.1.moved (by rw [hv]; exact Vm.Alike.refl _), h.2.2.2.moved (by rw [hv]; exact Vm.Alike.refl _)⟩
abbrev gScr : Type := Option (Nat × (Nat → Int))
def gSc (ca : Nat → ClassId) (sc : gScr) (s : State) (A : Nat → Prop) (H0 : Heap) : Prop := match sc with
  | none => True
  | some q => va_X (ca 9) q.1 (fun j => Int32.ofInt (q.2 j)) s H0 ∧ ca 9 < H0.size ∧ ¬ A (ca 9) ∧ (∀ j, in32 (q.2 j)) ∧ q.1 ≤ 2560
def gCx (D : va_G) (ca : Nat → ClassId) (sc : gScr) (m : gMd) (p : Program) (s : State) (mi : MethodId) (args : Array Value) (meth : Method) (c : Code) (A : Nat → Prop) (H0 : Heap) : Prop :=
  p.tables.exec = Jvm.exec ∧ c.code = gCode m ∧ c.maxLocals = gNL m ∧ meth.sig.returnType = gRet m ∧ s.vm.findClass (gOwn m) = some mi.cls ∧ (∀ w ∈ gTb, w.before args s = true) ∧ meth.locks = false ∧ gKx D ca s ∧ (gIni m = true → meth.name = "<init>") ∧ (∀ q, H0.size ≤ q → A q) ∧ gSc ca sc s A H0
abbrev gLs : Type := List (Nat × gAV)
def gSt (D : va_G) (ca : Nat → ClassId) (m : gMd) (ls : gLs) (st : List gAV) (sh : gShp) (M : gMem) (ad : Nat → Nat) (H : Heap) (locs : List Loc) (A : Nat → Prop) (H0 : Heap) (lc : Array Slot) : Prop :=
  lv_has lc (gNL m) (ls.map fun q => (q.1, gVl ca ad q.2.1 q.2.2)) ∧ (∀ q ∈ ls, gOkV sh.length q.2.1 q.2.2) ∧ (∀ v ∈ st, gOkV sh.length v.1 v.2) ∧ gOk sh M ∧ va_P D vwCl (gW ca ad sh M) H ∧ va_D A (gW ca ad sh M) ∧ va_S A H0 H locs
def gRi (rv : List gAV) : Instr := match rv with
  | [] => .return_
  | v :: _ => if v.1 = 1 then .lreturn else .ireturn
def gK (D : va_G) (ca : Nat → ClassId) (R : Room) (m : gMd) (p : Program) (l : Launch) (e : Env) (s : State) (mi : MethodId) (args : Array Value) (below : List Frame) (meth : Method) (c : Code) (Q : State → Prop) (ad : Nat → Nat) (sh : gShp) (cells slots : Nat) (A : Nat → Prop) (H0 : Heap) (rv : List gAV) (sh' : gShp) (M' : gMem) : Prop :=
  ∀ (ad' : Nat → Nat) (H' : Heap) (locs' : List Loc) (cells' slots' : Nat) (lc' : Array Slot) (pc' : Nat), (∀ i, i < sh.length → ad' i = ad i) → (∀ v ∈ rv, gOkV sh'.length v.1 v.2) → gOk sh' M' → va_P D vwCl (gW ca ad' sh' M') H' → va_D A (gW ca ad' sh' M') → va_S A H0 H' locs' → cells' + sh.length ≤ cells + sh'.length → slots' + gSz sh ≤ slots + gSz sh' → decode (gCode m) pc' = .ok (gRi rv, 1) →
    W p l e R s mi args below meth c H' locs' cells' slots' Q (F0 mi pc' lc' (rv.map fun v => gVl ca ad' v.1 v.2))
/-- from this place of the method, with these locals, this stack and this memory, it comes to its answer rv and leaves the memory M' -/
def Go (D : va_G) (ca : Nat → ClassId) (sc : gScr) (R : Room) (m : gMd) (pc : Nat) (ls : gLs) (st : List gAV) (sh : gShp) (M : gMem) (rv : List gAV) (sh' : gShp) (M' : gMem) : Prop :=
  ∀ (p : Program) (l : Launch) (e : Env) (s : State) (mi : MethodId) (args : Array Value) (below : List Frame) (meth : Method) (c : Code) (Q : State → Prop) (ad : Nat → Nat) (H : Heap) (locs : List Loc) (cells slots : Nat) (A : Nat → Prop) (H0 : Heap) (lc : Array Slot),
    gCx D ca sc m p s mi args meth c A H0 → gSt D ca m ls st sh M ad H locs A H0 lc → cells + sh'.length ≤ R.cells + sh.length → slots + gSz sh' ≤ R.slots + gSz sh → gK D ca R m p l e s mi args below meth c Q ad sh cells slots A H0 rv sh' M' →
    W p l e R s mi args below meth c H locs cells slots Q (F0 mi pc lc (st.map fun v => gVl ca ad v.1 v.2))
section GO
variable {D : va_G} {ca : Nat → ClassId} {sc : gScr} {R : Room} {m : gMd} {pc pc' : Nat} {ls ls' : gLs} {st st' : List gAV} {sh sh' : gShp} {M M' : gMem} {rv : List gAV}
/-- the stack alone changes -/
theorem Go_step (h : ∀ (p : Program) (l : Launch) (e : Env) (s : State) (mi : MethodId) (args : Array Value) (below : List Frame) (meth : Method) (c : Code) (Q : State → Prop) (ad : Nat → Nat) (H : Heap) (locs : List Loc) (cells slots : Nat) (A : Nat → Prop) (H0 : Heap) (lc : Array Slot),
    gCx D ca sc m p s mi args meth c A H0 → gSt D ca m ls st sh M ad H locs A H0 lc → (∀ v ∈ st', gOkV sh.length v.1 v.2) ∧ (W p l e R s mi args below meth c H locs cells slots Q (F0 mi pc' lc (st'.map fun v => gVl ca ad v.1 v.2)) → W p l e R s mi args below meth c H locs cells slots Q (F0 mi pc lc (st.map fun v => gVl ca ad v.1 v.2))))
    (k : Go D ca sc R m pc' ls st' sh M rv sh' M') : Go D ca sc R m pc ls st sh M rv sh' M' := by
  intro p l e s mi args below meth c Q ad H locs cells slots A H0 lc hc hs hr1 hr2 hk
  obtain ⟨h1, h2⟩ := h p l e s mi args below meth c Q ad H locs cells slots A H0 lc hc hs
  exact h2 (k p l e s mi args below meth c Q ad H locs cells slots A H0 lc hc ⟨hs.1, hs.2.1, h1, hs.2.2.2⟩ hr1 hr2 hk)
theorem ok_c {n : Nat} {v : gAV} {vs : List gAV} (h1 : gOkV n v.1 v.2) (h2 : ∀ u ∈ vs, gOkV n u.1 u.2) : ∀ u ∈ v :: vs, gOkV n u.1 u.2 := List.forall_mem_cons.mpr ⟨h1, h2⟩
theorem ok_h {n : Nat} {v : gAV} {vs : List gAV} (h : ∀ u ∈ v :: vs, gOkV n u.1 u.2) : gOkV n v.1 v.2 := (List.forall_mem_cons.mp h).1
theorem ok_t {n : Nat} {v : gAV} {vs : List gAV} (h : ∀ u ∈ v :: vs, gOkV n u.1 u.2) : ∀ u ∈ vs, gOkV n u.1 u.2 := (List.forall_mem_cons.mp h).2
theorem Go_iadd {x y : Int} (hd : decode (gCode m) pc = .ok (.iadd, 1)) (k : Go D ca sc R m (pc + 1) ls (gI (w32 (x + y)) :: st) sh M rv sh' M') : Go D ca sc R m pc ls (gI y :: gI x :: st) sh M rv sh' M' := by
  refine Go_step (st' := gI (w32 (x + y)) :: st) (fun p l e s mi args below meth c Q ad H locs cells slots A H0 lc hc hs => ⟨ok_c (w32_in _) ((ok_t (ok_t hs.2.2.1))), fun w => ?_⟩) k
  refine lv_iadd (x := Int32.ofInt x) (y := Int32.ofInt y) hc.1 hc.2.1 hd ?_
  rw [o32_add]
  exact w
theorem Go_isub {x y : Int} (hd : decode (gCode m) pc = .ok (.isub, 1)) (k : Go D ca sc R m (pc + 1) ls (gI (w32 (x - y)) :: st) sh M rv sh' M') : Go D ca sc R m pc ls (gI y :: gI x :: st) sh M rv sh' M' := by
  refine Go_step (st' := gI (w32 (x - y)) :: st) (fun p l e s mi args below meth c Q ad H locs cells slots A H0 lc hc hs => ⟨ok_c (w32_in _) ((ok_t (ok_t hs.2.2.1))), fun w => ?_⟩) k
  refine lv_isub (x := Int32.ofInt x) (y := Int32.ofInt y) hc.1 hc.2.1 hd ?_
  rw [o32_sub]
  exact w
theorem Go_imul {x y : Int} (hd : decode (gCode m) pc = .ok (.imul, 1)) (k : Go D ca sc R m (pc + 1) ls (gI (w32 (x * y)) :: st) sh M rv sh' M') : Go D ca sc R m pc ls (gI y :: gI x :: st) sh M rv sh' M' := by
  refine Go_step (st' := gI (w32 (x * y)) :: st) (fun p l e s mi args below meth c Q ad H locs cells slots A H0 lc hc hs => ⟨ok_c (w32_in _) ((ok_t (ok_t hs.2.2.1))), fun w => ?_⟩) k
  refine lv_imul (x := Int32.ofInt x) (y := Int32.ofInt y) hc.1 hc.2.1 hd ?_
  rw [o32_mul]
  exact w
theorem Go_iand {x y : Int} (hd : decode (gCode m) pc = .ok (.iand, 1)) (k : Go D ca sc R m (pc + 1) ls (gI (a32 x y) :: st) sh M rv sh' M') : Go D ca sc R m pc ls (gI y :: gI x :: st) sh M rv sh' M' := by
  refine Go_step (st' := gI (a32 x y) :: st) (fun p l e s mi args below meth c Q ad H locs cells slots A H0 lc hc hs => ⟨ok_c (t32 _) ((ok_t (ok_t hs.2.2.1))), fun w => ?_⟩) k
  refine lv_iand (x := Int32.ofInt x) (y := Int32.ofInt y) hc.1 hc.2.1 hd ?_
  rw [show Int32.ofInt x &&& Int32.ofInt y = Int32.ofInt (a32 x y) from (ot32 _).symm]
  exact w
theorem Go_ior {x y : Int} (hd : decode (gCode m) pc = .ok (.ior, 1)) (k : Go D ca sc R m (pc + 1) ls (gI (r32 x y) :: st) sh M rv sh' M') : Go D ca sc R m pc ls (gI y :: gI x :: st) sh M rv sh' M' := by
  refine Go_step (st' := gI (r32 x y) :: st) (fun p l e s mi args below meth c Q ad H locs cells slots A H0 lc hc hs => ⟨ok_c (t32 _) ((ok_t (ok_t hs.2.2.1))), fun w => ?_⟩) k
  refine lv_ior (x := Int32.ofInt x) (y := Int32.ofInt y) hc.1 hc.2.1 hd ?_
  rw [show Int32.ofInt x ||| Int32.ofInt y = Int32.ofInt (r32 x y) from (ot32 _).symm]
  exact w
theorem Go_ixor {x y : Int} (hd : decode (gCode m) pc = .ok (.ixor, 1)) (k : Go D ca sc R m (pc + 1) ls (gI (x32 x y) :: st) sh M rv sh' M') : Go D ca sc R m pc ls (gI y :: gI x :: st) sh M rv sh' M' := by
  refine Go_step (st' := gI (x32 x y) :: st) (fun p l e s mi args below meth c Q ad H locs cells slots A H0 lc hc hs => ⟨ok_c (t32 _) ((ok_t (ok_t hs.2.2.1))), fun w => ?_⟩) k
  refine lv_ixor (x := Int32.ofInt x) (y := Int32.ofInt y) hc.1 hc.2.1 hd ?_
  rw [show Int32.ofInt x ^^^ Int32.ofInt y = Int32.ofInt (x32 x y) from (ot32 _).symm]
  exact w
theorem Go_ishl {x y : Int} (hd : decode (gCode m) pc = .ok (.ishl, 1)) (k : Go D ca sc R m (pc + 1) ls (gI (l32 x y) :: st) sh M rv sh' M') : Go D ca sc R m pc ls (gI y :: gI x :: st) sh M rv sh' M' := by
  refine Go_step (st' := gI (l32 x y) :: st) (fun p l e s mi args below meth c Q ad H locs cells slots A H0 lc hc hs => ⟨ok_c (t32 _) ((ok_t (ok_t hs.2.2.1))), fun w => ?_⟩) k
  refine lv_ishl (x := Int32.ofInt x) (y := Int32.ofInt y) hc.1 hc.2.1 hd ?_
  rw [show Int32.ofInt x <<< (Int32.ofInt y &&& 31) = Int32.ofInt (l32 x y) from (ot32 _).symm]
  exact w
theorem Go_ishr {x y : Int} (hd : decode (gCode m) pc = .ok (.ishr, 1)) (k : Go D ca sc R m (pc + 1) ls (gI (s32 x y) :: st) sh M rv sh' M') : Go D ca sc R m pc ls (gI y :: gI x :: st) sh M rv sh' M' := by
  refine Go_step (st' := gI (s32 x y) :: st) (fun p l e s mi args below meth c Q ad H locs cells slots A H0 lc hc hs => ⟨ok_c (t32 _) ((ok_t (ok_t hs.2.2.1))), fun w => ?_⟩) k
  refine lv_ishr (x := Int32.ofInt x) (y := Int32.ofInt y) hc.1 hc.2.1 hd ?_
  rw [show Int32.ofInt x >>> (Int32.ofInt y &&& 31) = Int32.ofInt (s32 x y) from (ot32 _).symm]
  exact w
theorem Go_idiv {x y : Int} (hne : y ≠ 0) (hd : decode (gCode m) pc = .ok (.idiv, 1)) (k : Go D ca sc R m (pc + 1) ls (gI (d32 x y) :: st) sh M rv sh' M') : Go D ca sc R m pc ls (gI y :: gI x :: st) sh M rv sh' M' := by
  refine Go_step (st' := gI (d32 x y) :: st) (fun p l e s mi args below meth c Q ad H locs cells slots A H0 lc hc hs => ⟨ok_c (t32 _) ((ok_t (ok_t hs.2.2.1))), fun w => ?_⟩) k
  have hy : in32 y := ok_h hs.2.2.1
  refine lv_idiv (x := Int32.ofInt x) (y := Int32.ofInt y) hc.1 hc.2.1 hd (fun h => hne ((eq32 hy in32_0).mp h)) ?_
  rw [show Int32.ofInt x / Int32.ofInt y = Int32.ofInt (d32 x y) from (ot32 _).symm]
  exact w
theorem Go_irem {x y : Int} (hne : y ≠ 0) (hd : decode (gCode m) pc = .ok (.irem, 1)) (k : Go D ca sc R m (pc + 1) ls (gI (m32 x y) :: st) sh M rv sh' M') : Go D ca sc R m pc ls (gI y :: gI x :: st) sh M rv sh' M' := by
  refine Go_step (st' := gI (m32 x y) :: st) (fun p l e s mi args below meth c Q ad H locs cells slots A H0 lc hc hs => ⟨ok_c (t32 _) ((ok_t (ok_t hs.2.2.1))), fun w => ?_⟩) k
  have hy : in32 y := ok_h hs.2.2.1
  refine lv_irem (x := Int32.ofInt x) (y := Int32.ofInt y) hc.1 hc.2.1 hd (fun h => hne ((eq32 hy in32_0).mp h)) ?_
  rw [show Int32.ofInt x - Int32.ofInt x / Int32.ofInt y * Int32.ofInt y = Int32.ofInt (m32 x y) from (ot32 _).symm]
  exact w
theorem Go_iushr {x y : Int} (hd : decode (gCode m) pc = .ok (.iushr, 1)) (k : Go D ca sc R m (pc + 1) ls (gI (u32 x y) :: st) sh M rv sh' M') : Go D ca sc R m pc ls (gI y :: gI x :: st) sh M rv sh' M' := by
  refine Go_step (st' := gI (u32 x y) :: st) (fun p l e s mi args below meth c Q ad H locs cells slots A H0 lc hc hs => ⟨ok_c (t32 _) ((ok_t (ok_t hs.2.2.1))), fun w => ?_⟩) k
  refine lv_iushr (x := Int32.ofInt x) (y := Int32.ofInt y) (v := Int32.ofInt (u32 x y)) hc.1 hc.2.1 hd (ot32 _).symm ?_
  exact w
theorem Go_ineg {x : Int} (hd : decode (gCode m) pc = .ok (.ineg, 1)) (k : Go D ca sc R m (pc + 1) ls (gI (w32 (-x)) :: st) sh M rv sh' M') : Go D ca sc R m pc ls (gI x :: st) sh M rv sh' M' := by
  refine Go_step (st' := gI (w32 (-x)) :: st) (fun p l e s mi args below meth c Q ad H locs cells slots A H0 lc hc hs => ⟨ok_c (w32_in _) ((ok_t hs.2.2.1)), fun w => ?_⟩) k
  refine lv_ineg (x := Int32.ofInt x) hc.1 hc.2.1 hd ?_
  rw [o32_neg]
  exact w
theorem Go_ladd {x y : Int} (hd : decode (gCode m) pc = .ok (.ladd, 1)) (k : Go D ca sc R m (pc + 1) ls (gJ (w64 (x + y)) :: st) sh M rv sh' M') : Go D ca sc R m pc ls (gJ y :: gJ x :: st) sh M rv sh' M' := by
  refine Go_step (st' := gJ (w64 (x + y)) :: st) (fun p l e s mi args below meth c Q ad H locs cells slots A H0 lc hc hs => ⟨ok_c (w64_in _) ((ok_t (ok_t hs.2.2.1))), fun w => ?_⟩) k
  refine lv_ladd (x := Int64.ofInt x) (y := Int64.ofInt y) hc.1 hc.2.1 hd ?_
  rw [o64_add]
  exact w
theorem Go_lsub {x y : Int} (hd : decode (gCode m) pc = .ok (.lsub, 1)) (k : Go D ca sc R m (pc + 1) ls (gJ (w64 (x - y)) :: st) sh M rv sh' M') : Go D ca sc R m pc ls (gJ y :: gJ x :: st) sh M rv sh' M' := by
  refine Go_step (st' := gJ (w64 (x - y)) :: st) (fun p l e s mi args below meth c Q ad H locs cells slots A H0 lc hc hs => ⟨ok_c (w64_in _) ((ok_t (ok_t hs.2.2.1))), fun w => ?_⟩) k
  refine lv_lsub (x := Int64.ofInt x) (y := Int64.ofInt y) hc.1 hc.2.1 hd ?_
  rw [o64_sub]
  exact w
theorem Go_lmul {x y : Int} (hd : decode (gCode m) pc = .ok (.lmul, 1)) (k : Go D ca sc R m (pc + 1) ls (gJ (w64 (x * y)) :: st) sh M rv sh' M') : Go D ca sc R m pc ls (gJ y :: gJ x :: st) sh M rv sh' M' := by
  refine Go_step (st' := gJ (w64 (x * y)) :: st) (fun p l e s mi args below meth c Q ad H locs cells slots A H0 lc hc hs => ⟨ok_c (w64_in _) ((ok_t (ok_t hs.2.2.1))), fun w => ?_⟩) k
  refine lv_lmul (x := Int64.ofInt x) (y := Int64.ofInt y) hc.1 hc.2.1 hd ?_
  rw [o64_mul]
  exact w
theorem Go_land {x y : Int} (hd : decode (gCode m) pc = .ok (.land, 1)) (k : Go D ca sc R m (pc + 1) ls (gJ (a64 x y) :: st) sh M rv sh' M') : Go D ca sc R m pc ls (gJ y :: gJ x :: st) sh M rv sh' M' := by
  refine Go_step (st' := gJ (a64 x y) :: st) (fun p l e s mi args below meth c Q ad H locs cells slots A H0 lc hc hs => ⟨ok_c (t64 _) ((ok_t (ok_t hs.2.2.1))), fun w => ?_⟩) k
  refine lv_land (x := Int64.ofInt x) (y := Int64.ofInt y) hc.1 hc.2.1 hd ?_
  rw [show Int64.ofInt x &&& Int64.ofInt y = Int64.ofInt (a64 x y) from (ot64 _).symm]
  exact w
theorem Go_lor {x y : Int} (hd : decode (gCode m) pc = .ok (.lor, 1)) (k : Go D ca sc R m (pc + 1) ls (gJ (r64 x y) :: st) sh M rv sh' M') : Go D ca sc R m pc ls (gJ y :: gJ x :: st) sh M rv sh' M' := by
  refine Go_step (st' := gJ (r64 x y) :: st) (fun p l e s mi args below meth c Q ad H locs cells slots A H0 lc hc hs => ⟨ok_c (t64 _) ((ok_t (ok_t hs.2.2.1))), fun w => ?_⟩) k
  refine lv_lor (x := Int64.ofInt x) (y := Int64.ofInt y) hc.1 hc.2.1 hd ?_
  rw [show Int64.ofInt x ||| Int64.ofInt y = Int64.ofInt (r64 x y) from (ot64 _).symm]
  exact w
theorem Go_lneg {x : Int} (hd : decode (gCode m) pc = .ok (.lneg, 1)) (k : Go D ca sc R m (pc + 1) ls (gJ (w64 (-x)) :: st) sh M rv sh' M') : Go D ca sc R m pc ls (gJ x :: st) sh M rv sh' M' := by
  refine Go_step (st' := gJ (w64 (-x)) :: st) (fun p l e s mi args below meth c Q ad H locs cells slots A H0 lc hc hs => ⟨ok_c (w64_in _) ((ok_t hs.2.2.1)), fun w => ?_⟩) k
  refine lv_lneg (x := Int64.ofInt x) hc.1 hc.2.1 hd ?_
  rw [o64_neg]
  exact w
theorem Go_lshl {x y : Int} (hd : decode (gCode m) pc = .ok (.lshl, 1)) (k : Go D ca sc R m (pc + 1) ls (gJ (l64 x y) :: st) sh M rv sh' M') : Go D ca sc R m pc ls (gI y :: gJ x :: st) sh M rv sh' M' := by
  refine Go_step (st' := gJ (l64 x y) :: st) (fun p l e s mi args below meth c Q ad H locs cells slots A H0 lc hc hs => ⟨ok_c (t64 _) ((ok_t (ok_t hs.2.2.1))), fun w => ?_⟩) k
  refine lv_lshl (x := Int64.ofInt x) (y := Int32.ofInt y) (v := Int64.ofInt (l64 x y)) hc.1 hc.2.1 hd (ot64 _).symm ?_
  exact w
theorem Go_i2l {x : Int} (hd : decode (gCode m) pc = .ok (.i2l, 1)) (k : Go D ca sc R m (pc + 1) ls (gJ x :: st) sh M rv sh' M') : Go D ca sc R m pc ls (gI x :: st) sh M rv sh' M' := by
  refine Go_step (st' := gJ x :: st) (fun p l e s mi args below meth c Q ad H locs cells slots A H0 lc hc hs => ⟨ok_c (in32_64 (ok_h hs.2.2.1)) ((ok_t hs.2.2.1)), fun w => ?_⟩) k
  refine lv_i2l (x := Int32.ofInt x) (v := Int64.ofInt x) hc.1 hc.2.1 hd (i2l_ok (ok_h hs.2.2.1)) ?_
  exact w
theorem Go_l2i {x : Int} (hd : decode (gCode m) pc = .ok (.l2i, 1)) (k : Go D ca sc R m (pc + 1) ls (gI (w32 x) :: st) sh M rv sh' M') : Go D ca sc R m pc ls (gJ x :: st) sh M rv sh' M' := by
  refine Go_step (st' := gI (w32 x) :: st) (fun p l e s mi args below meth c Q ad H locs cells slots A H0 lc hc hs => ⟨ok_c (w32_in _) ((ok_t hs.2.2.1)), fun w => ?_⟩) k
  refine lv_l2i (x := Int64.ofInt x) (v := Int32.ofInt (w32 x)) hc.1 hc.2.1 hd (l2i_ok (ok_h hs.2.2.1)) ?_
  exact w
theorem Go_i2b {x : Int} (hd : decode (gCode m) pc = .ok (.i2b, 1)) (k : Go D ca sc R m (pc + 1) ls (gI (b32 x) :: st) sh M rv sh' M') : Go D ca sc R m pc ls (gI x :: st) sh M rv sh' M' := by
  refine Go_step (st' := gI (b32 x) :: st) (fun p l e s mi args below meth c Q ad H locs cells slots A H0 lc hc hs => ⟨ok_c (t32 _) ((ok_t hs.2.2.1)), fun w => ?_⟩) k
  refine lv_i2b (x := Int32.ofInt x) (v := Int32.ofInt (b32 x)) hc.1 hc.2.1 hd (ot32 _).symm ?_
  exact w
theorem Go_lcmp {x y : Int} (hd : decode (gCode m) pc = .ok (.lcmp, 1)) (k : Go D ca sc R m (pc + 1) ls (gI (cmpI x y) :: st) sh M rv sh' M') : Go D ca sc R m pc ls (gJ y :: gJ x :: st) sh M rv sh' M' := by
  refine Go_step (st' := gI (cmpI x y) :: st) (fun p l e s mi args below meth c Q ad H locs cells slots A H0 lc hc hs => ⟨ok_c (cmp_in _ _) ((ok_t (ok_t hs.2.2.1))), fun w => ?_⟩) k
  refine W.lcmp (x := Int64.ofInt x) (y := Int64.ofInt y) hc.1 hc.2.1 hd ?_
  rw [cmp_ok (ok_h (ok_t hs.2.2.1)) (ok_h hs.2.2.1)]
  exact w
theorem Go_iconst {n : Int} (hn : in32 n) (hd : decode (gCode m) pc = .ok (.iconst n, 1)) (k : Go D ca sc R m (pc + 1) ls (gI n :: st) sh M rv sh' M') : Go D ca sc R m pc ls (st) sh M rv sh' M' := by
  refine Go_step (st' := gI n :: st) (fun p l e s mi args below meth c Q ad H locs cells slots A H0 lc hc hs => ⟨ok_c hn (hs.2.2.1), fun w => ?_⟩) k
  exact lv_iconst (v := Int32.ofInt n) hc.1 hc.2.1 hd rfl w
theorem Go_bipush {n : Int} (hn : (Int8.ofInt n).toInt32 = Int32.ofInt n ∧ in32 n) (hd : decode (gCode m) pc = .ok (.bipush n, 2)) (k : Go D ca sc R m (pc + 2) ls (gI n :: st) sh M rv sh' M') : Go D ca sc R m pc ls (st) sh M rv sh' M' := by
  refine Go_step (st' := gI n :: st) (fun p l e s mi args below meth c Q ad H locs cells slots A H0 lc hc hs => ⟨ok_c hn.2 (hs.2.2.1), fun w => ?_⟩) k
  exact lv_bipush (v := Int32.ofInt n) hc.1 hc.2.1 hd hn.1 w
theorem Go_sipush {n : Int} (hn : (Int16.ofInt n).toInt32 = Int32.ofInt n ∧ in32 n) (hd : decode (gCode m) pc = .ok (.sipush n, 3)) (k : Go D ca sc R m (pc + 3) ls (gI n :: st) sh M rv sh' M') : Go D ca sc R m pc ls (st) sh M rv sh' M' := by
  refine Go_step (st' := gI n :: st) (fun p l e s mi args below meth c Q ad H locs cells slots A H0 lc hc hs => ⟨ok_c hn.2 (hs.2.2.1), fun w => ?_⟩) k
  exact lv_sipush (v := Int32.ofInt n) hc.1 hc.2.1 hd hn.1 w
theorem Go_lconst {n : Fin 2} {v : Int} (hn : Int64.ofNat (n : Nat) = Int64.ofInt v ∧ in64 v) (hd : decode (gCode m) pc = .ok (.lconst n, 1)) (k : Go D ca sc R m (pc + 1) ls (gJ v :: st) sh M rv sh' M') : Go D ca sc R m pc ls (st) sh M rv sh' M' := by
  refine Go_step (st' := gJ v :: st) (fun p l e s mi args below meth c Q ad H locs cells slots A H0 lc hc hs => ⟨ok_c hn.2 (hs.2.2.1), fun w => ?_⟩) k
  exact lv_lconst (v := Int64.ofInt v) hc.1 hc.2.1 hd hn.1 w
theorem Go_ldc {i : Nat} {v : Int} (hn : Cond.constant (gOwn m) i (Int32.ofInt v) ∈ gTb) (hv : in32 v) (hd : decode (gCode m) pc = .ok (.ldc i, 2)) (k : Go D ca sc R m (pc + 2) ls (gI v :: st) sh M rv sh' M') : Go D ca sc R m pc ls (st) sh M rv sh' M' := by
  refine Go_step (st' := gI v :: st) (fun p l e s mi args below meth c Q ad H locs cells slots A H0 lc hc hs => ⟨ok_c hv (hs.2.2.1), fun w => ?_⟩) k
  exact lv_ldc (v := Int32.ofInt v) hc.1 hc.2.1 hc.2.2.2.2.1 (hc.2.2.2.2.2.1 _ hn) hd w
theorem Go_ldcw {i : Nat} {v : Int} (hn : Cond.constant (gOwn m) i (Int32.ofInt v) ∈ gTb) (hv : in32 v) (hd : decode (gCode m) pc = .ok (.ldc_w i, 3)) (k : Go D ca sc R m (pc + 3) ls (gI v :: st) sh M rv sh' M') : Go D ca sc R m pc ls (st) sh M rv sh' M' := by
  refine Go_step (st' := gI v :: st) (fun p l e s mi args below meth c Q ad H locs cells slots A H0 lc hc hs => ⟨ok_c hv (hs.2.2.1), fun w => ?_⟩) k
  exact lv_ldcw (v := Int32.ofInt v) hc.1 hc.2.1 hc.2.2.2.2.1 (hc.2.2.2.2.2.1 _ hn) hd w
theorem Go_ldc2 {i : Nat} {v : Int} (hn : Cond.constantLong (gOwn m) i (Int64.ofInt v) ∈ gTb) (hv : in64 v) (hd : decode (gCode m) pc = .ok (.ldc2_w i, 3)) (k : Go D ca sc R m (pc + 3) ls (gJ v :: st) sh M rv sh' M') : Go D ca sc R m pc ls (st) sh M rv sh' M' := by
  refine Go_step (st' := gJ v :: st) (fun p l e s mi args below meth c Q ad H locs cells slots A H0 lc hc hs => ⟨ok_c hv (hs.2.2.1), fun w => ?_⟩) k
  exact lv_ldc2 (v := Int64.ofInt v) hc.1 hc.2.1 hc.2.2.2.2.1 (hc.2.2.2.2.2.1 _ hn) hd w
theorem Go_dupI {x : Int} (hd : decode (gCode m) pc = .ok (.dup, 1)) (k : Go D ca sc R m (pc + 1) ls (gI x :: gI x :: st) sh M rv sh' M') : Go D ca sc R m pc ls (gI x :: st) sh M rv sh' M' := by
  refine Go_step (st' := gI x :: gI x :: st) (fun p l e s mi args below meth c Q ad H locs cells slots A H0 lc hc hs => ⟨ok_c (ok_h hs.2.2.1) (ok_c (ok_h hs.2.2.1) ((ok_t hs.2.2.1))), fun w => ?_⟩) k
  exact lv_dup (va := .int (Int32.ofInt x)) hc.1 hc.2.1 hd rfl w
theorem Go_dupR {x : Int} (hd : decode (gCode m) pc = .ok (.dup, 1)) (k : Go D ca sc R m (pc + 1) ls ((2, x) :: (2, x) :: st) sh M rv sh' M') : Go D ca sc R m pc ls ((2, x) :: st) sh M rv sh' M' := by
  refine Go_step (st' := (2, x) :: (2, x) :: st) (fun p l e s mi args below meth c Q ad H locs cells slots A H0 lc hc hs => ⟨ok_c (ok_h hs.2.2.1) (ok_c (ok_h hs.2.2.1) ((ok_t hs.2.2.1))), fun w => ?_⟩) k
  refine lv_dup (va := va_rf (gRf ad x)) hc.1 hc.2.1 hd ?_ w
  rcases va_rf_or (gRf ad x) with h | ⟨a, h⟩ <;> rw [h] <;> rfl
theorem at_iload {ad : Nat → Nat} {lc : Array Slot} {nL k i : Nat} {x : Int} (hl : lv_has lc nL (ls.map fun q => (q.1, gVl ca ad q.2.1 q.2.2))) (hk : ls[k]? = some (i, gI x)) : lc[i]? = some (.val (.int (Int32.ofInt x))) := hl.2.2 (i, .int (Int32.ofInt x)) (List.mem_map.mpr ⟨(i, gI x), List.mem_of_getElem? hk, rfl⟩)
theorem Go_iload {x : Int} {i : Nat} (k0 : Nat) (hk : ls[k0]? = some (i, gI x)) (hd : decode (gCode m) pc = .ok (.iload i, 2)) (k : Go D ca sc R m (pc + 2) ls (gI x :: st) sh M rv sh' M') : Go D ca sc R m pc ls (st) sh M rv sh' M' := by
  refine Go_step (st' := gI x :: st) (fun p l e s mi args below meth c Q ad H locs cells slots A H0 lc hc hs => ⟨ok_c (hs.2.1 _ (List.mem_of_getElem? hk)) (hs.2.2.1), fun w => ?_⟩) k
  exact lv_iload hc.1 hc.2.1 hd (at_iload hs.1 hk) w
theorem Go_iload_n {x : Int} {i : Nat} {n : Fin 4} (k0 : Nat) (hi : (n : Nat) = i) (hk : ls[k0]? = some (i, gI x)) (hd : decode (gCode m) pc = .ok (.iload_n n, 1)) (k : Go D ca sc R m (pc + 1) ls (gI x :: st) sh M rv sh' M') : Go D ca sc R m pc ls (st) sh M rv sh' M' := by
  refine Go_step (st' := gI x :: st) (fun p l e s mi args below meth c Q ad H locs cells slots A H0 lc hc hs => ⟨ok_c (hs.2.1 _ (List.mem_of_getElem? hk)) (hs.2.2.1), fun w => ?_⟩) k
  exact lv_iload_n hc.1 hc.2.1 hd hi (at_iload hs.1 hk) w
theorem at_lload {ad : Nat → Nat} {lc : Array Slot} {nL k i : Nat} {x : Int} (hl : lv_has lc nL (ls.map fun q => (q.1, gVl ca ad q.2.1 q.2.2))) (hk : ls[k]? = some (i, gJ x)) : lc[i]? = some (.val (.long (Int64.ofInt x))) := hl.2.2 (i, .long (Int64.ofInt x)) (List.mem_map.mpr ⟨(i, gJ x), List.mem_of_getElem? hk, rfl⟩)
theorem Go_lload {x : Int} {i : Nat} (k0 : Nat) (hk : ls[k0]? = some (i, gJ x)) (hd : decode (gCode m) pc = .ok (.lload i, 2)) (k : Go D ca sc R m (pc + 2) ls (gJ x :: st) sh M rv sh' M') : Go D ca sc R m pc ls (st) sh M rv sh' M' := by
  refine Go_step (st' := gJ x :: st) (fun p l e s mi args below meth c Q ad H locs cells slots A H0 lc hc hs => ⟨ok_c (hs.2.1 _ (List.mem_of_getElem? hk)) (hs.2.2.1), fun w => ?_⟩) k
  exact lv_lload hc.1 hc.2.1 hd (at_lload hs.1 hk) w
theorem Go_lload_n {x : Int} {i : Nat} {n : Fin 4} (k0 : Nat) (hi : (n : Nat) = i) (hk : ls[k0]? = some (i, gJ x)) (hd : decode (gCode m) pc = .ok (.lload_n n, 1)) (k : Go D ca sc R m (pc + 1) ls (gJ x :: st) sh M rv sh' M') : Go D ca sc R m pc ls (st) sh M rv sh' M' := by
  refine Go_step (st' := gJ x :: st) (fun p l e s mi args below meth c Q ad H locs cells slots A H0 lc hc hs => ⟨ok_c (hs.2.1 _ (List.mem_of_getElem? hk)) (hs.2.2.1), fun w => ?_⟩) k
  exact lv_lload_n hc.1 hc.2.1 hd hi (at_lload hs.1 hk) w
theorem gVl_R {ad : Nat → Nat} (k : Nat) : gVl ca ad 2 ((k : Int) + 1) = .ref (ad k) := by
  have h1 : ((k : Int) + 1) ≠ 0 := by omega
  have h2 : ((k : Int) + 1).toNat - 1 = k := by omega
  simp only [gVl, gRf, if_neg h1, h2, va_rf]
theorem at_aload {ad : Nat → Nat} {lc : Array Slot} {nL k i : Nat} {x : Nat} (hl : lv_has lc nL (ls.map fun q => (q.1, gVl ca ad q.2.1 q.2.2))) (hk : ls[k]? = some (i, gR x)) : lc[i]? = some (.val (.ref (ad x))) := hl.2.2 (i, .ref (ad x)) (List.mem_map.mpr ⟨(i, gR x), List.mem_of_getElem? hk, by rw [← gVl_R (ca := ca)]⟩)
theorem at_sload {ad : Nat → Nat} {lc : Array Slot} {nL k i : Nat} (hl : lv_has lc nL (ls.map fun q => (q.1, gVl ca ad q.2.1 q.2.2))) (hk : ls[k]? = some (i, gS)) : lc[i]? = some (.val (.ref (ca 9))) := hl.2.2 (i, .ref (ca 9)) (List.mem_map.mpr ⟨(i, gS), List.mem_of_getElem? hk, rfl⟩)
theorem mapR {ad : Nat → Nat} (k : Nat) (st : List gAV) : (gR k :: st).map (fun v => gVl ca ad v.1 v.2) = .ref (ad k) :: st.map (fun v => gVl ca ad v.1 v.2) := by rw [List.map_cons, gVl_R]
theorem Go_aload_n {x : Nat} {i : Nat} {n : Fin 4} (k0 : Nat) (hi : (n : Nat) = i) (hk : ls[k0]? = some (i, gR x)) (hd : decode (gCode m) pc = .ok (.aload_n n, 1)) (k : Go D ca sc R m (pc + 1) ls (gR x :: st) sh M rv sh' M') : Go D ca sc R m pc ls (st) sh M rv sh' M' := by
  refine Go_step (st' := gR x :: st) (fun p l e s mi args below meth c Q ad H locs cells slots A H0 lc hc hs => ⟨ok_c (hs.2.1 _ (List.mem_of_getElem? hk)) (hs.2.2.1), fun w => ?_⟩) k
  refine lv_aload_n hc.1 hc.2.1 hd hi (at_aload hs.1 hk) ?_
  rw [mapR] at w
  exact w
theorem Go_sload_n {i : Nat} {n : Fin 4} (k0 : Nat) (hi : (n : Nat) = i) (hk : ls[k0]? = some (i, gS)) (hd : decode (gCode m) pc = .ok (.aload_n n, 1)) (k : Go D ca sc R m (pc + 1) ls (gS :: st) sh M rv sh' M') : Go D ca sc R m pc ls (st) sh M rv sh' M' := by
  refine Go_step (st' := gS :: st) (fun p l e s mi args below meth c Q ad H locs cells slots A H0 lc hc hs => ⟨ok_c trivial (hs.2.2.1), fun w => ?_⟩) k
  exact lv_aload_n hc.1 hc.2.1 hd hi (at_sload hs.1 hk) w
theorem Go_icmp_eq {x y : Int} {off : Int} {tgt : Nat} (hd : decode (gCode m) pc = .ok (.if_icmp .eq off, 3)) (ht : (pc : Int) + off = (tgt : Int)) (kt : x = y → Go D ca sc R m tgt ls (st) sh M rv sh' M') (kf : x ≠ y → Go D ca sc R m (pc + 3) ls (st) sh M rv sh' M') : Go D ca sc R m pc ls (gI y :: gI x :: st) sh M rv sh' M' := by
  intro p l e s mi args below meth c Q ad H locs cells slots A H0 lc hc hs hr1 hr2 hk
  have hy : in32 y := ok_h hs.2.2.1
  have hx : in32 x := ok_h (ok_t hs.2.2.1)
  have w1 := fun q => kt q p l e s mi args below meth c Q ad H locs cells slots A H0 lc hc ⟨hs.1, hs.2.1, (ok_t (ok_t hs.2.2.1)), hs.2.2.2⟩ hr1 hr2 hk
  have w2 := fun q => kf q p l e s mi args below meth c Q ad H locs cells slots A H0 lc hc ⟨hs.1, hs.2.1, (ok_t (ok_t hs.2.2.1)), hs.2.2.2⟩ hr1 hr2 hk
  exact lv_icmp_eq (x := Int32.ofInt x) (y := Int32.ofInt y) hc.1 hc.2.1 hd ht (fun h => w1 ((eq32 hx hy).mp h)) (fun h => w2 (fun q => h ((eq32 hx hy).mpr q)))
theorem Go_if_eq {x : Int} {off : Int} {tgt : Nat} (hd : decode (gCode m) pc = .ok (.ifCond .eq off, 3)) (ht : (pc : Int) + off = (tgt : Int)) (kt : x = 0 → Go D ca sc R m tgt ls (st) sh M rv sh' M') (kf : x ≠ 0 → Go D ca sc R m (pc + 3) ls (st) sh M rv sh' M') : Go D ca sc R m pc ls (gI x :: st) sh M rv sh' M' := by
  intro p l e s mi args below meth c Q ad H locs cells slots A H0 lc hc hs hr1 hr2 hk
  have hx : in32 x := ok_h hs.2.2.1
  have hy : in32 0 := in32_0
  have w1 := fun q => kt q p l e s mi args below meth c Q ad H locs cells slots A H0 lc hc ⟨hs.1, hs.2.1, (ok_t hs.2.2.1), hs.2.2.2⟩ hr1 hr2 hk
  have w2 := fun q => kf q p l e s mi args below meth c Q ad H locs cells slots A H0 lc hc ⟨hs.1, hs.2.1, (ok_t hs.2.2.1), hs.2.2.2⟩ hr1 hr2 hk
  exact lv_if_eq (x := Int32.ofInt x) hc.1 hc.2.1 hd ht (fun h => w1 ((eq32 hx hy).mp h)) (fun h => w2 (fun q => h ((eq32 hx hy).mpr q)))
theorem Go_icmp_ne {x y : Int} {off : Int} {tgt : Nat} (hd : decode (gCode m) pc = .ok (.if_icmp .ne off, 3)) (ht : (pc : Int) + off = (tgt : Int)) (kt : x ≠ y → Go D ca sc R m tgt ls (st) sh M rv sh' M') (kf : x = y → Go D ca sc R m (pc + 3) ls (st) sh M rv sh' M') : Go D ca sc R m pc ls (gI y :: gI x :: st) sh M rv sh' M' := by
  intro p l e s mi args below meth c Q ad H locs cells slots A H0 lc hc hs hr1 hr2 hk
  have hy : in32 y := ok_h hs.2.2.1
  have hx : in32 x := ok_h (ok_t hs.2.2.1)
  have w1 := fun q => kt q p l e s mi args below meth c Q ad H locs cells slots A H0 lc hc ⟨hs.1, hs.2.1, (ok_t (ok_t hs.2.2.1)), hs.2.2.2⟩ hr1 hr2 hk
  have w2 := fun q => kf q p l e s mi args below meth c Q ad H locs cells slots A H0 lc hc ⟨hs.1, hs.2.1, (ok_t (ok_t hs.2.2.1)), hs.2.2.2⟩ hr1 hr2 hk
  exact lv_icmp_ne (x := Int32.ofInt x) (y := Int32.ofInt y) hc.1 hc.2.1 hd ht (fun h => w1 (fun q => h ((eq32 hx hy).mpr q))) (fun h => w2 ((eq32 hx hy).mp h))
theorem Go_if_ne {x : Int} {off : Int} {tgt : Nat} (hd : decode (gCode m) pc = .ok (.ifCond .ne off, 3)) (ht : (pc : Int) + off = (tgt : Int)) (kt : x ≠ 0 → Go D ca sc R m tgt ls (st) sh M rv sh' M') (kf : x = 0 → Go D ca sc R m (pc + 3) ls (st) sh M rv sh' M') : Go D ca sc R m pc ls (gI x :: st) sh M rv sh' M' := by
  intro p l e s mi args below meth c Q ad H locs cells slots A H0 lc hc hs hr1 hr2 hk
  have hx : in32 x := ok_h hs.2.2.1
  have hy : in32 0 := in32_0
  have w1 := fun q => kt q p l e s mi args below meth c Q ad H locs cells slots A H0 lc hc ⟨hs.1, hs.2.1, (ok_t hs.2.2.1), hs.2.2.2⟩ hr1 hr2 hk
  have w2 := fun q => kf q p l e s mi args below meth c Q ad H locs cells slots A H0 lc hc ⟨hs.1, hs.2.1, (ok_t hs.2.2.1), hs.2.2.2⟩ hr1 hr2 hk
  exact lv_if_ne (x := Int32.ofInt x) hc.1 hc.2.1 hd ht (fun h => w1 (fun q => h ((eq32 hx hy).mpr q))) (fun h => w2 ((eq32 hx hy).mp h))
theorem Go_icmp_lt {x y : Int} {off : Int} {tgt : Nat} (hd : decode (gCode m) pc = .ok (.if_icmp .lt off, 3)) (ht : (pc : Int) + off = (tgt : Int)) (kt : x < y → Go D ca sc R m tgt ls (st) sh M rv sh' M') (kf : y ≤ x → Go D ca sc R m (pc + 3) ls (st) sh M rv sh' M') : Go D ca sc R m pc ls (gI y :: gI x :: st) sh M rv sh' M' := by
  intro p l e s mi args below meth c Q ad H locs cells slots A H0 lc hc hs hr1 hr2 hk
  have hy : in32 y := ok_h hs.2.2.1
  have hx : in32 x := ok_h (ok_t hs.2.2.1)
  have w1 := fun q => kt q p l e s mi args below meth c Q ad H locs cells slots A H0 lc hc ⟨hs.1, hs.2.1, (ok_t (ok_t hs.2.2.1)), hs.2.2.2⟩ hr1 hr2 hk
  have w2 := fun q => kf q p l e s mi args below meth c Q ad H locs cells slots A H0 lc hc ⟨hs.1, hs.2.1, (ok_t (ok_t hs.2.2.1)), hs.2.2.2⟩ hr1 hr2 hk
  exact lv_icmp_lt (x := Int32.ofInt x) (y := Int32.ofInt y) hc.1 hc.2.1 hd ht (fun h => w1 ((lt32 hx hy).mp h)) (fun h => w2 (Int.not_lt.mp (fun q => h ((lt32 hx hy).mpr q))))
theorem Go_if_lt {x : Int} {off : Int} {tgt : Nat} (hd : decode (gCode m) pc = .ok (.ifCond .lt off, 3)) (ht : (pc : Int) + off = (tgt : Int)) (kt : x < 0 → Go D ca sc R m tgt ls (st) sh M rv sh' M') (kf : 0 ≤ x → Go D ca sc R m (pc + 3) ls (st) sh M rv sh' M') : Go D ca sc R m pc ls (gI x :: st) sh M rv sh' M' := by
  intro p l e s mi args below meth c Q ad H locs cells slots A H0 lc hc hs hr1 hr2 hk
  have hx : in32 x := ok_h hs.2.2.1
  have hy : in32 0 := in32_0
  have w1 := fun q => kt q p l e s mi args below meth c Q ad H locs cells slots A H0 lc hc ⟨hs.1, hs.2.1, (ok_t hs.2.2.1), hs.2.2.2⟩ hr1 hr2 hk
  have w2 := fun q => kf q p l e s mi args below meth c Q ad H locs cells slots A H0 lc hc ⟨hs.1, hs.2.1, (ok_t hs.2.2.1), hs.2.2.2⟩ hr1 hr2 hk
  exact lv_if_lt (x := Int32.ofInt x) hc.1 hc.2.1 hd ht (fun h => w1 ((lt32 hx hy).mp h)) (fun h => w2 (Int.not_lt.mp (fun q => h ((lt32 hx hy).mpr q))))
theorem Go_icmp_ge {x y : Int} {off : Int} {tgt : Nat} (hd : decode (gCode m) pc = .ok (.if_icmp .ge off, 3)) (ht : (pc : Int) + off = (tgt : Int)) (kt : y ≤ x → Go D ca sc R m tgt ls (st) sh M rv sh' M') (kf : x < y → Go D ca sc R m (pc + 3) ls (st) sh M rv sh' M') : Go D ca sc R m pc ls (gI y :: gI x :: st) sh M rv sh' M' := by
  intro p l e s mi args below meth c Q ad H locs cells slots A H0 lc hc hs hr1 hr2 hk
  have hy : in32 y := ok_h hs.2.2.1
  have hx : in32 x := ok_h (ok_t hs.2.2.1)
  have w1 := fun q => kt q p l e s mi args below meth c Q ad H locs cells slots A H0 lc hc ⟨hs.1, hs.2.1, (ok_t (ok_t hs.2.2.1)), hs.2.2.2⟩ hr1 hr2 hk
  have w2 := fun q => kf q p l e s mi args below meth c Q ad H locs cells slots A H0 lc hc ⟨hs.1, hs.2.1, (ok_t (ok_t hs.2.2.1)), hs.2.2.2⟩ hr1 hr2 hk
  exact lv_icmp_ge (x := Int32.ofInt x) (y := Int32.ofInt y) hc.1 hc.2.1 hd ht (fun h => w1 ((le32 hy hx).mp h)) (fun h => w2 (Int.not_le.mp (fun q => h ((le32 hy hx).mpr q))))
theorem Go_if_ge {x : Int} {off : Int} {tgt : Nat} (hd : decode (gCode m) pc = .ok (.ifCond .ge off, 3)) (ht : (pc : Int) + off = (tgt : Int)) (kt : 0 ≤ x → Go D ca sc R m tgt ls (st) sh M rv sh' M') (kf : x < 0 → Go D ca sc R m (pc + 3) ls (st) sh M rv sh' M') : Go D ca sc R m pc ls (gI x :: st) sh M rv sh' M' := by
  intro p l e s mi args below meth c Q ad H locs cells slots A H0 lc hc hs hr1 hr2 hk
  have hx : in32 x := ok_h hs.2.2.1
  have hy : in32 0 := in32_0
  have w1 := fun q => kt q p l e s mi args below meth c Q ad H locs cells slots A H0 lc hc ⟨hs.1, hs.2.1, (ok_t hs.2.2.1), hs.2.2.2⟩ hr1 hr2 hk
  have w2 := fun q => kf q p l e s mi args below meth c Q ad H locs cells slots A H0 lc hc ⟨hs.1, hs.2.1, (ok_t hs.2.2.1), hs.2.2.2⟩ hr1 hr2 hk
  exact lv_if_ge (x := Int32.ofInt x) hc.1 hc.2.1 hd ht (fun h => w1 ((le32 hy hx).mp h)) (fun h => w2 (Int.not_le.mp (fun q => h ((le32 hy hx).mpr q))))
theorem Go_icmp_gt {x y : Int} {off : Int} {tgt : Nat} (hd : decode (gCode m) pc = .ok (.if_icmp .gt off, 3)) (ht : (pc : Int) + off = (tgt : Int)) (kt : y < x → Go D ca sc R m tgt ls (st) sh M rv sh' M') (kf : x ≤ y → Go D ca sc R m (pc + 3) ls (st) sh M rv sh' M') : Go D ca sc R m pc ls (gI y :: gI x :: st) sh M rv sh' M' := by
  intro p l e s mi args below meth c Q ad H locs cells slots A H0 lc hc hs hr1 hr2 hk
  have hy : in32 y := ok_h hs.2.2.1
  have hx : in32 x := ok_h (ok_t hs.2.2.1)
  have w1 := fun q => kt q p l e s mi args below meth c Q ad H locs cells slots A H0 lc hc ⟨hs.1, hs.2.1, (ok_t (ok_t hs.2.2.1)), hs.2.2.2⟩ hr1 hr2 hk
  have w2 := fun q => kf q p l e s mi args below meth c Q ad H locs cells slots A H0 lc hc ⟨hs.1, hs.2.1, (ok_t (ok_t hs.2.2.1)), hs.2.2.2⟩ hr1 hr2 hk
  exact lv_icmp_gt (x := Int32.ofInt x) (y := Int32.ofInt y) hc.1 hc.2.1 hd ht (fun h => w1 ((lt32 hy hx).mp h)) (fun h => w2 (Int.not_lt.mp (fun q => h ((lt32 hy hx).mpr q))))
theorem Go_if_gt {x : Int} {off : Int} {tgt : Nat} (hd : decode (gCode m) pc = .ok (.ifCond .gt off, 3)) (ht : (pc : Int) + off = (tgt : Int)) (kt : 0 < x → Go D ca sc R m tgt ls (st) sh M rv sh' M') (kf : x ≤ 0 → Go D ca sc R m (pc + 3) ls (st) sh M rv sh' M') : Go D ca sc R m pc ls (gI x :: st) sh M rv sh' M' := by
  intro p l e s mi args below meth c Q ad H locs cells slots A H0 lc hc hs hr1 hr2 hk
  have hx : in32 x := ok_h hs.2.2.1
  have hy : in32 0 := in32_0
  have w1 := fun q => kt q p l e s mi args below meth c Q ad H locs cells slots A H0 lc hc ⟨hs.1, hs.2.1, (ok_t hs.2.2.1), hs.2.2.2⟩ hr1 hr2 hk
  have w2 := fun q => kf q p l e s mi args below meth c Q ad H locs cells slots A H0 lc hc ⟨hs.1, hs.2.1, (ok_t hs.2.2.1), hs.2.2.2⟩ hr1 hr2 hk
  exact lv_if_gt (x := Int32.ofInt x) hc.1 hc.2.1 hd ht (fun h => w1 ((lt32 hy hx).mp h)) (fun h => w2 (Int.not_lt.mp (fun q => h ((lt32 hy hx).mpr q))))
theorem Go_icmp_le {x y : Int} {off : Int} {tgt : Nat} (hd : decode (gCode m) pc = .ok (.if_icmp .le off, 3)) (ht : (pc : Int) + off = (tgt : Int)) (kt : x ≤ y → Go D ca sc R m tgt ls (st) sh M rv sh' M') (kf : y < x → Go D ca sc R m (pc + 3) ls (st) sh M rv sh' M') : Go D ca sc R m pc ls (gI y :: gI x :: st) sh M rv sh' M' := by
  intro p l e s mi args below meth c Q ad H locs cells slots A H0 lc hc hs hr1 hr2 hk
  have hy : in32 y := ok_h hs.2.2.1
  have hx : in32 x := ok_h (ok_t hs.2.2.1)
  have w1 := fun q => kt q p l e s mi args below meth c Q ad H locs cells slots A H0 lc hc ⟨hs.1, hs.2.1, (ok_t (ok_t hs.2.2.1)), hs.2.2.2⟩ hr1 hr2 hk
  have w2 := fun q => kf q p l e s mi args below meth c Q ad H locs cells slots A H0 lc hc ⟨hs.1, hs.2.1, (ok_t (ok_t hs.2.2.1)), hs.2.2.2⟩ hr1 hr2 hk
  exact lv_icmp_le (x := Int32.ofInt x) (y := Int32.ofInt y) hc.1 hc.2.1 hd ht (fun h => w1 ((le32 hx hy).mp h)) (fun h => w2 (Int.not_le.mp (fun q => h ((le32 hx hy).mpr q))))
theorem Go_if_le {x : Int} {off : Int} {tgt : Nat} (hd : decode (gCode m) pc = .ok (.ifCond .le off, 3)) (ht : (pc : Int) + off = (tgt : Int)) (kt : x ≤ 0 → Go D ca sc R m tgt ls (st) sh M rv sh' M') (kf : 0 < x → Go D ca sc R m (pc + 3) ls (st) sh M rv sh' M') : Go D ca sc R m pc ls (gI x :: st) sh M rv sh' M' := by
  intro p l e s mi args below meth c Q ad H locs cells slots A H0 lc hc hs hr1 hr2 hk
  have hx : in32 x := ok_h hs.2.2.1
  have hy : in32 0 := in32_0
  have w1 := fun q => kt q p l e s mi args below meth c Q ad H locs cells slots A H0 lc hc ⟨hs.1, hs.2.1, (ok_t hs.2.2.1), hs.2.2.2⟩ hr1 hr2 hk
  have w2 := fun q => kf q p l e s mi args below meth c Q ad H locs cells slots A H0 lc hc ⟨hs.1, hs.2.1, (ok_t hs.2.2.1), hs.2.2.2⟩ hr1 hr2 hk
  exact lv_if_le (x := Int32.ofInt x) hc.1 hc.2.1 hd ht (fun h => w1 ((le32 hx hy).mp h)) (fun h => w2 (Int.not_le.mp (fun q => h ((le32 hx hy).mpr q))))
theorem Go_goto {off : Int} {tgt : Nat} (hd : decode (gCode m) pc = .ok (.goto off, 3)) (ht : (pc : Int) + off = (tgt : Int)) (k : Go D ca sc R m tgt ls (st) sh M rv sh' M') : Go D ca sc R m pc ls (st) sh M rv sh' M' :=
  Go_step (fun p l e s mi args below meth c Q ad H locs cells slots A H0 lc hc hs => ⟨hs.2.2.1, fun w => lv_goto hc.1 hc.2.1 hd ht w⟩) k
end GO
