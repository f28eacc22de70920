def gSet (M : gMem) (i : Nat) (r : Nat → Int) : gMem := fun i' => if i' = i then r else M i'
def gUp (r : Nat → Int) (j : Nat) (x : Int) : Nat → Int := fun j' => if j' = j then x else r j'
theorem gSet_s (M : gMem) (i : Nat) (r : Nat → Int) : gSet M i r i = r := if_pos rfl
theorem gSet_n {M : gMem} {i i' : Nat} {r : Nat → Int} (h : i' ≠ i) : gSet M i r i' = M i' := if_neg h
theorem gUp_s (r : Nat → Int) (j : Nat) (x : Int) : gUp r j x j = x := if_pos rfl
theorem gUp_n {r : Nat → Int} {j j' : Nat} {x : Int} (h : j' ≠ j) : gUp r j x j' = r j' := if_neg h
section GM
variable {D : va_G} {ca : Nat → ClassId} {sc : gScr} {R : Room} {m : gMd} {pc pc' : Nat} {ls ls' : gLs} {st st' : List gAV} {sh sh' : gShp} {M M' : gMem} {rv : List gAV}
theorem cat_gVl (ad : Nat → Nat) (t : Nat) (x : Int) : ((gVl ca ad t x).category == 2) = (t == 1) := by
  match t with
  | 0 => rfl
  | 1 => rfl
  | 2 =>
    show ((va_rf (gRf ad x)).category == 2) = false
    rcases va_rf_or (gRf ad x) with h | ⟨a, h⟩ <;> rw [h] <;> rfl
  | 3 => rfl
  | n + 4 => rfl
theorem flt_1 (ad : Nat → Nat) (i : Nat) : (ls.map fun q => (q.1, gVl ca ad q.2.1 q.2.2)).filter (fun q => !(q.1 == i) && !(q.1 + 1 == i && q.2.category == 2)) = (ls.filter (fun q => !(q.1 == i) && !(q.1 + 1 == i && q.2.1 == 1))).map fun q => (q.1, gVl ca ad q.2.1 q.2.2) := by
  rw [List.filter_map]
  congr 1
  refine List.filter_congr (fun q _ => ?_)
  show (!(q.1 == i) && !(q.1 + 1 == i && (gVl ca ad q.2.1 q.2.2).category == 2)) = _
  rw [cat_gVl]
theorem flt_2 (ad : Nat → Nat) (i : Nat) : (ls.map fun q => (q.1, gVl ca ad q.2.1 q.2.2)).filter (fun q => !(q.1 == i) && (!(q.1 == i + 1) && !(q.1 + 1 == i && q.2.category == 2))) = (ls.filter (fun q => !(q.1 == i) && (!(q.1 == i + 1) && !(q.1 + 1 == i && q.2.1 == 1)))).map fun q => (q.1, gVl ca ad q.2.1 q.2.2) := by
  rw [List.filter_map]
  congr 1
  refine List.filter_congr (fun q _ => ?_)
  show (!(q.1 == i) && (!(q.1 == i + 1) && !(q.1 + 1 == i && (gVl ca ad q.2.1 q.2.2).category == 2))) = _
  rw [cat_gVl]
/-- fewer locals are known -/
theorem Go_ls (h : ∀ q ∈ ls', q ∈ ls) (k : Go D ca sc R m pc ls' (st) sh M rv sh' M') : Go D ca sc R m pc ls (st) sh M rv sh' M' := by
  intro p l e s mi args below meth c Q ad H locs cells slots A H0 lc hc hs hr1 hr2 hk
  obtain ⟨hl, hlo, hso, hok, hP, hD, hS⟩ := hs
  exact k p l e s mi args below meth c Q ad H locs cells slots A H0 lc hc ⟨⟨hl.1, hl.2.1, fun q hq => by
    obtain ⟨z, hz, rfl⟩ := List.mem_map.mp hq
    exact hl.2.2 _ (List.mem_map.mpr ⟨z, h z hz, rfl⟩)⟩, fun q hq => hlo q (h q hq), hso, hok, hP, hD, hS⟩ hr1 hr2 hk
theorem Go_pick (ks : List Nat) (h : ks.map (fun k => ls[k]?) = ls'.map some) (k : Go D ca sc R m pc ls' (st) sh M rv sh' M') : Go D ca sc R m pc ls (st) sh M rv sh' M' := by
  refine Go_ls (fun q hq => ?_) k
  have h1 : some q ∈ ks.map (fun k => ls[k]?) := by rw [h]; exact List.mem_map.mpr ⟨q, hq, rfl⟩
  obtain ⟨j, -, hj⟩ := List.mem_map.mp h1
  exact List.mem_of_getElem? hj
theorem Go_istore_n {x : Int} {i : Nat} {n : Fin 4} (hi : (n : Nat) = i) (hd : decode (gCode m) pc = .ok (.istore_n n, 1)) (hn : i < gNL m) (hl' : (i, gI x) :: ls.filter (fun q => !(q.1 == i) && !(q.1 + 1 == i && q.2.1 == 1)) = ls') (k : Go D ca sc R m (pc + 1) ls' (st) sh M rv sh' M') : Go D ca sc R m pc ls (gI x :: st) sh M rv sh' M' := by
  intro p l e s mi args below meth c Q ad H locs cells slots A H0 lc hc hs hr1 hr2 hk
  obtain ⟨hl, hlo, hso, hok, hP, hD, hS⟩ := hs
  refine lv_istore_n (x := Int32.ofInt x) hc.1 hc.2.1 hd hi hl hn rfl (fun lc' hl2 => ?_)
  refine k p l e s mi args below meth c Q ad H locs cells slots A H0 lc' hc ⟨?_, ?_, ok_t hso, hok, hP, hD, hS⟩ hr1 hr2 hk
  · rw [flt_1] at hl2
    subst hl'
    exact hl2
  · subst hl'
    intro q hq
    rcases List.mem_cons.mp hq with rfl | hq
    · exact ok_h hso
    · exact hlo q (List.mem_filter.mp hq).1
theorem Go_lstore_n {x : Int} {i : Nat} {n : Fin 4} (hi : (n : Nat) = i) (hd : decode (gCode m) pc = .ok (.lstore_n n, 1)) (hn : i + 1 < gNL m) (hl' : (i, gJ x) :: ls.filter (fun q => !(q.1 == i) && (!(q.1 == i + 1) && !(q.1 + 1 == i && q.2.1 == 1))) = ls') (k : Go D ca sc R m (pc + 1) ls' (st) sh M rv sh' M') : Go D ca sc R m pc ls (gJ x :: st) sh M rv sh' M' := by
  intro p l e s mi args below meth c Q ad H locs cells slots A H0 lc hc hs hr1 hr2 hk
  obtain ⟨hl, hlo, hso, hok, hP, hD, hS⟩ := hs
  refine lv_lstore_n (x := Int64.ofInt x) hc.1 hc.2.1 hd hi hl hn rfl (fun lc' hl2 => ?_)
  refine k p l e s mi args below meth c Q ad H locs cells slots A H0 lc' hc ⟨?_, ?_, ok_t hso, hok, hP, hD, hS⟩ hr1 hr2 hk
  · rw [flt_2] at hl2
    subst hl'
    exact hl2
  · subst hl'
    intro q hq
    rcases List.mem_cons.mp hq with rfl | hq
    · exact ok_h hso
    · exact hlo q (List.mem_filter.mp hq).1
theorem Go_istore {x : Int} {i : Nat} (hd : decode (gCode m) pc = .ok (.istore i, 2)) (hn : i < gNL m) (hl' : (i, gI x) :: ls.filter (fun q => !(q.1 == i) && !(q.1 + 1 == i && q.2.1 == 1)) = ls') (k : Go D ca sc R m (pc + 2) ls' (st) sh M rv sh' M') : Go D ca sc R m pc ls (gI x :: st) sh M rv sh' M' := by
  intro p l e s mi args below meth c Q ad H locs cells slots A H0 lc hc hs hr1 hr2 hk
  obtain ⟨hl, hlo, hso, hok, hP, hD, hS⟩ := hs
  refine lv_istore (x := Int32.ofInt x) hc.1 hc.2.1 hd hl hn rfl (fun lc' hl2 => ?_)
  refine k p l e s mi args below meth c Q ad H locs cells slots A H0 lc' hc ⟨?_, ?_, ok_t hso, hok, hP, hD, hS⟩ hr1 hr2 hk
  · rw [flt_1] at hl2
    subst hl'
    exact hl2
  · subst hl'
    intro q hq
    rcases List.mem_cons.mp hq with rfl | hq
    · exact ok_h hso
    · exact hlo q (List.mem_filter.mp hq).1
theorem Go_lstore {x : Int} {i : Nat} (hd : decode (gCode m) pc = .ok (.lstore i, 2)) (hn : i + 1 < gNL m) (hl' : (i, gJ x) :: ls.filter (fun q => !(q.1 == i) && (!(q.1 == i + 1) && !(q.1 + 1 == i && q.2.1 == 1))) = ls') (k : Go D ca sc R m (pc + 2) ls' (st) sh M rv sh' M') : Go D ca sc R m pc ls (gJ x :: st) sh M rv sh' M' := by
  intro p l e s mi args below meth c Q ad H locs cells slots A H0 lc hc hs hr1 hr2 hk
  obtain ⟨hl, hlo, hso, hok, hP, hD, hS⟩ := hs
  refine lv_lstore (x := Int64.ofInt x) hc.1 hc.2.1 hd hl hn rfl (fun lc' hl2 => ?_)
  refine k p l e s mi args below meth c Q ad H locs cells slots A H0 lc' hc ⟨?_, ?_, ok_t hso, hok, hP, hD, hS⟩ hr1 hr2 hk
  · rw [flt_2] at hl2
    subst hl'
    exact hl2
  · subst hl'
    intro q hq
    rcases List.mem_cons.mp hq with rfl | hq
    · exact ok_h hso
    · exact hlo q (List.mem_filter.mp hq).1
theorem Go_astore_n {x : Nat} {i : Nat} {n : Fin 4} (hi : (n : Nat) = i) (hd : decode (gCode m) pc = .ok (.astore_n n, 1)) (hn : i < gNL m) (hl' : (i, gR x) :: ls.filter (fun q => !(q.1 == i) && !(q.1 + 1 == i && q.2.1 == 1)) = ls') (k : Go D ca sc R m (pc + 1) ls' (st) sh M rv sh' M') : Go D ca sc R m pc ls (gR x :: st) sh M rv sh' M' := by
  intro p l e s mi args below meth c Q ad H locs cells slots A H0 lc hc hs hr1 hr2 hk
  obtain ⟨hl, hlo, hso, hok, hP, hD, hS⟩ := hs
  rw [mapR]
  refine lv_astore_n (x := ad x) hc.1 hc.2.1 hd hi hl hn rfl (fun lc' hl2 => ?_)
  refine k p l e s mi args below meth c Q ad H locs cells slots A H0 lc' hc ⟨?_, ?_, ok_t hso, hok, hP, hD, hS⟩ hr1 hr2 hk
  · rw [flt_1] at hl2
    subst hl'
    rw [List.map_cons, gVl_R]
    exact hl2
  · subst hl'
    intro q hq
    rcases List.mem_cons.mp hq with rfl | hq
    · exact ok_h hso
    · exact hlo q (List.mem_filter.mp hq).1
theorem Go_iinc {x n : Int} {i : Nat} (k0 : Nat) (hk0 : ls[k0]? = some (i, gI x)) (hd : decode (gCode m) pc = .ok (.iinc i n, 3)) (hn : i < gNL m) (hl' : (i, gI (w32 (x + n))) :: ls.filter (fun q => !(q.1 == i) && !(q.1 + 1 == i && q.2.1 == 1)) = ls') (k : Go D ca sc R m (pc + 3) ls' (st) sh M rv sh' M') : Go D ca sc R m pc ls (st) sh M rv sh' M' := by
  intro p l e s mi args below meth c Q ad H locs cells slots A H0 lc hc hs hr1 hr2 hk
  obtain ⟨hl, hlo, hso, hok, hP, hD, hS⟩ := hs
  refine lv_iinc (x := Int32.ofInt x) (v := Int32.ofInt (w32 (x + n))) (k := k0) hc.1 hc.2.1 hd hl (by rw [List.getElem?_map, hk0]; rfl) (o32_add x n) hn rfl (fun lc' hl2 => ?_)
  refine k p l e s mi args below meth c Q ad H locs cells slots A H0 lc' hc ⟨?_, ?_, hso, hok, hP, hD, hS⟩ hr1 hr2 hk
  · rw [flt_1] at hl2
    subst hl'
    exact hl2
  · subst hl'
    intro q hq
    rcases List.mem_cons.mp hq with rfl | hq
    · exact w32_in _
    · exact hlo q (List.mem_filter.mp hq).1
theorem Go_tableOut {x dflt lo hi : Int} {offs : Array Int} {len tgt : Nat} (hd : decode (gCode m) pc = .ok (.tableswitch dflt lo hi offs, len)) (h : x < lo ∨ hi < x) (ht : (pc : Int) + dflt = (tgt : Int)) (k : Go D ca sc R m tgt ls (st) sh M rv sh' M') : Go D ca sc R m pc ls (gI x :: st) sh M rv sh' M' :=
  Go_step (st' := st) (fun p l e s mi args below meth c Q ad H locs cells slots A H0 lc hc hs => ⟨ok_t hs.2.2.1, fun w => lv_tableOut (x := Int32.ofInt x) hc.1 hc.2.1 hd (by rw [o32 (ok_h hs.2.2.1)]; exact h) ht w⟩) k
theorem Go_tableIn {x dflt lo hi off : Int} {offs : Array Int} {len tgt : Nat} (hd : decode (gCode m) pc = .ok (.tableswitch dflt lo hi offs, len)) (h1 : lo ≤ x) (h2 : x ≤ hi) (ho : offs[(x - lo).toNat]? = some off) (ht : (pc : Int) + off = (tgt : Int)) (k : Go D ca sc R m tgt ls (st) sh M rv sh' M') : Go D ca sc R m pc ls (gI x :: st) sh M rv sh' M' :=
  Go_step (st' := st) (fun p l e s mi args below meth c Q ad H locs cells slots A H0 lc hc hs => ⟨ok_t hs.2.2.1, fun w => lv_tableIn (x := Int32.ofInt x) hc.1 hc.2.1 hd (by rw [o32 (show in32 x from ok_h hs.2.2.1)]; omega) (by rw [o32 (show in32 x from ok_h hs.2.2.1)]; omega) (by rw [o32 (ok_h hs.2.2.1)]; exact ho) ht w⟩) k
theorem Go_lookup {x dflt off : Int} {ps : Array (Int × Int)} {len tgt : Nat} (hd : decode (gCode m) pc = .ok (.lookupswitch dflt ps, len)) (hp : (ps.toList.zip (ps.toList.drop 1)).all (fun (a, next) => a.1 < next.1) = true) (ho : Op.lookupswitch.offset ps.toList dflt x = off) (ht : (pc : Int) + off = (tgt : Int)) (k : Go D ca sc R m tgt ls (st) sh M rv sh' M') : Go D ca sc R m pc ls (gI x :: st) sh M rv sh' M' :=
  Go_step (st' := st) (fun p l e s mi args below meth c Q ad H locs cells slots A H0 lc hc hs => ⟨ok_t hs.2.2.1, fun w => lv_lookup (x := Int32.ofInt x) hc.1 hc.2.1 hd hp (by rw [o32 (ok_h hs.2.2.1)]; exact ho) ht w⟩) k
theorem gW_at {ad : Nat → Nat} {i : Nat} {k : Nat × Nat} (h : sh[i]? = some k) : (gW ca ad sh M)[i]? = some (ad i, gEnt ca ad k (M i)) := by
  simp [gW, List.getElem?_mapIdx, h]
theorem gW_set {ad : Nat → Nat} {i : Nat} {k : Nat × Nat} (h : sh[i]? = some k) (r : Nat → Int) : (gW ca ad sh M).set i (ad i, gEnt ca ad k r) = gW ca ad sh (gSet M i r) := by
  apply List.ext_getElem?
  intro j
  by_cases hj : i = j
  · subst hj
    have hlt : i < sh.length := (List.getElem?_eq_some_iff.mp h).1
    rw [gW_at h, List.getElem?_set_self (by simpa [gW] using hlt), gSet_s]
  · rw [List.getElem?_set_ne hj]
    simp only [gW, List.getElem?_mapIdx]
    congr 1
    funext k'
    rw [gSet_n (fun q => hj q.symm)]
theorem gOk_set {i : Nat} {k : Nat × Nat} {r : Nat → Int} (hok : gOk sh M) (h : sh[i]? = some k) (hr : gOkK sh.length k r) : gOk sh (gSet M i r) := by
  intro j k' hj
  by_cases e : j = i
  · subst e
    rw [gSet_s]
    cases h.symm.trans hj
    exact hr
  · rw [gSet_n e]
    exact hok j k' hj
/-- a field is read -/
def gFa (own : String) (idx ci j t : Nat) : Prop := ∃ q : vw_C, vwCl[ci]? = some q ∧ j < q.2.2 ∧ (∀ w ∈ u_ws q.1 q.2.1 q.2.2, w ∈ gTb) ∧ Cond.fieldLink own idx (q.2.1 j).1 (q.2.1 j).2.1 (q.2.1 j).2.2.1 ∈ gTb ∧ (gFt ci)[j]? = some t
theorem gFs_at {ad : Nat → Nat} {ci j t : Nat} (r : Nat → Int) (h : (gFt ci)[j]? = some t) : ((gFt ci).mapIdx (fun j t => gVl ca ad t (r j)))[j]? = some (gVl ca ad t (r j)) := by
  simp [List.getElem?_mapIdx, h]
theorem gFs_set {ad : Nat → Nat} {ci j t : Nat} (r : Nat → Int) (x : Int) (h : (gFt ci)[j]? = some t) : ((gFt ci).mapIdx (fun j t => gVl ca ad t (r j))).set j (gVl ca ad t x) = (gFt ci).mapIdx (fun j' t => gVl ca ad t (gUp r j x j')) := by
  apply List.ext_getElem?
  intro i
  by_cases hj : j = i
  · subst hj
    have hlt : j < (gFt ci).length := (List.getElem?_eq_some_iff.mp h).1
    rw [List.getElem?_set_self (by simpa using hlt)]
    simp only [List.getElem?_mapIdx, h, Option.map_some, gUp_s]
  · rw [List.getElem?_set_ne hj]
    simp only [List.getElem?_mapIdx]
    congr 1
    funext t'
    rw [gUp_n (fun q => hj q.symm)]
theorem gVl_3 (ad : Nat → Nat) (x : Int) : gVl ca ad 3 x = gVl ca ad 0 x := rfl
theorem Go_get0 {i ci j t t' idx : Nat} (fa : gFa (gOwn m) idx ci j t) (hk : sh[i]? = some (0, ci)) (hd : decode (gCode m) pc = .ok (.getfield idx, 3)) (ht : ∀ ad x, gVl ca ad t x = gVl ca ad t' x) (hto : ∀ n x, gOkV n t x → gOkV n t' x) (k : Go D ca sc R m (pc + 3) ls ((t', M i j) :: st) sh M rv sh' M') : Go D ca sc R m pc ls (gR i :: st) sh M rv sh' M' := by
  obtain ⟨q, hq, hj, hin, hl, hft⟩ := fa
  refine Go_step (st' := (t', M i j) :: st) (fun p l e s mi args below meth c Q ad H locs cells slots A H0 lc hc hs => ⟨ok_c (hto _ _ (hs.2.2.2.1 i _ hk j t hft)) (ok_t hs.2.2.1), fun w => ?_⟩) k
  rw [mapR]
  refine va_get (D := D) (ci := ci) (v := gVl ca ad t (M i j)) (C := q.1) (T := q.2.1) (N := q.2.2) hc.1 hc.2.1 hc.2.2.2.2.2.1 hin hc.2.2.2.2.1 hc.2.2.2.2.2.2.2.1.1 hs.2.2.2.2.1 i (gW_at hk) hq j hj (hc.2.2.2.2.2.1 _ hl) (fun _ h => h) (gFs_at (M i) hft) hd ?_
  rw [ht]
  exact w
theorem Go_getI {i ci j idx : Nat} (fa : gFa (gOwn m) idx ci j 0) (hk : sh[i]? = some (0, ci)) (hd : decode (gCode m) pc = .ok (.getfield idx, 3)) (k : Go D ca sc R m (pc + 3) ls (gI (M i j) :: st) sh M rv sh' M') : Go D ca sc R m pc ls (gR i :: st) sh M rv sh' M' := Go_get0 fa hk hd (fun _ _ => rfl) (fun _ _ h => h) k
theorem Go_getJ {i ci j idx : Nat} (fa : gFa (gOwn m) idx ci j 1) (hk : sh[i]? = some (0, ci)) (hd : decode (gCode m) pc = .ok (.getfield idx, 3)) (k : Go D ca sc R m (pc + 3) ls (gJ (M i j) :: st) sh M rv sh' M') : Go D ca sc R m pc ls (gR i :: st) sh M rv sh' M' := Go_get0 fa hk hd (fun _ _ => rfl) (fun _ _ h => h) k
theorem Go_getZ {i ci j idx : Nat} (fa : gFa (gOwn m) idx ci j 3) (hk : sh[i]? = some (0, ci)) (hd : decode (gCode m) pc = .ok (.getfield idx, 3)) (k : Go D ca sc R m (pc + 3) ls (gI (M i j) :: st) sh M rv sh' M') : Go D ca sc R m pc ls (gR i :: st) sh M rv sh' M' := Go_get0 (t' := 0) fa hk hd (fun _ _ => rfl) (fun _ x h => by rcases h with h | h <;> (subst h; show in32 _; unfold in32; omega)) k
theorem Go_getR {i ci j idx c' : Nat} (fa : gFa (gOwn m) idx ci j 2) (hk : sh[i]? = some (0, ci)) (hM : M i j = (c' : Int) + 1) (hd : decode (gCode m) pc = .ok (.getfield idx, 3)) (k : Go D ca sc R m (pc + 3) ls (gR c' :: st) sh M rv sh' M') : Go D ca sc R m pc ls (gR i :: st) sh M rv sh' M' := Go_get0 (t' := 2) fa hk hd (fun _ _ => rfl) (fun _ _ h => h) (by rw [hM]; exact k)
/-- a field is written -/
def gTyOk (t : Nat) (ty : FieldType) : Prop := match t with
  | 0 => ty = .int
  | 1 => ty = .long
  | 3 => ty = .boolean
  | _ => (∃ n, ty = .object n) ∨ ∃ u, ty = .array u
theorem gTyOk.put {t : Nat} {ty : FieldType} (h : gTyOk t ty) (h4 : t < 4) {n : Nat} {x : Int} (hx : gOkV n t x) (ad : Nat → Nat) : narrow ty (gVl ca ad t x) = gVl ca ad t x ∧ fits ty (gVl ca ad t x) = true := by
  match t, h, h4, hx with
  | 0, h, _, _ => cases h; exact ⟨rfl, rfl⟩
  | 1, h, _, _ => cases h; exact ⟨rfl, rfl⟩
  | 3, h, _, hx => cases h; rcases hx with rfl | rfl <;> exact ⟨rfl, rfl⟩
  | 2, h, _, _ =>
    show narrow ty (va_rf (gRf ad x)) = va_rf (gRf ad x) ∧ fits ty (va_rf (gRf ad x)) = true
    rcases va_rf_or (gRf ad x) with e | ⟨a, e⟩ <;> rw [e] <;> rcases h with ⟨n, rfl⟩ | ⟨u, rfl⟩ <;> exact ⟨rfl, rfl⟩
  | n + 4, _, h4, _ => omega
def gFp (own : String) (idx ci j t : Nat) (fin : Bool) : Prop := ∃ (q : vw_C) (ty0 : Nat → FieldType), vwCl[ci]? = some q ∧ j < q.2.2 ∧ (∀ w ∈ u_ws q.1 q.2.1 q.2.2, w ∈ gTb) ∧ Cond.fieldLink own idx (q.2.1 j).1 (q.2.1 j).2.1 (q.2.1 j).2.2.1 ∈ gTb ∧ (gFt ci)[j]? = some t ∧
  (∀ k, k < q.2.2 → parseFieldDescriptor (q.2.1 k).2.2.1 = some (ty0 k)) ∧ (∀ a, a < q.2.2 → ∀ b, b < q.2.2 → a ≠ b → (q.2.1 a).2.1 ≠ (q.2.1 b).2.1) ∧ gTyOk t (ty0 j) ∧ (q.2.1 j).2.2.2 = fin ∧ (fin = true → (q.2.1 j).1 = own) ∧ t < 4
theorem Go_put0 {i ci j t t' idx : Nat} {x : Int} {fin : Bool} (fp : gFp (gOwn m) idx ci j t fin) (hf : fin = true → gIni m = true) (hk : sh[i]? = some (0, ci)) (hd : decode (gCode m) pc = .ok (.putfield idx, 3)) (ht : ∀ ad, gVl ca ad t x = gVl ca ad t' x) (hto : gOkV sh.length t' x → gOkV sh.length t x) (k : Go D ca sc R m (pc + 3) ls (st) sh (gSet M i (gUp (M i) j x)) rv sh' M') : Go D ca sc R m pc ls ((t', x) :: gR i :: st) sh M rv sh' M' := by
  obtain ⟨q, ty0, hq, hj, hin, hlk, hft, hty, hnm, htk, hfin, hdecl, h4⟩ := fp
  intro p l e s mi args below meth c Q ad H locs cells slots A H0 lc hc hs hr1 hr2 hk0
  obtain ⟨hl, hlo, hso, hok, hP, hD, hS⟩ := hs
  have hx := hto (ok_h hso)
  have hnf := gTyOk.put (ca := ca) htk h4 hx ad
  have kk : ∀ (H1 : Heap) (locs1 : List Loc), va_P D vwCl ((gW ca ad sh M).set i (ad i, .inr (ci, ((gFt ci).mapIdx (fun j t => gVl ca ad t (M i j))).set j (gVl ca ad t x)))) H1 → va_D A ((gW ca ad sh M).set i (ad i, .inr (ci, ((gFt ci).mapIdx (fun j t => gVl ca ad t (M i j))).set j (gVl ca ad t x)))) → va_S A H0 H1 locs1 → W p l e R s mi args below meth c H1 locs1 cells slots Q (F0 mi (pc + 3) lc (st.map fun v => gVl ca ad v.1 v.2)) := by
    intro H1 locs1 hP1 hD1 hS1
    rw [gFs_set (M i) x hft] at hP1 hD1
    have e0 : (gW ca ad sh M).set i (ad i, .inr (ci, (gFt ci).mapIdx (fun j' t => gVl ca ad t (gUp (M i) j x j')))) = gW ca ad sh (gSet M i (gUp (M i) j x)) := gW_set hk _
    rw [e0] at hP1 hD1
    refine k p l e s mi args below meth c Q ad H1 locs1 cells slots A H0 lc hc ⟨hl, hlo, ok_t (ok_t hso), gOk_set hok hk ?_, hP1, hD1, hS1⟩ hr1 hr2 hk0
    intro j' t1 hj'
    by_cases ej : j' = j
    · subst ej
      cases hft.symm.trans hj'
      rw [gUp_s]
      exact hx
    · rw [gUp_n ej]
      exact hok i _ hk j' t1 hj'
  show W p l e R s mi args below meth c H locs cells slots Q (F0 mi pc lc (gVl ca ad t' x :: gVl ca ad 2 ((i : Int) + 1) :: st.map fun v => gVl ca ad v.1 v.2))
  rw [gVl_R, ← ht]
  have hll : j < ((gFt ci).mapIdx (fun j t => gVl ca ad t (M i j))).length := by
    rw [List.length_mapIdx]
    exact (List.getElem?_eq_some_iff.mp hft).1
  cases hfin' : fin with
  | false => exact va_put (D := D) (ci := ci) (v := gVl ca ad t x) (ty := ty0 j) (C := q.1) (T := q.2.1) (N := q.2.2) hc.1 hc.2.1 hc.2.2.2.2.2.1 hin ty0 hty hnm hc.2.2.2.2.1 hc.2.2.2.2.2.2.2.1.1 hP hD hS i (gW_at hk) hq j hj (hc.2.2.2.2.2.1 _ hlk) (fun _ h => h) (hfin.trans hfin') (hty j hj) hnf.1 hnf.2 hll hd kk
  | true => exact va_putF (D := D) (ci := ci) (v := gVl ca ad t x) (ty := ty0 j) (C := q.1) (T := q.2.1) (N := q.2.2) hc.1 hc.2.1 hc.2.2.2.2.2.1 hin ty0 hty hnm hc.2.2.2.2.1 hc.2.2.2.2.2.2.2.1.1 hP hD hS i (gW_at hk) hq j hj (hc.2.2.2.2.2.1 _ hlk) (fun _ h => h) (hfin.trans hfin') (hc.2.2.2.2.2.2.2.2.1 (hf hfin')) (hdecl hfin') (hty j hj) hnf.1 hnf.2 hll hd kk

theorem Go_putI {i ci j idx : Nat} {x : Int} (fp : gFp (gOwn m) idx ci j 0 false) (hk : sh[i]? = some (0, ci)) (hd : decode (gCode m) pc = .ok (.putfield idx, 3)) (k : Go D ca sc R m (pc + 3) ls (st) sh (gSet M i (gUp (M i) j x)) rv sh' M') : Go D ca sc R m pc ls ((0, x) :: gR i :: st) sh M rv sh' M' := Go_put0 fp (fun h => by cases h) hk hd (fun _ => rfl) (fun h => h) k
theorem Go_putJ {i ci j idx : Nat} {x : Int} (fp : gFp (gOwn m) idx ci j 1 false) (hk : sh[i]? = some (0, ci)) (hd : decode (gCode m) pc = .ok (.putfield idx, 3)) (k : Go D ca sc R m (pc + 3) ls (st) sh (gSet M i (gUp (M i) j x)) rv sh' M') : Go D ca sc R m pc ls ((1, x) :: gR i :: st) sh M rv sh' M' := Go_put0 fp (fun h => by cases h) hk hd (fun _ => rfl) (fun h => h) k
theorem Go_putZ {i ci j idx : Nat} {x : Int} (hx : x = 0 ∨ x = 1) (fp : gFp (gOwn m) idx ci j 3 false) (hk : sh[i]? = some (0, ci)) (hd : decode (gCode m) pc = .ok (.putfield idx, 3)) (k : Go D ca sc R m (pc + 3) ls (st) sh (gSet M i (gUp (M i) j x)) rv sh' M') : Go D ca sc R m pc ls ((0, x) :: gR i :: st) sh M rv sh' M' := Go_put0 fp (fun h => by cases h) hk hd (fun _ => rfl) (fun _ => hx) k
theorem Go_putF {i ci j idx : Nat} {x : Int} (fp : gFp (gOwn m) idx ci j 2 true) (hi : gIni m = true) (hk : sh[i]? = some (0, ci)) (hd : decode (gCode m) pc = .ok (.putfield idx, 3)) (k : Go D ca sc R m (pc + 3) ls (st) sh (gSet M i (gUp (M i) j x)) rv sh' M') : Go D ca sc R m pc ls ((2, x) :: gR i :: st) sh M rv sh' M' := Go_put0 fp (fun _ => hi) hk hd (fun _ => rfl) (fun h => h) k
theorem Go_iaload {i n : Nat} {x : Int} (j : Nat) (hk : sh[i]? = some (1, n)) (hj : x = (j : Int)) (hlt : j < n) (hd : decode (gCode m) pc = .ok (.iaload, 1)) (k : Go D ca sc R m (pc + 1) ls (gI (M i j) :: st) sh M rv sh' M') : Go D ca sc R m pc ls (gI x :: gR i :: st) sh M rv sh' M' := by
  refine Go_step (st' := gI (M i j) :: st) (fun p l e s mi args below meth c Q ad H locs cells slots A H0 lc hc hs => ⟨ok_c (hs.2.2.2.1 i _ hk j) (ok_t (ok_t hs.2.2.1)), fun w => ?_⟩) k
  have hx : in32 x := ok_h hs.2.2.1
  subst hj
  show W p l e R s mi args below meth c H locs cells slots Q (F0 mi pc lc (.int (Int32.ofInt (j : Int)) :: gVl ca ad 2 ((i : Int) + 1) :: st.map fun v => gVl ca ad v.1 v.2))
  rw [gVl_R]
  refine va_iald (f := fun j => Int32.ofInt (M i j)) hc.1 hc.2.1 hc.2.2.2.2.2.2.2.1.1 hs.2.2.2.2.1 i 0 (gW_at hk) rfl (in_32 hx (by omega) (by omega)) hd ?_
  have e0 : (Int32.ofInt (j : Int)).toNatClampNeg = j := by rw [nn32 hx]; omega
  rw [e0]
  exact w
theorem Go_laload {i n : Nat} {x : Int} (j : Nat) (hk : sh[i]? = some (2, n)) (hj : x = (j : Int)) (hlt : j < n) (hd : decode (gCode m) pc = .ok (.laload, 1)) (k : Go D ca sc R m (pc + 1) ls (gJ (M i j) :: st) sh M rv sh' M') : Go D ca sc R m pc ls (gI x :: gR i :: st) sh M rv sh' M' := by
  refine Go_step (st' := gJ (M i j) :: st) (fun p l e s mi args below meth c Q ad H locs cells slots A H0 lc hc hs => ⟨ok_c (hs.2.2.2.1 i _ hk j) (ok_t (ok_t hs.2.2.1)), fun w => ?_⟩) k
  have hx : in32 x := ok_h hs.2.2.1
  subst hj
  show W p l e R s mi args below meth c H locs cells slots Q (F0 mi pc lc (.int (Int32.ofInt (j : Int)) :: gVl ca ad 2 ((i : Int) + 1) :: st.map fun v => gVl ca ad v.1 v.2))
  rw [gVl_R]
  refine va_lald (f := fun j => Int64.ofInt (M i j)) hc.1 hc.2.1 hc.2.2.2.2.2.2.2.1.1 hs.2.2.2.2.1 i 1 (gW_at hk) rfl (in_32 hx (by omega) (by omega)) hd ?_
  have e0 : (Int32.ofInt (j : Int)).toNatClampNeg = j := by rw [nn32 hx]; omega
  rw [e0]
  exact w
theorem Go_iastore {i n : Nat} {x v : Int} (j : Nat) (hk : sh[i]? = some (1, n)) (hj : x = (j : Int)) (hlt : j < n) (hd : decode (gCode m) pc = .ok (.iastore, 1)) (k : Go D ca sc R m (pc + 1) ls (st) sh (gSet M i (gUp (M i) j v)) rv sh' M') : Go D ca sc R m pc ls (gI v :: gI x :: gR i :: st) sh M rv sh' M' := by
  intro p l e s mi args below meth c Q ad H locs cells slots A H0 lc hc hs hr1 hr2 hk0
  obtain ⟨hl, hlo, hso, hok, hP, hD, hS⟩ := hs
  have hx : in32 x := ok_h (ok_t hso)
  subst hj
  show W p l e R s mi args below meth c H locs cells slots Q (F0 mi pc lc (.int (Int32.ofInt v) :: .int (Int32.ofInt (j : Int)) :: gVl ca ad 2 ((i : Int) + 1) :: st.map fun v => gVl ca ad v.1 v.2))
  rw [gVl_R]
  refine va_iast (f := fun j => Int32.ofInt (M i j)) hc.1 hc.2.1 hc.2.2.2.2.2.2.2.1.1 hP hD hS i 0 (gW_at hk) rfl (in_32 hx (by omega) (by omega)) hd (fun H1 locs1 hP1 hD1 hS1 => ?_)
  have e0 : (Int32.ofInt (j : Int)).toNatClampNeg = j := by rw [nn32 hx]; omega
  have e2 : upd (fun j => Int32.ofInt (M i j)) j (Int32.ofInt v) = fun j' => Int32.ofInt (gUp (M i) j v j') := by
    funext j'
    by_cases ej : j' = j
    · simp [upd, gUp, ej]
    · simp [upd, gUp, ej]
  rw [e0, e2] at hP1 hD1
  have e3 := gW_set (ca := ca) (ad := ad) (M := M) hk (gUp (M i) j v)
  have hP2 : va_P D vwCl (gW ca ad sh (gSet M i (gUp (M i) j v))) H1 := by rw [← e3]; exact hP1
  have hD2 : va_D A (gW ca ad sh (gSet M i (gUp (M i) j v))) := by rw [← e3]; exact hD1
  refine k p l e s mi args below meth c Q ad H1 locs1 cells slots A H0 lc hc ⟨hl, hlo, ok_t (ok_t (ok_t hso)), gOk_set hok hk ?_, hP2, hD2, hS1⟩ hr1 hr2 hk0
  intro j'
  by_cases ej : j' = j
  · subst ej
    rw [gUp_s]
    exact ok_h hso
  · rw [gUp_n ej]
    exact hok i _ hk j'
theorem Go_lastore {i n : Nat} {x v : Int} (j : Nat) (hk : sh[i]? = some (2, n)) (hj : x = (j : Int)) (hlt : j < n) (hd : decode (gCode m) pc = .ok (.lastore, 1)) (k : Go D ca sc R m (pc + 1) ls (st) sh (gSet M i (gUp (M i) j v)) rv sh' M') : Go D ca sc R m pc ls (gJ v :: gI x :: gR i :: st) sh M rv sh' M' := by
  intro p l e s mi args below meth c Q ad H locs cells slots A H0 lc hc hs hr1 hr2 hk0
  obtain ⟨hl, hlo, hso, hok, hP, hD, hS⟩ := hs
  have hx : in32 x := ok_h (ok_t hso)
  subst hj
  show W p l e R s mi args below meth c H locs cells slots Q (F0 mi pc lc (.long (Int64.ofInt v) :: .int (Int32.ofInt (j : Int)) :: gVl ca ad 2 ((i : Int) + 1) :: st.map fun v => gVl ca ad v.1 v.2))
  rw [gVl_R]
  refine va_last (f := fun j => Int64.ofInt (M i j)) hc.1 hc.2.1 hc.2.2.2.2.2.2.2.1.1 hP hD hS i 1 (gW_at hk) rfl (in_32 hx (by omega) (by omega)) hd (fun H1 locs1 hP1 hD1 hS1 => ?_)
  have e0 : (Int32.ofInt (j : Int)).toNatClampNeg = j := by rw [nn32 hx]; omega
  have e2 : vp_updL (fun j => Int64.ofInt (M i j)) j (Int64.ofInt v) = fun j' => Int64.ofInt (gUp (M i) j v j') := by
    funext j'
    by_cases ej : j' = j
    · simp [vp_updL, gUp, ej]
    · simp [vp_updL, gUp, ej]
  rw [e0, e2] at hP1 hD1
  have e3 := gW_set (ca := ca) (ad := ad) (M := M) hk (gUp (M i) j v)
  have hP2 : va_P D vwCl (gW ca ad sh (gSet M i (gUp (M i) j v))) H1 := by rw [← e3]; exact hP1
  have hD2 : va_D A (gW ca ad sh (gSet M i (gUp (M i) j v))) := by rw [← e3]; exact hD1
  refine k p l e s mi args below meth c Q ad H1 locs1 cells slots A H0 lc hc ⟨hl, hlo, ok_t (ok_t (ok_t hso)), gOk_set hok hk ?_, hP2, hD2, hS1⟩ hr1 hr2 hk0
  intro j'
  by_cases ej : j' = j
  · subst ej
    rw [gUp_s]
    exact ok_h hso
  · rw [gUp_n ej]
    exact hok i _ hk j'
theorem Go_aaload {i n t c' : Nat} {x : Int} {C : String} (j : Nat) (hk : sh[i]? = some (t + 3, n)) (hC : (gTy ca)[t + 2]? = some (ca (t + 2), .object C)) (hM : M i j = (c' : Int) + 1) (hj : x = (j : Int)) (hlt : j < n) (hd : decode (gCode m) pc = .ok (.aaload, 1)) (k : Go D ca sc R m (pc + 1) ls (gR c' :: st) sh M rv sh' M') : Go D ca sc R m pc ls (gI x :: gR i :: st) sh M rv sh' M' := by
  refine Go_step (st' := gR c' :: st) (fun p l e s mi args below meth c Q ad H locs cells slots A H0 lc hc hs => ⟨ok_c (by have h := hs.2.2.2.1 i _ hk j; rw [hM] at h; exact h) (ok_t (ok_t hs.2.2.1)), fun w => ?_⟩) k
  have hx : in32 x := ok_h hs.2.2.1
  subst hj
  show W p l e R s mi args below meth c H locs cells slots Q (F0 mi pc lc (.int (Int32.ofInt (j : Int)) :: gVl ca ad 2 ((i : Int) + 1) :: st.map fun v => gVl ca ad v.1 v.2))
  rw [gVl_R]
  refine va_aldq (f := fun j => gRf ad (M i j)) hc.1 hc.2.1 hc.2.2.2.2.2.2.2.1.1 hs.2.2.2.2.1 i (t + 2) (gW_at hk) hC (in_32 hx (by omega) (by omega)) hd ?_
  have e0 : (Int32.ofInt (j : Int)).toNatClampNeg = j := by rw [nn32 hx]; omega
  rw [e0, hM]
  exact w
theorem Go_alen {i n kd : Nat} (hk : sh[i]? = some (kd, n)) (hkd : kd = 1 ∨ kd = 2) (hn : n < 2147483648) (hd : decode (gCode m) pc = .ok (.arraylength, 1)) (k : Go D ca sc R m (pc + 1) ls (gI (n : Int) :: st) sh M rv sh' M') : Go D ca sc R m pc ls (gR i :: st) sh M rv sh' M' := by
  refine Go_step (st' := gI (n : Int) :: st) (fun p l e s mi args below meth c Q ad H locs cells slots A H0 lc hc hs => ⟨ok_c (by show in32 (n : Int); unfold in32; omega) (ok_t hs.2.2.1), fun w => ?_⟩) k
  rw [mapR]
  rcases hkd with rfl | rfl
  · exact va_alen hc.1 hc.2.1 hc.2.2.2.2.2.2.2.1.1 hs.2.2.2.2.1 i 0 (gW_at hk) (ty := .int) rfl (v := Int32.ofInt (n : Int)) (by rfl) hd w
  · exact va_alen hc.1 hc.2.1 hc.2.2.2.2.2.2.2.1.1 hs.2.2.2.2.1 i 1 (gW_at hk) (ty := .long) rfl (v := Int32.ofInt (n : Int)) (by rfl) hd w
theorem Go_sld {L : Nat} {xs : Nat → Int} {x : Int} (j : Nat) (hsc : sc = some (L, xs)) (hj : x = (j : Int)) (hlt : j < L) (hd : decode (gCode m) pc = .ok (.iaload, 1)) (k : Go D ca sc R m (pc + 1) ls (gI (xs j) :: st) sh M rv sh' M') : Go D ca sc R m pc ls (gI x :: gS :: st) sh M rv sh' M' := by
  refine Go_step (st' := gI (xs j) :: st) (fun p l e s mi args below meth c Q ad H locs cells slots A H0 lc hc hs => ?_) k
  have hx : in32 x := ok_h hs.2.2.1
  have hz := hc.2.2.2.2.2.2.2.2.2.2
  rw [hsc] at hz
  obtain ⟨z1, z2, z3, z4, -⟩ := hz
  refine ⟨ok_c (z4 j) (ok_t (ok_t hs.2.2.1)), fun w => ?_⟩
  subst hj
  have e0 : (Int32.ofInt (j : Int)).toNatClampNeg = j := by rw [nn32 hx]; omega
  refine va_sld (i := Int32.ofInt (j : Int)) hc.1 hc.2.1 z1 z2 z3 hs.2.2.2.2.2.2 (in_32 hx (by omega) (by show (j : Int) < ((L : Nat) : Int); omega)) hd ?_
  rw [e0]
  exact w
theorem Go_slen {L : Nat} {xs : Nat → Int} (hsc : sc = some (L, xs)) (hd : decode (gCode m) pc = .ok (.arraylength, 1)) (k : Go D ca sc R m (pc + 1) ls (gI (L : Int) :: st) sh M rv sh' M') : Go D ca sc R m pc ls (gS :: st) sh M rv sh' M' := by
  refine Go_step (st' := gI (L : Int) :: st) (fun p l e s mi args below meth c Q ad H locs cells slots A H0 lc hc hs => ?_) k
  have hz := hc.2.2.2.2.2.2.2.2.2.2
  rw [hsc] at hz
  obtain ⟨z1, z2, z3, z4, z5⟩ := hz
  refine ⟨ok_c (by show in32 (L : Int); unfold in32; have z5 : L ≤ 2560 := z5; omega) (ok_t hs.2.2.1), fun w => ?_⟩
  exact va_slen hc.1 hc.2.1 z1 z2 z3 hs.2.2.2.2.2.2 hd w
end GM
