section GA
variable {D : va_G} {ca : Nat → ClassId} {sc : gScr} {R : Room} {m : gMd} {pc pc' : Nat} {ls ls' : gLs} {st st' : List gAV} {sh sh' : gShp} {M M' : gMem} {rv : List gAV}
theorem gRf_ad {ad ad' : Nat → Nat} {n : Nat} {x : Int} (h : ∀ i, i < n → ad' i = ad i) (hx : 0 ≤ x ∧ x ≤ n) : gRf ad' x = gRf ad x := by
  unfold gRf
  by_cases h0 : x = 0
  · rw [if_pos h0, if_pos h0]
  · rw [if_neg h0, if_neg h0, h _ (by omega)]
theorem gVl_ad {ad ad' : Nat → Nat} {n t : Nat} {x : Int} (h : ∀ i, i < n → ad' i = ad i) (hx : gOkV n t x) : gVl ca ad' t x = gVl ca ad t x := by
  match t, hx with
  | 0, _ => rfl
  | 1, _ => rfl
  | 2, hx => show va_rf (gRf ad' x) = va_rf (gRf ad x); rw [gRf_ad h hx]
  | 3, _ => rfl
  | t + 4, _ => rfl
theorem gEnt_ad {ad ad' : Nat → Nat} {n : Nat} {k : Nat × Nat} {r : Nat → Int} (h : ∀ i, i < n → ad' i = ad i) (hx : gOkK n k r) : gEnt ca ad' k r = gEnt ca ad k r := by
  obtain ⟨k1, k2⟩ := k
  match k1, hx with
  | 0, hx =>
    show Sum.inr (k2, (gFt k2).mapIdx (fun j t => gVl ca ad' t (r j))) = Sum.inr (k2, (gFt k2).mapIdx (fun j t => gVl ca ad t (r j)))
    congr 2
    apply List.ext_getElem?
    intro j
    simp only [List.getElem?_mapIdx]
    cases hj : (gFt k2)[j]? with
    | none => rfl
    | some t => simp only [Option.map_some]; rw [gVl_ad h (hx j t hj)]
  | 1, _ => rfl
  | 2, _ => rfl
  | t + 3, hx =>
    show (Sum.inl (ca (t + 2), k2, Sum.inr (Sum.inr (Sum.inr (Sum.inr (fun j => gRf ad' (r j)))))) : va_E) = Sum.inl (ca (t + 2), k2, Sum.inr (Sum.inr (Sum.inr (Sum.inr (fun j => gRf ad (r j))))))
    have e0 : (fun j => gRf ad' (r j)) = fun j => gRf ad (r j) := funext fun j => gRf_ad h (hx j)
    rw [e0]
theorem gW_ad {ad ad' : Nat → Nat} (h : ∀ i, i < sh.length → ad' i = ad i) (hok : gOk sh M) : gW ca ad' sh M = gW ca ad sh M := by
  apply List.ext_getElem?
  intro i
  simp only [gW, List.getElem?_mapIdx]
  cases hi : sh[i]? with
  | none => rfl
  | some k => simp only [Option.map_some]; rw [h i (List.getElem?_eq_some_iff.mp hi).1, gEnt_ad h (hok i k hi)]
theorem gW_len (ad : Nat → Nat) : (gW ca ad sh M).length = sh.length := by simp [gW]
theorem gW_app {ad : Nat → Nat} {k : Nat × Nat} {r : Nat → Int} : gW ca ad (sh ++ [k]) (gSet M sh.length r) = gW ca ad sh M ++ [(ad sh.length, gEnt ca ad k r)] := by
  apply List.ext_getElem?
  intro j
  by_cases h : j < sh.length
  · rw [List.getElem?_append_left (by rw [gW_len]; exact h)]
    simp only [gW, List.getElem?_mapIdx, List.getElem?_append_left h]
    rw [gSet_n (by omega)]
  · rw [List.getElem?_append_right (by rw [gW_len]; omega), gW_len]
    simp only [gW, List.getElem?_mapIdx]
    rw [List.getElem?_append_right (by omega)]
    by_cases h2 : j = sh.length
    · subst h2
      simp [gSet_s]
    · have h3 : 1 ≤ j - sh.length := by omega
      rw [List.getElem?_eq_none (by simpa using h3), List.getElem?_eq_none (by simpa using h3)]
      rfl
theorem gOkV_mono {n n' t : Nat} {x : Int} (h : n ≤ n') (hx : gOkV n t x) : gOkV n' t x := by
  match t, hx with
  | 0, hx => exact hx
  | 1, hx => exact hx
  | 2, hx => exact ⟨hx.1, by have := hx.2; omega⟩
  | 3, hx => exact hx
  | t + 4, hx => exact hx
theorem gOkK_mono {n n' : Nat} {k : Nat × Nat} {r : Nat → Int} (h : n ≤ n') (hx : gOkK n k r) : gOkK n' k r := by
  obtain ⟨k1, k2⟩ := k
  match k1, hx with
  | 0, hx => exact fun j t hj => gOkV_mono h (hx j t hj)
  | 1, hx => exact hx
  | 2, hx => exact hx
  | t + 3, hx => exact fun j => ⟨(hx j).1, by have := (hx j).2; omega⟩
theorem gOkV_0 (n t : Nat) : gOkV n t 0 := by
  match t with
  | 0 => exact in32_0
  | 1 => exact in32_64 in32_0
  | 2 => exact ⟨Int.le_refl 0, by omega⟩
  | 3 => exact Or.inl rfl
  | t + 4 => exact trivial
theorem gOkK_0 (n : Nat) (k : Nat × Nat) : gOkK n k (fun _ => 0) := by
  obtain ⟨k1, k2⟩ := k
  match k1 with
  | 0 => exact fun j t _ => gOkV_0 n t
  | 1 => exact fun _ => in32_0
  | 2 => exact fun _ => in32_64 in32_0
  | t + 3 => exact fun _ => ⟨Int.le_refl 0, by show (0 : Int) ≤ (n : Int); omega⟩
theorem gOk_app {k : Nat × Nat} (hok : gOk sh M) : gOk (sh ++ [k]) (gSet M sh.length (fun _ => 0)) := by
  intro j k' hj
  have hl : (sh ++ [k]).length = sh.length + 1 := by simp
  by_cases h : j < sh.length
  · rw [List.getElem?_append_left h] at hj
    rw [gSet_n (by omega), hl]
    exact gOkK_mono (by omega) (hok j k' hj)
  · by_cases h2 : j = sh.length
    · subst h2
      rw [gSet_s]
      exact gOkK_0 _ _
    · rw [List.getElem?_append_right (by omega)] at hj
      rw [List.getElem?_eq_none (by simp; omega)] at hj
      cases hj
theorem gSz_app (k : Nat × Nat) : gSz (sh ++ [k]) = gSz sh + gKs k := by simp [gSz]
theorem Go_alloc {k : Nat × Nat} (hst : ∀ v ∈ st', v ∈ st) (hle : sh.length + 1 ≤ sh'.length) (hsz : gSz sh + gKs k ≤ gSz sh')
    (h : ∀ (p : Program) (l : Launch) (e : Env) (s : State) (mi : MethodId) (args : Array Value) (below : List Frame) (meth : Method) (c : Code) (Q : State → Prop) (ad : Nat → Nat) (H : Heap) (locs : List Loc) (cells slots : Nat) (A : Nat → Prop) (H0 : Heap) (lc : Array Slot), gCx D ca sc m p s mi args meth c A H0 → gSt D ca m ls st sh M ad H locs A H0 lc → cells + 1 ≤ R.cells → slots + gKs k ≤ R.slots →
      (∀ (q : Nat) (H1 : Heap), va_P D vwCl (gW ca ad sh M ++ [(q, gEnt ca ad k (fun _ => 0))]) H1 → va_D A (gW ca ad sh M ++ [(q, gEnt ca ad k (fun _ => 0))]) → va_S A H0 H1 locs → W p l e R s mi args below meth c H1 locs (cells + 1) (slots + gKs k) Q (F0 mi pc' lc (.ref q :: st'.map fun v => gVl ca ad v.1 v.2))) →
      W p l e R s mi args below meth c H locs cells slots Q (F0 mi pc lc (st.map fun v => gVl ca ad v.1 v.2)))
    (k0 : Go D ca sc R m pc' ls (gR sh.length :: st') (sh ++ [k]) (gSet M sh.length (fun _ => 0)) rv sh' M') : Go D ca sc R m pc ls (st) sh M rv sh' M' := by
  intro p l e s mi args below meth c Q ad H locs cells slots A H0 lc hc hs hr1 hr2 hk
  refine h p l e s mi args below meth c Q ad H locs cells slots A H0 lc hc hs (by omega) (by omega) (fun q H1 hP1 hD1 hS1 => ?_)
  obtain ⟨hl, hlo, hso, hok, hP, hD, hS⟩ := hs
  have hag : ∀ i, i < sh.length → (fun i => if i = sh.length then q else ad i) i = ad i := fun i hi => if_neg (by omega)
  have hlen : (sh ++ [k]).length = sh.length + 1 := by simp
  have e1 : gW ca ad sh M ++ [(q, gEnt ca ad k (fun _ => 0))] = gW ca (fun i => if i = sh.length then q else ad i) (sh ++ [k]) (gSet M sh.length (fun _ => 0)) := by
    rw [gW_app, gW_ad hag hok, gEnt_ad hag (gOkK_0 _ _)]
    simp
  rw [e1] at hP1 hD1
  have e2 : (.ref q :: st'.map fun v => gVl ca ad v.1 v.2) = (gR sh.length :: st').map fun v => gVl ca (fun i => if i = sh.length then q else ad i) v.1 v.2 := by
    rw [mapR]
    congr 1
    · simp
    · exact List.map_congr_left (fun v hv => (gVl_ad hag (hso v (hst v hv))).symm)
  rw [e2]
  refine k0 p l e s mi args below meth c Q (fun i => if i = sh.length then q else ad i) H1 locs (cells + 1) (slots + gKs k) A H0 lc hc ⟨?_, ?_, ?_, gOk_app hok, hP1, hD1, hS1⟩ (by rw [hlen]; omega) (by rw [gSz_app]; omega) ?_
  · have e3 : (ls.map fun q' => (q'.1, gVl ca (fun i => if i = sh.length then q else ad i) q'.2.1 q'.2.2)) = ls.map fun q' => (q'.1, gVl ca ad q'.2.1 q'.2.2) := List.map_congr_left (fun v hv => by rw [gVl_ad hag (hlo v hv)])
    rw [e3]
    exact hl
  · intro v hv
    rw [hlen]
    exact gOkV_mono (by omega) (hlo v hv)
  · refine ok_c ?_ (fun v hv => by rw [hlen]; exact gOkV_mono (by omega) (hso v (hst v hv)))
    show 0 ≤ ((sh.length : Nat) : Int) + 1 ∧ ((sh.length : Nat) : Int) + 1 ≤ (((sh ++ [k]).length : Nat) : Int)
    rw [hlen]
    omega
  · intro ad' H' locs' cells' slots' lc' pc2 g1 g2 g3 g4 g5 g6 g7 g8 g9
    refine hk ad' H' locs' cells' slots' lc' pc2 (fun i hi => (g1 i (by rw [hlen]; omega)).trans (hag i hi)) g2 g3 g4 g5 g6 (by rw [hlen] at g7; omega) (by rw [gSz_app] at g8; omega) g9
/-- an object of the class ci is made -/
def gNc (own : String) (idx ci : Nat) : Prop := ∃ (q : vw_C) (ty0 : Nat → FieldType), vwCl[ci]? = some q ∧ (∀ w ∈ u_ws q.1 q.2.1 q.2.2, w ∈ gTb) ∧ (∀ k, k < q.2.2 → parseFieldDescriptor (q.2.1 k).2.2.1 = some (ty0 k)) ∧ Cond.classLink own idx q.1 ∈ gTb ∧ Cond.instantiable q.1 q.2.2 ∈ gTb ∧ Cond.initialized q.1 ∈ gTb ∧ (gFt ci).length = q.2.2 ∧ ∀ j, j < q.2.2 → ∃ t, (gFt ci)[j]? = some t ∧ t < 4 ∧ gTyOk t (ty0 j)
theorem gTyOk.dflt {t : Nat} {ty : FieldType} (h : gTyOk t ty) (h4 : t < 4) (ad : Nat → Nat) : defaultValue ty = gVl ca ad t 0 := by
  match t, h, h4 with
  | 0, h, _ => cases h; rfl
  | 1, h, _ => cases h; rfl
  | 3, h, _ => cases h; rfl
  | 2, h, _ => rcases h with ⟨n, rfl⟩ | ⟨u, rfl⟩ <;> rfl
  | n + 4, _, h4 => omega
theorem Go_new {ci idx : Nat} (nc : gNc (gOwn m) idx ci) (hle : sh.length + 1 ≤ sh'.length) (hsz : gSz sh + gKs (0, ci) ≤ gSz sh') (hd : decode (gCode m) pc = .ok (.new idx, 3)) (k0 : Go D ca sc R m (pc + 3) ls (gR sh.length :: st) (sh ++ [(0, ci)]) (gSet M sh.length (fun _ => 0)) rv sh' M') : Go D ca sc R m pc ls (st) sh M rv sh' M' := by
  obtain ⟨q, ty0, hq, hin, hty, hcl, hinst, hini, hlen, hts⟩ := nc
  refine Go_alloc (k := (0, ci)) (st' := st) (fun v hv => hv) hle hsz (fun p l e s mi args below meth c Q ad H locs cells slots A H0 lc hc hs h1 h2 kk => ?_) k0
  have hks : gKs (0, ci) = q.2.2 := hlen
  rw [hks] at h2 kk
  exact va_new (ci := ci) (C := q.1) (T := q.2.1) (N := q.2.2) (fs := (gFt ci).mapIdx (fun j t => gVl ca ad t 0)) hc.1 hc.2.1 hc.2.2.2.2.2.1 hin ty0 hty hc.2.2.2.2.1 (hc.2.2.2.2.2.1 _ hcl) (hc.2.2.2.2.2.1 _ hinst) (hc.2.2.2.2.2.1 _ hini) hc.2.2.2.2.2.2.2.1.1 hs.2.2.2.2.1 hs.2.2.2.2.2.1 hs.2.2.2.2.2.2 hc.2.2.2.2.2.2.2.2.2.1 hq (fun j hj => by
    obtain ⟨t, ht, h4, hok⟩ := hts j hj
    rw [hok.dflt (ca := ca) h4 ad, vp_V, List.getD_eq_getElem?_getD, List.getElem?_mapIdx, ht]
    rfl) h1 h2 hd kk
theorem Go_newI {n : Nat} {x : Int} (hx : x = (n : Int)) (hn : n ≤ 2000) (harr : Cond.arrayClass .int ∈ gTb) (hle : sh.length + 1 ≤ sh'.length) (hsz : gSz sh + gKs (1, n) ≤ gSz sh') (hd : decode (gCode m) pc = .ok (.newarray .int, 2)) (k0 : Go D ca sc R m (pc + 2) ls (gR sh.length :: st) (sh ++ [(1, n)]) (gSet M sh.length (fun _ => 0)) rv sh' M') : Go D ca sc R m pc ls (gI x :: st) sh M rv sh' M' := by
  refine Go_alloc (k := (1, n)) (st' := st) (fun v hv => List.mem_cons_of_mem _ hv) hle hsz (fun p l e s mi args below meth c Q ad H locs cells slots A H0 lc hc hs h1 h2 kk => ?_) k0
  have hx3 : in32 x := ok_h hs.2.2.1
  have hK := hc.2.2.2.2.2.2.2.1.1
  refine va_newa (atype := .int) (ty := .int) (n := Int32.ofInt x) (N' := n) (a0 := (n, .inl (fun _ => Int32.ofInt 0))) hc.1 hc.2.1 (hc.2.2.2.2.2.1 _ harr) rfl hK hs.2.2.2.2.1 hs.2.2.2.2.2.1 hs.2.2.2.2.2.2 hc.2.2.2.2.2.2.2.2.2.1 (fun cA => ?_) (fun h => by rw [show (0 : Int32) = Int32.ofInt 0 from rfl, lt32 hx3 in32_0] at h; omega) (by rw [nn32 hx3]; omega) (by show n * 4 ≤ _; omega) h1 h2 hd (fun q cA H1 hK1 hP1 hD1 hS1 => ?_)
  · rfl
  · have e1 : cA = ca 0 := by
      have r1 : va_RA s cA .int := (hK1.2 (gTy ca).length (cA, .int) (by simp)).2
      have r2 : va_RA s (ca 0) .int := (hK.2 0 (ca 0, .int) rfl).2
      exact Option.some.inj (r1.symm.trans r2)
    subst e1
    exact kk q H1 hP1 hD1 hS1
theorem Go_newJ {n : Nat} {x : Int} (hx : x = (n : Int)) (hn : n ≤ 2000) (harr : Cond.arrayClass .long ∈ gTb) (hle : sh.length + 1 ≤ sh'.length) (hsz : gSz sh + gKs (2, n) ≤ gSz sh') (hd : decode (gCode m) pc = .ok (.newarray .long, 2)) (k0 : Go D ca sc R m (pc + 2) ls (gR sh.length :: st) (sh ++ [(2, n)]) (gSet M sh.length (fun _ => 0)) rv sh' M') : Go D ca sc R m pc ls (gI x :: st) sh M rv sh' M' := by
  refine Go_alloc (k := (2, n)) (st' := st) (fun v hv => List.mem_cons_of_mem _ hv) hle hsz (fun p l e s mi args below meth c Q ad H locs cells slots A H0 lc hc hs h1 h2 kk => ?_) k0
  have hx3 : in32 x := ok_h hs.2.2.1
  have hK := hc.2.2.2.2.2.2.2.1.1
  refine va_newa (atype := .long) (ty := .long) (n := Int32.ofInt x) (N' := n) (a0 := (n, .inr (.inl (fun _ => Int64.ofInt 0)))) hc.1 hc.2.1 (hc.2.2.2.2.2.1 _ harr) rfl hK hs.2.2.2.2.1 hs.2.2.2.2.2.1 hs.2.2.2.2.2.2 hc.2.2.2.2.2.2.2.2.2.1 (fun cA => ?_) (fun h => by rw [show (0 : Int32) = Int32.ofInt 0 from rfl, lt32 hx3 in32_0] at h; omega) (by rw [nn32 hx3]; omega) (by show n * 8 ≤ _; omega) h1 h2 hd (fun q cA H1 hK1 hP1 hD1 hS1 => ?_)
  · rfl
  · have e1 : cA = ca 1 := by
      have r1 : va_RA s cA .long := (hK1.2 (gTy ca).length (cA, .long) (by simp)).2
      have r2 : va_RA s (ca 1) .long := (hK.2 1 (ca 1, .long) rfl).2
      exact Option.some.inj (r1.symm.trans r2)
    subst e1
    exact kk q H1 hP1 hD1 hS1
theorem Go_newR {n t idx : Nat} {x : Int} {C : String} (hx : x = (n : Int)) (hn : n ≤ 2000) (hC : (t = 0 ∧ C = "BreadOvens$Valley") ∨ (t = 1 ∧ C = "BreadOvens$Chart")) (hcl : Cond.classLink (gOwn m) idx C ∈ gTb) (hle : sh.length + 1 ≤ sh'.length) (hsz : gSz sh + gKs (t + 3, n) ≤ gSz sh') (hd : decode (gCode m) pc = .ok (.anewarray idx, 3)) (k0 : Go D ca sc R m (pc + 3) ls (gR sh.length :: st) (sh ++ [(t + 3, n)]) (gSet M sh.length (fun _ => 0)) rv sh' M') : Go D ca sc R m pc ls (gI x :: st) sh M rv sh' M' := by
  refine Go_alloc (k := (t + 3, n)) (st' := st) (fun v hv => List.mem_cons_of_mem _ hv) hle hsz (fun p l e s mi args below meth c Q ad H locs cells slots A H0 lc hc hs h1 h2 kk => ?_) k0
  have hx3 : in32 x := ok_h hs.2.2.1
  have hK := hc.2.2.2.2.2.2.2.1.1
  have hty : (gTy ca)[t + 2]? = some (ca (t + 2), .object C) := by rcases hC with ⟨rfl, rfl⟩ | ⟨rfl, rfl⟩ <;> rfl
  have hao : va_AO C s := by
    rcases hC with ⟨_, rfl⟩ | ⟨_, rfl⟩
    · exact hc.2.2.2.2.2.2.2.1.2.2.1
    · exact hc.2.2.2.2.2.2.2.1.2.2.2
  refine va_newq (n := Int32.ofInt x) (N' := n) hc.1 hc.2.1 hc.2.2.2.2.1 (hc.2.2.2.2.2.1 _ hcl) hao hK hs.2.2.2.2.1 hs.2.2.2.2.2.1 hs.2.2.2.2.2.2 hc.2.2.2.2.2.2.2.2.2.1 (fun h => by rw [show (0 : Int32) = Int32.ofInt 0 from rfl, lt32 hx3 in32_0] at h; omega) (by rw [nn32 hx3]; omega) (by omega) h1 h2 hd (fun q cA H1 hK1 hP1 hD1 hS1 => ?_)
  have e1 : cA = ca (t + 2) := by
    obtain ⟨k1, c1, a1, a2, a3, a4⟩ : va_RA s cA (.object C) := (hK1.2 (gTy ca).length (cA, .object C) (by simp)).2
    obtain ⟨k2, c2, b1, b2, b3, b4⟩ : va_RA s (ca (t + 2)) (.object C) := (hK.2 (t + 2) _ hty).2
    exact Option.some.inj (a4.symm.trans b4)
  subst e1
  exact kk q H1 hP1 hD1 hS1
theorem Go_aastore {i n t b ci : Nat} {x : Int} {r : vw_C} (j : Nat) (hk : sh[i]? = some (t + 3, n)) (hr : vwCl[ci]? = some r) (hC : (gTy ca)[t + 2]? = some (ca (t + 2), .object r.1)) (hb : sh[b]? = some (0, ci)) (hj : x = (j : Int)) (hlt : j < n) (hd : decode (gCode m) pc = .ok (.aastore, 1)) (k : Go D ca sc R m (pc + 1) ls (st) sh (gSet M i (gUp (M i) j ((b : Int) + 1))) rv sh' M') : Go D ca sc R m pc ls (gR b :: gI x :: gR i :: st) sh M rv sh' M' := by
  intro p l e s mi args below meth c Q ad H locs cells slots A H0 lc hc hs hr1 hr2 hk0
  obtain ⟨hl, hlo, hso, hok, hP, hD, hS⟩ := hs
  have hx : in32 x := ok_h (ok_t hso)
  subst hj
  show W p l e R s mi args below meth c H locs cells slots Q (F0 mi pc lc (gVl ca ad 2 ((b : Int) + 1) :: .int (Int32.ofInt (j : Int)) :: gVl ca ad 2 ((i : Int) + 1) :: st.map fun v => gVl ca ad v.1 v.2))
  rw [gVl_R, gVl_R]
  refine va_astq (f := fun j => gRf ad (M i j)) hc.1 hc.2.1 hc.2.2.2.2.2.2.2.1.1 hP hD hS i (t + 2) b ci (gW_at hk) hC (gW_at hb) hr (in_32 hx (by omega) (by omega)) hd (fun H1 locs1 hP1 hD1 hS1 => ?_)
  have e0 : (Int32.ofInt (j : Int)).toNatClampNeg = j := by rw [nn32 hx]; omega
  have e2 : va_up (fun j => gRf ad (M i j)) j (some (ad b)) = fun j' => gRf ad (gUp (M i) j ((b : Int) + 1) j') := by
    funext j'
    by_cases ej : j' = j
    · have h1 : ¬ ((b : Int) + 1 = 0) := by omega
      have h2 : ((b : Int) + 1).toNat - 1 = b := by omega
      simp only [va_up, gUp, ej, if_true, gRf, if_neg h1, h2]
    · simp only [va_up, gUp, if_neg ej]
  rw [e0, e2] at hP1 hD1
  have e3 := gW_set (ca := ca) (ad := ad) (M := M) hk (gUp (M i) j ((b : Int) + 1))
  have hP2 : va_P D vwCl (gW ca ad sh (gSet M i (gUp (M i) j ((b : Int) + 1)))) H1 := by rw [← e3]; exact hP1
  have hD2 : va_D A (gW ca ad sh (gSet M i (gUp (M i) j ((b : Int) + 1)))) := by rw [← e3]; exact hD1
  refine k p l e s mi args below meth c Q ad H1 locs1 cells slots A H0 lc hc ⟨hl, hlo, ok_t (ok_t (ok_t hso)), gOk_set hok hk ?_, hP2, hD2, hS1⟩ hr1 hr2 hk0
  intro j'
  by_cases ej : j' = j
  · subst ej
    rw [gUp_s]
    exact ok_h hso
  · rw [gUp_n ej]
    exact hok i _ hk j'
end GA
