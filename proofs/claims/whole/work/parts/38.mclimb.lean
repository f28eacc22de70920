def gvN (B P : Nat → Int) (car : Nat → Nat → Int) (t v : Nat) : Nat → Int
  | 0 => 0
  | p + 1 => w32 (gvN B P car t v p + if t.testBit p = true ∧ 0 < gnF B P car p v then 1 else 0)
def cpY9 (x g s : Int) : Int := if g = 0 then w64 (x + s) else if 1 < g then w64 (x - s) else x
def cpZ9 (y : Int) : Int := if y < 0 then 0 else if 100000000 < y then 100000000 else y
def cpF9 (b x g s : Int) : Int := if 0 < b then cpZ9 (cpY9 x g s) else x
def mvQ (B : Nat → Int) (car : Nat → Nat → Int) (t np : Nat) (s : Int) (z : Int × (Nat → Int)) : Nat → Int × (Nat → Int)
  | 0 => z
  | v + 1 => (w32 ((mvQ B car t np s z v).1 + if cpF9 (B v) ((mvQ B car t np s z v).2 v) (gvN B (mvQ B car t np s z v).2 car t v np) s ≠ (mvQ B car t np s z v).2 v then 1 else 0), gUp (mvQ B car t np s z v).2 v (cpF9 (B v) ((mvQ B car t np s z v).2 v) (gvN B (mvQ B car t np s z v).2 car t v np) s))
/-- one turn of climb: changes so far, memory -/
def cl9V (A : gMem) (nv np : Nat) (s x : Int) : Int × (Nat → Int) := mvQ (A 107) (mcM A) (riT A nv np).1.toNat np s (x, A 108) nv
def cl9B (A : gMem) (nv np : Nat) (s : Int) : gMem := gSet (riM A nv np) 108 (cl9V A nv np s 0).2
def cl9N (A : gMem) (nv np : Nat) (s : Int) : gMem := gSet (riM (cl9B A nv np s) nv np) 106 (gUp ((riM (cl9B A nv np s) nv np) 106) 38 (if A 106 38 < bnF (cl9B A nv np s) nv np then bnF (cl9B A nv np s) nv np else A 106 38))
def cl9S (A : gMem) (nv np : Nat) (s : Int) : Nat → Int × gMem
  | 0 => (0, A)
  | k + 1 => ((cl9V (cl9S A nv np s k).2 nv np s (cl9S A nv np s k).1).1, cl9N (cl9S A nv np s k).2 nv np s)
def cl9B9 (N : gMem) (nv np : Nat) : gMem := gSet (riM (riM N nv np) nv np) 106 (gUp ((riM (riM N nv np) nv np) 106) 38 (bnF (riM N nv np) nv np))
theorem mvQ_2 {B : Nat → Int} {car : Nat → Nat → Int} {t np : Nat} {s x y : Int} {P : Nat → Int} : ∀ v, (mvQ B car t np s (x, P) v).2 = (mvQ B car t np s (y, P) v).2
  | 0 => rfl
  | v + 1 => by
    simp only [mvQ]
    rw [mvQ_2 (x := x) (y := y) v]
theorem riM_o {A : gMem} {nv np i : Nat} (h : i ≠ 106 ∧ i ≠ 125) : riM A nv np i = A i := by
  unfold riM
  rw [gSet_n h.1, gSet_n h.2]
theorem riM_f {A : gMem} {nv np j : Nat} (h : j ≠ 36 ∧ j ≠ 37) : riM A nv np 106 j = A 106 j := by
  unfold riM
  rw [gSet_s, gUp_n h.2, gUp_n h.1]
theorem MS_c9 {A : gMem} {nv np : Nat} (hC : MS A nv np) (s : Int) : MS (cl9N A nv np s) nv np := MS_ob (MS_ri (MS_row (i := 108) (r := (cl9V A nv np s 0).2) (MS_ri hC) rfl)) (agM_up (agM_rf _) (by decide))
theorem c9_o {A : gMem} {nv np : Nat} {s : Int} {i : Nat} (h : i ≠ 106 ∧ i ≠ 125 ∧ i ≠ 108) : cl9N A nv np s i = A i := by
  unfold cl9N
  rw [gSet_n h.1, riM_o ⟨h.1, h.2.1⟩]
  unfold cl9B
  rw [gSet_n h.2.2, riM_o ⟨h.1, h.2.1⟩]
theorem c9_9 {A : gMem} {nv np : Nat} {s : Int} : cl9N A nv np s 106 9 = A 106 9 := rfl
theorem ricS_some {ok : Nat → Bool} {su : Nat → Int} {n : Nat} (h : ∃ c, c < n ∧ ok c = true) : ∃ t : Nat, t < n ∧ (ricS ok su n).1 = (t : Int) := by
  obtain ⟨c, hc, ho⟩ := h
  induction n with
  | zero => omega
  | succ n ih =>
    simp only [ricS]
    split
    · exact ⟨n, by omega, rfl⟩
    · rename_i h1
      by_cases q : c = n
      · subst q
        rcases ricS_nat ok su c with h2 | ⟨t, h2, h3⟩
        · exact absurd ⟨ho, Or.inl h2⟩ h1
        · exact ⟨t, by omega, h3⟩
      · obtain ⟨t, h2, h3⟩ := ih (by omega)
        exact ⟨t, by omega, h3⟩
set_option maxHeartbeats 4000000 in
set_option maxRecDepth 100000 in
theorem pX9_climb_bad {D : va_G} {ca : Nat → ClassId} {M : gMem} {nv np : Nat} (hC : MS M nv np) (n z : Int) (h : ¬ ((0 ≤ n ∧ n ≤ 100) ∧ 1 ≤ z ∧ z ≤ 100000)) : Fn D ca mX9_climb [gR 106, gI n, gI z] SH M [gI (-1)] SH (M) := by
  refine Fn_of okX9_climb (Nat.le_of_ble_eq_true rfl) (Or.inr (Or.inl ⟨_, rfl, rfl⟩)) (Nat.le_refl _) (Nat.le_refl _) ?_
  refine Go_ls2 (ls' := [(0, gR 106), (1, gI _), (2, gI _)]) rfl ?_
  have hv12 := hC.2.2.1
  have hn10 := hC.2.2.2.2
  refine Go_iload_n 1 rfl rfl dX9_climb_0 ?_
  refine Go_i2l dX9_climb_1 ?_
  refine Go_lconst (v := 0) ⟨rfl, by unfold in64; omega⟩ dX9_climb_2 ?_
  refine Go_ldc2 klX9_224 (by unfold in64; omega) dX9_climb_3 ?_
  refine Go_callSI (fX9_in _ _ _) cwX9_81 smX9_in ⟨Nat.le_of_ble_eq_true rfl, Nat.le_of_ble_eq_true rfl⟩ rfl (Nat.le_of_ble_eq_true rfl) sh_rf dX9_climb_6 ?_
  refine Go_if_eq dX9_climb_9 rfl (fun h9 => ?_) (fun h9 => ?_)
  · skip
    replace h9 := bI_0.mp h9
    refine Go_iconst (by unfold in32; omega) dX9_climb_24 ?_
    exact Go_ret rfl dX9_climb_25
  · skip
    replace h9 := bI_n.mp h9
    refine Go_iload_n 2 rfl rfl dX9_climb_12 ?_
    refine Go_i2l dX9_climb_13 ?_
    refine Go_lconst (v := 1) ⟨rfl, by unfold in64; omega⟩ dX9_climb_14 ?_
    refine Go_ldc2 klX9_99 (by unfold in64; omega) dX9_climb_15 ?_
    refine Go_callSI (fX9_in _ _ _) cwX9_81 smX9_in ⟨Nat.le_of_ble_eq_true rfl, Nat.le_of_ble_eq_true rfl⟩ rfl (Nat.le_of_ble_eq_true rfl) sh_rf dX9_climb_18 ?_
    refine Go_if_ne dX9_climb_21 rfl (fun h21 => ?_) (fun h21 => ?_)
    · skip
      replace h21 := bI_n.mp h21
      exact absurd ⟨h9, h21⟩ h
    · skip
      replace h21 := bI_0.mp h21
      refine Go_iconst (by unfold in32; omega) dX9_climb_24 ?_
      exact Go_ret rfl dX9_climb_25
set_option maxHeartbeats 4000000 in
set_option maxRecDepth 100000 in
theorem pX9_climb_st {D : va_G} {ca : Nat → ClassId} {M : gMem} {nv np : Nat} (hC : MS M nv np) (hH : ∀ p, p < np → ∃ z : Nat, z < 12 ∧ M 110 p = (z : Int)) (n : Nat) (hn : n ≤ 100) (z : Int) (hz : 1 ≤ z ∧ z ≤ 100000) (h : (riT (fyM M nv) nv np).1 = -4) : Fn D ca mX9_climb [gR 106, gI (n : Int), gI z] SH M [gI (-2)] SH (riM (fyM M nv) nv np) := by
  refine Fn_of okX9_climb (Nat.le_of_ble_eq_true rfl) (Or.inr (Or.inl ⟨_, rfl, rfl⟩)) (Nat.le_refl _) (Nat.le_refl _) ?_
  refine Go_ls2 (ls' := [(0, gR 106), (1, gI _), (2, gI _)]) rfl ?_
  have hv12 := hC.2.2.1
  have hn10 := hC.2.2.2.2
  have hN := MS_fy hC
  refine Go_iload_n 1 rfl rfl dX9_climb_0 ?_
  refine Go_i2l dX9_climb_1 ?_
  refine Go_lconst (v := 0) ⟨rfl, by unfold in64; omega⟩ dX9_climb_2 ?_
  refine Go_ldc2 klX9_224 (by unfold in64; omega) dX9_climb_3 ?_
  refine Go_callSI (fX9_in _ _ _) cwX9_81 smX9_in ⟨Nat.le_of_ble_eq_true rfl, Nat.le_of_ble_eq_true rfl⟩ rfl (Nat.le_of_ble_eq_true rfl) sh_rf dX9_climb_6 ?_
  refine Go_if_eq dX9_climb_9 rfl (fun h9 => ?_) (fun h9 => ?_)
  · skip
    replace h9 := bI_0.mp h9
    exfalso; omega
  · skip
    replace h9 := bI_n.mp h9
    refine Go_iload_n 2 rfl rfl dX9_climb_12 ?_
    refine Go_i2l dX9_climb_13 ?_
    refine Go_lconst (v := 1) ⟨rfl, by unfold in64; omega⟩ dX9_climb_14 ?_
    refine Go_ldc2 klX9_99 (by unfold in64; omega) dX9_climb_15 ?_
    refine Go_callSI (fX9_in _ _ _) cwX9_81 smX9_in ⟨Nat.le_of_ble_eq_true rfl, Nat.le_of_ble_eq_true rfl⟩ rfl (Nat.le_of_ble_eq_true rfl) sh_rf dX9_climb_18 ?_
    refine Go_if_ne dX9_climb_21 rfl (fun h21 => ?_) (fun h21 => ?_)
    · skip
      replace h21 := bI_n.mp h21
      refine Go_aload_n 0 rfl rfl dX9_climb_26 ?_
      refine Go_callV0 (q := vwCl[9]) (fX9_findWays hC) cwX9_112 imX9_findWays rfl rfl ⟨Nat.le_of_ble_eq_true rfl, Nat.le_of_ble_eq_true rfl⟩ sh_106 rfl (Nat.le_of_ble_eq_true rfl) sh_rf dX9_climb_27 ?_
      refine Go_M (M2 := fyM M nv) rfl ?_
      generalize hNe : fyM M nv = N at hN h ⊢
      refine Go_aload_n 0 rfl rfl dX9_climb_30 ?_
      refine Go_callV0 (q := vwCl[9]) (fX9_findRichest hN (fun p hp => by rw [← hNe]; exact hH p hp)) cwX9_217 imX9_findRichest rfl rfl ⟨Nat.le_of_ble_eq_true rfl, Nat.le_of_ble_eq_true rfl⟩ sh_106 rfl (Nat.le_of_ble_eq_true rfl) sh_rf dX9_climb_31 ?_
      refine Go_aload_n 0 rfl rfl dX9_climb_34 ?_
      refine Go_getIv (j := 36) (v := (riT N nv np).1) rfl faX9_211 sh_106 dX9_climb_35 ?_
      refine Go_bipush ⟨by decide, by unfold in32; omega⟩ dX9_climb_38 ?_
      refine Go_icmp_ne dX9_climb_40 rfl (fun h40 => ?_) (fun h40 => ?_)
      · skip
        exact absurd h h40
      · skip
        refine Go_bipush ⟨by decide, by unfold in32; omega⟩ dX9_climb_43 ?_
        exact Go_ret rfl dX9_climb_45
    · skip
      replace h21 := bI_0.mp h21
      exact absurd hz h21
set_option maxHeartbeats 4000000 in
set_option maxRecDepth 100000 in
theorem clbT {D : va_G} {ca : Nat → ClassId} {A : gMem} {nv np : Nat} (hA : MS A nv np) (hH : ∀ p, p < np → ∃ z : Nat, z < 12 ∧ A 110 p = (z : Int)) (hok : ∃ c, c < 2 ^ np ∧ alP (A 111) np (A 106 9) c = true) (n j : Nat) (hj : j < n) (hn : n ≤ 100) (s x0 xx : Int) (MM : gMem) (hc : Go D ca none (gRm mX9_climb (SH.length - SH.length) (gSz SH - gSz SH)) mX9_climb 59 [(0, gR 106), (1, gI (n : Int)), (2, gI s), (3, gI (cl9V A nv np s x0).1), (4, gI ((j + 1 : Nat) : Int))] [] SH (cl9N A nv np s) [gI xx] SH (MM)) : Go D ca none (gRm mX9_climb (SH.length - SH.length) (gSz SH - gSz SH)) mX9_climb 59 [(0, gR 106), (1, gI (n : Int)), (2, gI s), (3, gI x0), (4, gI (j : Int))] [] SH A [gI xx] SH (MM) := by
  have hv12 := hA.2.2.1
  have hn10 := hA.2.2.2.2
  have hpw := p10 hn10
  obtain ⟨t, ht1, ht0⟩ := ricS_some (su := fun c => suS (riY A nv np) c np) hok
  have ht : (riT A nv np).1 = (t : Int) := ht0
  have htn : (riT A nv np).1.toNat = t := by rw [ht, Int.toNat_natCast]
  have loop_72 : ∀ (k : Nat) (v : Nat) (x : Int) (P : Nat → Int), v + k = nv → mvQ (A 107) (mcM A) t np s (x0, A 108) v = (x, P) → Go D ca none (gRm mX9_climb (SH.length - SH.length) (gSz SH - gSz SH)) mX9_climb 72 [(0, gR 106), (1, gI (n : Int)), (2, gI s), (3, gI x), (4, gI (j : Int)), (5, gI (v : Int))] [] SH (gSet (riM A nv np) 108 P) [gI xx] SH (MM) := by
    intro k
    induction k with
    | zero =>
      intro v x P hv hx
      have ev : v = nv := by omega
      rw [ev] at hx
      refine Go_iload 5 rfl dX9_climb_72 ?_
      refine Go_aload_n 0 rfl rfl dX9_climb_74 ?_
      refine Go_getIv (j := 0) (v := (nv : Int)) (MS_ri hA).2.1 faX9_75 sh_106 dX9_climb_75 ?_
      refine Go_icmp_ge dX9_climb_78 rfl (fun h78 => ?_) (fun h78 => ?_)
      · skip
        refine Go_aload_n 0 rfl rfl dX9_climb_254 ?_
        refine Go_callVJ (q := vwCl[9]) (fX9_boundNow (MS_row (i := 108) (r := P) (MS_ri hA) rfl) hH) cwX9_220 imX9_boundNow rfl rfl ⟨Nat.le_of_ble_eq_true rfl, Nat.le_of_ble_eq_true rfl⟩ sh_106 rfl (Nat.le_of_ble_eq_true rfl) sh_rf dX9_climb_255 ?_
        have eP : P = (cl9V A nv np s 0).2 := by rw [show P = (mvQ (A 107) (mcM A) t np s (x0, A 108) nv).2 from by rw [hx]]; unfold cl9V; rw [htn]; exact mvQ_2 nv
        subst eP
        refine Go_topJ (v := bnF (cl9B A nv np s) nv np) rfl ?_
        refine Go_M (M2 := riM (cl9B A nv np s) nv np) rfl ?_
        refine Go_lstore (ls' := [(5, gJ _), (0, gR 106), (1, gI _), (2, gI _), (3, gI _), (4, gI _)]) dX9_climb_258 (by decide) rfl ?_
        refine Go_aload_n 1 rfl rfl dX9_climb_260 ?_
        refine Go_lload 0 rfl dX9_climb_261 ?_
        refine Go_aload_n 1 rfl rfl dX9_climb_263 ?_
        refine Go_getJv (j := 38) (v := A 106 38) rfl faX9_226 sh_106 dX9_climb_264 ?_
        refine Go_lcmp dX9_climb_267 ?_
        refine Go_if_le dX9_climb_268 rfl (fun h268 => ?_) (fun h268 => ?_)
        · skip
          replace h268 := cmp_le.mp h268
          refine Go_aload_n 1 rfl rfl dX9_climb_276 ?_
          refine Go_getJv (j := 38) (v := A 106 38) rfl faX9_226 sh_106 dX9_climb_277 ?_
          refine Go_topJ (v := if A 106 38 < bnF (cl9B A nv np s) nv np then bnF (cl9B A nv np s) nv np else A 106 38) (by rw [if_neg (by exact Int.not_lt.mpr h268)]) ?_
          refine Go_putJ fpX9_226 sh_106 dX9_climb_280 ?_
          refine Go_iincn j 1 rfl rfl (by omega) 5 (ls' := [(4, gI _), (5, gJ _), (0, gR 106), (1, gI _), (2, gI _), (3, gI _)]) rfl dX9_climb_283 (by decide) rfl ?_
          refine Go_goto dX9_climb_286 rfl ?_
          refine Go_pick [2, 3, 4, 5, 0] (ls' := [(0, gR 106), (1, gI _), (2, gI _), (3, gI _), (4, gI _)]) rfl ?_
          have ex : x = (cl9V A nv np s x0).1 := by unfold cl9V; rw [htn, hx]
          rw [ex]
          exact hc
        · skip
          replace h268 := cmp_gt.mp h268
          refine Go_lload 0 rfl dX9_climb_271 ?_
          refine Go_goto dX9_climb_273 rfl ?_
          refine Go_topJ (v := if A 106 38 < bnF (cl9B A nv np s) nv np then bnF (cl9B A nv np s) nv np else A 106 38) (by rw [if_pos (by exact h268)]) ?_
          refine Go_putJ fpX9_226 sh_106 dX9_climb_280 ?_
          refine Go_iincn j 1 rfl rfl (by omega) 5 (ls' := [(4, gI _), (5, gJ _), (0, gR 106), (1, gI _), (2, gI _), (3, gI _)]) rfl dX9_climb_283 (by decide) rfl ?_
          refine Go_goto dX9_climb_286 rfl ?_
          refine Go_pick [2, 3, 4, 5, 0] (ls' := [(0, gR 106), (1, gI _), (2, gI _), (3, gI _), (4, gI _)]) rfl ?_
          have ex : x = (cl9V A nv np s x0).1 := by unfold cl9V; rw [htn, hx]
          rw [ex]
          exact hc
      · skip
        exact absurd h78 (by omega)
    | succ k ih_72 =>
      intro v x P hv hx
      have loop_87 : ∀ (k : Nat) (p : Nat) (g : Int), p + k = np → gvN (A 107) P (mcM A) t v p = g → Go D ca none (gRm mX9_climb (SH.length - SH.length) (gSz SH - gSz SH)) mX9_climb 87 [(0, gR 106), (1, gI (n : Int)), (2, gI s), (3, gI x), (4, gI (j : Int)), (5, gI (v : Int)), (6, gI g), (7, gI (p : Int))] [] SH (gSet (riM A nv np) 108 P) [gI xx] SH (MM) := by
        intro k
        induction k with
        | zero =>
          intro p g hp hg
          obtain rfl : np = p := by omega
          refine Go_iload 7 rfl dX9_climb_87 ?_
          refine Go_aload_n 0 rfl rfl dX9_climb_89 ?_
          refine Go_getIv (j := 4) (v := (np : Int)) (MS_ri hA).2.2.2.1 faX9_78 sh_106 dX9_climb_90 ?_
          refine Go_icmp_ge dX9_climb_93 rfl (fun h93 => ?_) (fun h93 => ?_)
          · skip
            refine Go_aload_n 0 rfl rfl dX9_climb_138 ?_
            refine Go_getR (c' := 108) faX9_13 sh_106 (pt_106_2 (M := (riM A nv np)) (MS_ri hA).1) dX9_climb_139 ?_
            refine Go_iload 5 rfl dX9_climb_142 ?_
            refine Go_laloadv v (v := P (v)) rfl sh_108 rfl (by omega) dX9_climb_144 ?_
            refine Go_lstore (ls' := [(7, gJ _), (0, gR 106), (1, gI _), (2, gI _), (3, gI _), (4, gI _), (5, gI _), (6, gI _)]) dX9_climb_145 (by decide) rfl ?_
            refine Go_aload_n 1 rfl rfl dX9_climb_147 ?_
            refine Go_getR (c' := 107) faX9_7 sh_106 (pt_106_1 (M := (riM A nv np)) (MS_ri hA).1) dX9_climb_148 ?_
            refine Go_iload 6 rfl dX9_climb_151 ?_
            refine Go_ialoadv v (v := A 107 (v)) rfl sh_107 rfl (by omega) dX9_climb_153 ?_
            refine Go_if_le dX9_climb_154 rfl (fun h154 => ?_) (fun h154 => ?_)
            · skip
              have hcp : cpF9 (A 107 v) (P v) g s = P v := if_neg (Int.not_lt.mpr h154)
              refine Go_iload_n 4 rfl rfl dX9_climb_218 ?_
              refine Go_lload 0 rfl dX9_climb_219 ?_
              refine Go_aload_n 1 rfl rfl dX9_climb_221 ?_
              refine Go_getR (c' := 108) faX9_13 sh_106 (pt_106_2 (M := (riM A nv np)) (MS_ri hA).1) dX9_climb_222 ?_
              refine Go_iload 6 rfl dX9_climb_225 ?_
              refine Go_laloadv v (v := P (v)) rfl sh_108 rfl (by omega) dX9_climb_227 ?_
              refine Go_lcmp dX9_climb_228 ?_
              refine Go_if_eq dX9_climb_229 rfl (fun h229 => ?_) (fun h229 => ?_)
              · skip
                replace h229 := cmp_eq.mp h229
                refine Go_iconst (by unfold in32; omega) dX9_climb_236 ?_
                refine Go_iadd dX9_climb_237 ?_
                refine Go_istore_n (ls' := [(3, gI _), (7, gJ _), (0, gR 106), (1, gI _), (2, gI _), (4, gI _), (5, gI _), (6, gI _)]) rfl dX9_climb_238 (by decide) rfl ?_
                refine Go_aload_n 2 rfl rfl dX9_climb_239 ?_
                refine Go_getR (c' := 108) faX9_13 sh_106 (pt_106_2 (M := (riM A nv np)) (MS_ri hA).1) dX9_climb_240 ?_
                refine Go_iload 6 rfl dX9_climb_243 ?_
                refine Go_lload 1 rfl dX9_climb_245 ?_
                refine Go_lastoreS v sh_108 rfl (by omega) dX9_climb_247 ?_
                refine Go_iincn v 1 rfl rfl (by omega) 6 (ls' := [(5, gI _), (3, gI _), (7, gJ _), (0, gR 106), (1, gI _), (2, gI _), (4, gI _), (6, gI _)]) rfl dX9_climb_248 (by decide) rfl ?_
                refine Go_goto dX9_climb_251 rfl ?_
                refine Go_pick [3, 4, 5, 1, 6, 0] (ls' := [(0, gR 106), (1, gI _), (2, gI _), (3, gI _), (4, gI _), (5, gI _)]) rfl ?_
                refine Go_M (M2 := gSet (riM A nv np) 108 (gUp P v (cpF9 (A 107 v) (P v) g s))) (by rw [hcp]) ?_
                exact ih_72 (v + 1) _ _ (by omega) (by simp only [mvQ, hx]; rw [hg, hcp, if_neg (by exact fun q => q rfl)])
              · skip
                replace h229 := cmp_ne.mp h229
                exact absurd rfl h229
            · skip
              refine Go_iload 7 rfl dX9_climb_157 ?_
              refine Go_if_ne dX9_climb_159 rfl (fun h159 => ?_) (fun h159 => ?_)
              · skip
                refine Go_iload 7 rfl dX9_climb_170 ?_
                refine Go_iconst (by unfold in32; omega) dX9_climb_172 ?_
                refine Go_icmp_le dX9_climb_173 rfl (fun h173 => ?_) (fun h173 => ?_)
                · skip
                  refine Go_lload 0 rfl dX9_climb_184 ?_
                  refine Go_topJ (v := cpY9 (P v) g s) (by unfold cpY9; rw [if_neg (by exact h159), if_neg (by exact Int.not_lt.mpr h173)]) ?_
                  refine Go_lstore (ls' := [(7, gJ _), (0, gR 106), (1, gI _), (2, gI _), (3, gI _), (4, gI _), (5, gI _), (6, gI _)]) dX9_climb_186 (by decide) rfl ?_
                  refine Go_lload 0 rfl dX9_climb_188 ?_
                  refine Go_lconst (v := 0) ⟨rfl, by unfold in64; omega⟩ dX9_climb_190 ?_
                  refine Go_lcmp dX9_climb_191 ?_
                  refine Go_if_ge dX9_climb_192 rfl (fun h192 => ?_) (fun h192 => ?_)
                  · skip
                    replace h192 := cmp_ge.mp h192
                    refine Go_lload 0 rfl dX9_climb_199 ?_
                    refine Go_ldc2 klX9_201 (by unfold in64; omega) dX9_climb_201 ?_
                    refine Go_lcmp dX9_climb_204 ?_
                    refine Go_if_le dX9_climb_205 rfl (fun h205 => ?_) (fun h205 => ?_)
                    · skip
                      replace h205 := cmp_le.mp h205
                      refine Go_lload 0 rfl dX9_climb_214 ?_
                      refine Go_topJ (v := cpF9 (A 107 v) (P v) g s) (by unfold cpF9 cpZ9; rw [if_pos (by exact h154)]; rw [if_neg (by exact Int.not_lt.mpr h192), if_neg (by exact Int.not_lt.mpr h205)]) ?_
                      refine Go_lstore (ls' := [(7, gJ _), (0, gR 106), (1, gI _), (2, gI _), (3, gI _), (4, gI _), (5, gI _), (6, gI _)]) dX9_climb_216 (by decide) rfl ?_
                      refine Go_iload_n 4 rfl rfl dX9_climb_218 ?_
                      refine Go_lload 0 rfl dX9_climb_219 ?_
                      refine Go_aload_n 1 rfl rfl dX9_climb_221 ?_
                      refine Go_getR (c' := 108) faX9_13 sh_106 (pt_106_2 (M := (riM A nv np)) (MS_ri hA).1) dX9_climb_222 ?_
                      refine Go_iload 6 rfl dX9_climb_225 ?_
                      refine Go_laloadv v (v := P (v)) rfl sh_108 rfl (by omega) dX9_climb_227 ?_
                      refine Go_lcmp dX9_climb_228 ?_
                      refine Go_if_eq dX9_climb_229 rfl (fun h229 => ?_) (fun h229 => ?_)
                      · skip
                        replace h229 := cmp_eq.mp h229
                        refine Go_iconst (by unfold in32; omega) dX9_climb_236 ?_
                        refine Go_iadd dX9_climb_237 ?_
                        refine Go_istore_n (ls' := [(3, gI _), (7, gJ _), (0, gR 106), (1, gI _), (2, gI _), (4, gI _), (5, gI _), (6, gI _)]) rfl dX9_climb_238 (by decide) rfl ?_
                        refine Go_aload_n 2 rfl rfl dX9_climb_239 ?_
                        refine Go_getR (c' := 108) faX9_13 sh_106 (pt_106_2 (M := (riM A nv np)) (MS_ri hA).1) dX9_climb_240 ?_
                        refine Go_iload 6 rfl dX9_climb_243 ?_
                        refine Go_lload 1 rfl dX9_climb_245 ?_
                        refine Go_lastoreS v sh_108 rfl (by omega) dX9_climb_247 ?_
                        refine Go_iincn v 1 rfl rfl (by omega) 6 (ls' := [(5, gI _), (3, gI _), (7, gJ _), (0, gR 106), (1, gI _), (2, gI _), (4, gI _), (6, gI _)]) rfl dX9_climb_248 (by decide) rfl ?_
                        refine Go_goto dX9_climb_251 rfl ?_
                        refine Go_pick [3, 4, 5, 1, 6, 0] (ls' := [(0, gR 106), (1, gI _), (2, gI _), (3, gI _), (4, gI _), (5, gI _)]) rfl ?_
                        exact ih_72 (v + 1) _ _ (by omega) (by simp only [mvQ, hx]; rw [hg]; first | rw [if_neg (by exact fun q => q h229)] | rw [if_pos (by exact h229)])
                      · skip
                        replace h229 := cmp_ne.mp h229
                        refine Go_iconst (by unfold in32; omega) dX9_climb_232 ?_
                        refine Go_goto dX9_climb_233 rfl ?_
                        refine Go_iadd dX9_climb_237 ?_
                        refine Go_istore_n (ls' := [(3, gI _), (7, gJ _), (0, gR 106), (1, gI _), (2, gI _), (4, gI _), (5, gI _), (6, gI _)]) rfl dX9_climb_238 (by decide) rfl ?_
                        refine Go_aload_n 2 rfl rfl dX9_climb_239 ?_
                        refine Go_getR (c' := 108) faX9_13 sh_106 (pt_106_2 (M := (riM A nv np)) (MS_ri hA).1) dX9_climb_240 ?_
                        refine Go_iload 6 rfl dX9_climb_243 ?_
                        refine Go_lload 1 rfl dX9_climb_245 ?_
                        refine Go_lastoreS v sh_108 rfl (by omega) dX9_climb_247 ?_
                        refine Go_iincn v 1 rfl rfl (by omega) 6 (ls' := [(5, gI _), (3, gI _), (7, gJ _), (0, gR 106), (1, gI _), (2, gI _), (4, gI _), (6, gI _)]) rfl dX9_climb_248 (by decide) rfl ?_
                        refine Go_goto dX9_climb_251 rfl ?_
                        refine Go_pick [3, 4, 5, 1, 6, 0] (ls' := [(0, gR 106), (1, gI _), (2, gI _), (3, gI _), (4, gI _), (5, gI _)]) rfl ?_
                        exact ih_72 (v + 1) _ _ (by omega) (by simp only [mvQ, hx]; rw [hg]; first | rw [if_neg (by exact fun q => q h229)] | rw [if_pos (by exact h229)])
                    · skip
                      replace h205 := cmp_gt.mp h205
                      refine Go_ldc2 klX9_201 (by unfold in64; omega) dX9_climb_208 ?_
                      refine Go_goto dX9_climb_211 rfl ?_
                      refine Go_topJ (v := cpF9 (A 107 v) (P v) g s) (by unfold cpF9 cpZ9; rw [if_pos (by exact h154)]; rw [if_neg (by exact Int.not_lt.mpr h192), if_pos (by exact h205)]) ?_
                      refine Go_lstore (ls' := [(7, gJ _), (0, gR 106), (1, gI _), (2, gI _), (3, gI _), (4, gI _), (5, gI _), (6, gI _)]) dX9_climb_216 (by decide) rfl ?_
                      refine Go_iload_n 4 rfl rfl dX9_climb_218 ?_
                      refine Go_lload 0 rfl dX9_climb_219 ?_
                      refine Go_aload_n 1 rfl rfl dX9_climb_221 ?_
                      refine Go_getR (c' := 108) faX9_13 sh_106 (pt_106_2 (M := (riM A nv np)) (MS_ri hA).1) dX9_climb_222 ?_
                      refine Go_iload 6 rfl dX9_climb_225 ?_
                      refine Go_laloadv v (v := P (v)) rfl sh_108 rfl (by omega) dX9_climb_227 ?_
                      refine Go_lcmp dX9_climb_228 ?_
                      refine Go_if_eq dX9_climb_229 rfl (fun h229 => ?_) (fun h229 => ?_)
                      · skip
                        replace h229 := cmp_eq.mp h229
                        refine Go_iconst (by unfold in32; omega) dX9_climb_236 ?_
                        refine Go_iadd dX9_climb_237 ?_
                        refine Go_istore_n (ls' := [(3, gI _), (7, gJ _), (0, gR 106), (1, gI _), (2, gI _), (4, gI _), (5, gI _), (6, gI _)]) rfl dX9_climb_238 (by decide) rfl ?_
                        refine Go_aload_n 2 rfl rfl dX9_climb_239 ?_
                        refine Go_getR (c' := 108) faX9_13 sh_106 (pt_106_2 (M := (riM A nv np)) (MS_ri hA).1) dX9_climb_240 ?_
                        refine Go_iload 6 rfl dX9_climb_243 ?_
                        refine Go_lload 1 rfl dX9_climb_245 ?_
                        refine Go_lastoreS v sh_108 rfl (by omega) dX9_climb_247 ?_
                        refine Go_iincn v 1 rfl rfl (by omega) 6 (ls' := [(5, gI _), (3, gI _), (7, gJ _), (0, gR 106), (1, gI _), (2, gI _), (4, gI _), (6, gI _)]) rfl dX9_climb_248 (by decide) rfl ?_
                        refine Go_goto dX9_climb_251 rfl ?_
                        refine Go_pick [3, 4, 5, 1, 6, 0] (ls' := [(0, gR 106), (1, gI _), (2, gI _), (3, gI _), (4, gI _), (5, gI _)]) rfl ?_
                        exact ih_72 (v + 1) _ _ (by omega) (by simp only [mvQ, hx]; rw [hg]; first | rw [if_neg (by exact fun q => q h229)] | rw [if_pos (by exact h229)])
                      · skip
                        replace h229 := cmp_ne.mp h229
                        refine Go_iconst (by unfold in32; omega) dX9_climb_232 ?_
                        refine Go_goto dX9_climb_233 rfl ?_
                        refine Go_iadd dX9_climb_237 ?_
                        refine Go_istore_n (ls' := [(3, gI _), (7, gJ _), (0, gR 106), (1, gI _), (2, gI _), (4, gI _), (5, gI _), (6, gI _)]) rfl dX9_climb_238 (by decide) rfl ?_
                        refine Go_aload_n 2 rfl rfl dX9_climb_239 ?_
                        refine Go_getR (c' := 108) faX9_13 sh_106 (pt_106_2 (M := (riM A nv np)) (MS_ri hA).1) dX9_climb_240 ?_
                        refine Go_iload 6 rfl dX9_climb_243 ?_
                        refine Go_lload 1 rfl dX9_climb_245 ?_
                        refine Go_lastoreS v sh_108 rfl (by omega) dX9_climb_247 ?_
                        refine Go_iincn v 1 rfl rfl (by omega) 6 (ls' := [(5, gI _), (3, gI _), (7, gJ _), (0, gR 106), (1, gI _), (2, gI _), (4, gI _), (6, gI _)]) rfl dX9_climb_248 (by decide) rfl ?_
                        refine Go_goto dX9_climb_251 rfl ?_
                        refine Go_pick [3, 4, 5, 1, 6, 0] (ls' := [(0, gR 106), (1, gI _), (2, gI _), (3, gI _), (4, gI _), (5, gI _)]) rfl ?_
                        exact ih_72 (v + 1) _ _ (by omega) (by simp only [mvQ, hx]; rw [hg]; first | rw [if_neg (by exact fun q => q h229)] | rw [if_pos (by exact h229)])
                  · skip
                    replace h192 := cmp_lt.mp h192
                    refine Go_lconst (v := 0) ⟨rfl, by unfold in64; omega⟩ dX9_climb_195 ?_
                    refine Go_goto dX9_climb_196 rfl ?_
                    refine Go_topJ (v := cpF9 (A 107 v) (P v) g s) (by unfold cpF9 cpZ9; rw [if_pos (by exact h154)]; rw [if_pos (by exact h192)]) ?_
                    refine Go_lstore (ls' := [(7, gJ _), (0, gR 106), (1, gI _), (2, gI _), (3, gI _), (4, gI _), (5, gI _), (6, gI _)]) dX9_climb_216 (by decide) rfl ?_
                    refine Go_iload_n 4 rfl rfl dX9_climb_218 ?_
                    refine Go_lload 0 rfl dX9_climb_219 ?_
                    refine Go_aload_n 1 rfl rfl dX9_climb_221 ?_
                    refine Go_getR (c' := 108) faX9_13 sh_106 (pt_106_2 (M := (riM A nv np)) (MS_ri hA).1) dX9_climb_222 ?_
                    refine Go_iload 6 rfl dX9_climb_225 ?_
                    refine Go_laloadv v (v := P (v)) rfl sh_108 rfl (by omega) dX9_climb_227 ?_
                    refine Go_lcmp dX9_climb_228 ?_
                    refine Go_if_eq dX9_climb_229 rfl (fun h229 => ?_) (fun h229 => ?_)
                    · skip
                      replace h229 := cmp_eq.mp h229
                      refine Go_iconst (by unfold in32; omega) dX9_climb_236 ?_
                      refine Go_iadd dX9_climb_237 ?_
                      refine Go_istore_n (ls' := [(3, gI _), (7, gJ _), (0, gR 106), (1, gI _), (2, gI _), (4, gI _), (5, gI _), (6, gI _)]) rfl dX9_climb_238 (by decide) rfl ?_
                      refine Go_aload_n 2 rfl rfl dX9_climb_239 ?_
                      refine Go_getR (c' := 108) faX9_13 sh_106 (pt_106_2 (M := (riM A nv np)) (MS_ri hA).1) dX9_climb_240 ?_
                      refine Go_iload 6 rfl dX9_climb_243 ?_
                      refine Go_lload 1 rfl dX9_climb_245 ?_
                      refine Go_lastoreS v sh_108 rfl (by omega) dX9_climb_247 ?_
                      refine Go_iincn v 1 rfl rfl (by omega) 6 (ls' := [(5, gI _), (3, gI _), (7, gJ _), (0, gR 106), (1, gI _), (2, gI _), (4, gI _), (6, gI _)]) rfl dX9_climb_248 (by decide) rfl ?_
                      refine Go_goto dX9_climb_251 rfl ?_
                      refine Go_pick [3, 4, 5, 1, 6, 0] (ls' := [(0, gR 106), (1, gI _), (2, gI _), (3, gI _), (4, gI _), (5, gI _)]) rfl ?_
                      exact ih_72 (v + 1) _ _ (by omega) (by simp only [mvQ, hx]; rw [hg]; first | rw [if_neg (by exact fun q => q h229)] | rw [if_pos (by exact h229)])
                    · skip
                      replace h229 := cmp_ne.mp h229
                      refine Go_iconst (by unfold in32; omega) dX9_climb_232 ?_
                      refine Go_goto dX9_climb_233 rfl ?_
                      refine Go_iadd dX9_climb_237 ?_
                      refine Go_istore_n (ls' := [(3, gI _), (7, gJ _), (0, gR 106), (1, gI _), (2, gI _), (4, gI _), (5, gI _), (6, gI _)]) rfl dX9_climb_238 (by decide) rfl ?_
                      refine Go_aload_n 2 rfl rfl dX9_climb_239 ?_
                      refine Go_getR (c' := 108) faX9_13 sh_106 (pt_106_2 (M := (riM A nv np)) (MS_ri hA).1) dX9_climb_240 ?_
                      refine Go_iload 6 rfl dX9_climb_243 ?_
                      refine Go_lload 1 rfl dX9_climb_245 ?_
                      refine Go_lastoreS v sh_108 rfl (by omega) dX9_climb_247 ?_
                      refine Go_iincn v 1 rfl rfl (by omega) 6 (ls' := [(5, gI _), (3, gI _), (7, gJ _), (0, gR 106), (1, gI _), (2, gI _), (4, gI _), (6, gI _)]) rfl dX9_climb_248 (by decide) rfl ?_
                      refine Go_goto dX9_climb_251 rfl ?_
                      refine Go_pick [3, 4, 5, 1, 6, 0] (ls' := [(0, gR 106), (1, gI _), (2, gI _), (3, gI _), (4, gI _), (5, gI _)]) rfl ?_
                      exact ih_72 (v + 1) _ _ (by omega) (by simp only [mvQ, hx]; rw [hg]; first | rw [if_neg (by exact fun q => q h229)] | rw [if_pos (by exact h229)])
                · skip
                  refine Go_lload 0 rfl dX9_climb_176 ?_
                  refine Go_iload_n 3 rfl rfl dX9_climb_178 ?_
                  refine Go_i2l dX9_climb_179 ?_
                  refine Go_lsub dX9_climb_180 ?_
                  refine Go_goto dX9_climb_181 rfl ?_
                  refine Go_topJ (v := cpY9 (P v) g s) (by unfold cpY9; rw [if_neg (by exact h159), if_pos (by exact h173)]) ?_
                  refine Go_lstore (ls' := [(7, gJ _), (0, gR 106), (1, gI _), (2, gI _), (3, gI _), (4, gI _), (5, gI _), (6, gI _)]) dX9_climb_186 (by decide) rfl ?_
                  refine Go_lload 0 rfl dX9_climb_188 ?_
                  refine Go_lconst (v := 0) ⟨rfl, by unfold in64; omega⟩ dX9_climb_190 ?_
                  refine Go_lcmp dX9_climb_191 ?_
                  refine Go_if_ge dX9_climb_192 rfl (fun h192 => ?_) (fun h192 => ?_)
                  · skip
                    replace h192 := cmp_ge.mp h192
                    refine Go_lload 0 rfl dX9_climb_199 ?_
                    refine Go_ldc2 klX9_201 (by unfold in64; omega) dX9_climb_201 ?_
                    refine Go_lcmp dX9_climb_204 ?_
                    refine Go_if_le dX9_climb_205 rfl (fun h205 => ?_) (fun h205 => ?_)
                    · skip
                      replace h205 := cmp_le.mp h205
                      refine Go_lload 0 rfl dX9_climb_214 ?_
                      refine Go_topJ (v := cpF9 (A 107 v) (P v) g s) (by unfold cpF9 cpZ9; rw [if_pos (by exact h154)]; rw [if_neg (by exact Int.not_lt.mpr h192), if_neg (by exact Int.not_lt.mpr h205)]) ?_
                      refine Go_lstore (ls' := [(7, gJ _), (0, gR 106), (1, gI _), (2, gI _), (3, gI _), (4, gI _), (5, gI _), (6, gI _)]) dX9_climb_216 (by decide) rfl ?_
                      refine Go_iload_n 4 rfl rfl dX9_climb_218 ?_
                      refine Go_lload 0 rfl dX9_climb_219 ?_
                      refine Go_aload_n 1 rfl rfl dX9_climb_221 ?_
                      refine Go_getR (c' := 108) faX9_13 sh_106 (pt_106_2 (M := (riM A nv np)) (MS_ri hA).1) dX9_climb_222 ?_
                      refine Go_iload 6 rfl dX9_climb_225 ?_
                      refine Go_laloadv v (v := P (v)) rfl sh_108 rfl (by omega) dX9_climb_227 ?_
                      refine Go_lcmp dX9_climb_228 ?_
                      refine Go_if_eq dX9_climb_229 rfl (fun h229 => ?_) (fun h229 => ?_)
                      · skip
                        replace h229 := cmp_eq.mp h229
                        refine Go_iconst (by unfold in32; omega) dX9_climb_236 ?_
                        refine Go_iadd dX9_climb_237 ?_
                        refine Go_istore_n (ls' := [(3, gI _), (7, gJ _), (0, gR 106), (1, gI _), (2, gI _), (4, gI _), (5, gI _), (6, gI _)]) rfl dX9_climb_238 (by decide) rfl ?_
                        refine Go_aload_n 2 rfl rfl dX9_climb_239 ?_
                        refine Go_getR (c' := 108) faX9_13 sh_106 (pt_106_2 (M := (riM A nv np)) (MS_ri hA).1) dX9_climb_240 ?_
                        refine Go_iload 6 rfl dX9_climb_243 ?_
                        refine Go_lload 1 rfl dX9_climb_245 ?_
                        refine Go_lastoreS v sh_108 rfl (by omega) dX9_climb_247 ?_
                        refine Go_iincn v 1 rfl rfl (by omega) 6 (ls' := [(5, gI _), (3, gI _), (7, gJ _), (0, gR 106), (1, gI _), (2, gI _), (4, gI _), (6, gI _)]) rfl dX9_climb_248 (by decide) rfl ?_
                        refine Go_goto dX9_climb_251 rfl ?_
                        refine Go_pick [3, 4, 5, 1, 6, 0] (ls' := [(0, gR 106), (1, gI _), (2, gI _), (3, gI _), (4, gI _), (5, gI _)]) rfl ?_
                        exact ih_72 (v + 1) _ _ (by omega) (by simp only [mvQ, hx]; rw [hg]; first | rw [if_neg (by exact fun q => q h229)] | rw [if_pos (by exact h229)])
                      · skip
                        replace h229 := cmp_ne.mp h229
                        refine Go_iconst (by unfold in32; omega) dX9_climb_232 ?_
                        refine Go_goto dX9_climb_233 rfl ?_
                        refine Go_iadd dX9_climb_237 ?_
                        refine Go_istore_n (ls' := [(3, gI _), (7, gJ _), (0, gR 106), (1, gI _), (2, gI _), (4, gI _), (5, gI _), (6, gI _)]) rfl dX9_climb_238 (by decide) rfl ?_
                        refine Go_aload_n 2 rfl rfl dX9_climb_239 ?_
                        refine Go_getR (c' := 108) faX9_13 sh_106 (pt_106_2 (M := (riM A nv np)) (MS_ri hA).1) dX9_climb_240 ?_
                        refine Go_iload 6 rfl dX9_climb_243 ?_
                        refine Go_lload 1 rfl dX9_climb_245 ?_
                        refine Go_lastoreS v sh_108 rfl (by omega) dX9_climb_247 ?_
                        refine Go_iincn v 1 rfl rfl (by omega) 6 (ls' := [(5, gI _), (3, gI _), (7, gJ _), (0, gR 106), (1, gI _), (2, gI _), (4, gI _), (6, gI _)]) rfl dX9_climb_248 (by decide) rfl ?_
                        refine Go_goto dX9_climb_251 rfl ?_
                        refine Go_pick [3, 4, 5, 1, 6, 0] (ls' := [(0, gR 106), (1, gI _), (2, gI _), (3, gI _), (4, gI _), (5, gI _)]) rfl ?_
                        exact ih_72 (v + 1) _ _ (by omega) (by simp only [mvQ, hx]; rw [hg]; first | rw [if_neg (by exact fun q => q h229)] | rw [if_pos (by exact h229)])
                    · skip
                      replace h205 := cmp_gt.mp h205
                      refine Go_ldc2 klX9_201 (by unfold in64; omega) dX9_climb_208 ?_
                      refine Go_goto dX9_climb_211 rfl ?_
                      refine Go_topJ (v := cpF9 (A 107 v) (P v) g s) (by unfold cpF9 cpZ9; rw [if_pos (by exact h154)]; rw [if_neg (by exact Int.not_lt.mpr h192), if_pos (by exact h205)]) ?_
                      refine Go_lstore (ls' := [(7, gJ _), (0, gR 106), (1, gI _), (2, gI _), (3, gI _), (4, gI _), (5, gI _), (6, gI _)]) dX9_climb_216 (by decide) rfl ?_
                      refine Go_iload_n 4 rfl rfl dX9_climb_218 ?_
                      refine Go_lload 0 rfl dX9_climb_219 ?_
                      refine Go_aload_n 1 rfl rfl dX9_climb_221 ?_
                      refine Go_getR (c' := 108) faX9_13 sh_106 (pt_106_2 (M := (riM A nv np)) (MS_ri hA).1) dX9_climb_222 ?_
                      refine Go_iload 6 rfl dX9_climb_225 ?_
                      refine Go_laloadv v (v := P (v)) rfl sh_108 rfl (by omega) dX9_climb_227 ?_
                      refine Go_lcmp dX9_climb_228 ?_
                      refine Go_if_eq dX9_climb_229 rfl (fun h229 => ?_) (fun h229 => ?_)
                      · skip
                        replace h229 := cmp_eq.mp h229
                        refine Go_iconst (by unfold in32; omega) dX9_climb_236 ?_
                        refine Go_iadd dX9_climb_237 ?_
                        refine Go_istore_n (ls' := [(3, gI _), (7, gJ _), (0, gR 106), (1, gI _), (2, gI _), (4, gI _), (5, gI _), (6, gI _)]) rfl dX9_climb_238 (by decide) rfl ?_
                        refine Go_aload_n 2 rfl rfl dX9_climb_239 ?_
                        refine Go_getR (c' := 108) faX9_13 sh_106 (pt_106_2 (M := (riM A nv np)) (MS_ri hA).1) dX9_climb_240 ?_
                        refine Go_iload 6 rfl dX9_climb_243 ?_
                        refine Go_lload 1 rfl dX9_climb_245 ?_
                        refine Go_lastoreS v sh_108 rfl (by omega) dX9_climb_247 ?_
                        refine Go_iincn v 1 rfl rfl (by omega) 6 (ls' := [(5, gI _), (3, gI _), (7, gJ _), (0, gR 106), (1, gI _), (2, gI _), (4, gI _), (6, gI _)]) rfl dX9_climb_248 (by decide) rfl ?_
                        refine Go_goto dX9_climb_251 rfl ?_
                        refine Go_pick [3, 4, 5, 1, 6, 0] (ls' := [(0, gR 106), (1, gI _), (2, gI _), (3, gI _), (4, gI _), (5, gI _)]) rfl ?_
                        exact ih_72 (v + 1) _ _ (by omega) (by simp only [mvQ, hx]; rw [hg]; first | rw [if_neg (by exact fun q => q h229)] | rw [if_pos (by exact h229)])
                      · skip
                        replace h229 := cmp_ne.mp h229
                        refine Go_iconst (by unfold in32; omega) dX9_climb_232 ?_
                        refine Go_goto dX9_climb_233 rfl ?_
                        refine Go_iadd dX9_climb_237 ?_
                        refine Go_istore_n (ls' := [(3, gI _), (7, gJ _), (0, gR 106), (1, gI _), (2, gI _), (4, gI _), (5, gI _), (6, gI _)]) rfl dX9_climb_238 (by decide) rfl ?_
                        refine Go_aload_n 2 rfl rfl dX9_climb_239 ?_
                        refine Go_getR (c' := 108) faX9_13 sh_106 (pt_106_2 (M := (riM A nv np)) (MS_ri hA).1) dX9_climb_240 ?_
                        refine Go_iload 6 rfl dX9_climb_243 ?_
                        refine Go_lload 1 rfl dX9_climb_245 ?_
                        refine Go_lastoreS v sh_108 rfl (by omega) dX9_climb_247 ?_
                        refine Go_iincn v 1 rfl rfl (by omega) 6 (ls' := [(5, gI _), (3, gI _), (7, gJ _), (0, gR 106), (1, gI _), (2, gI _), (4, gI _), (6, gI _)]) rfl dX9_climb_248 (by decide) rfl ?_
                        refine Go_goto dX9_climb_251 rfl ?_
                        refine Go_pick [3, 4, 5, 1, 6, 0] (ls' := [(0, gR 106), (1, gI _), (2, gI _), (3, gI _), (4, gI _), (5, gI _)]) rfl ?_
                        exact ih_72 (v + 1) _ _ (by omega) (by simp only [mvQ, hx]; rw [hg]; first | rw [if_neg (by exact fun q => q h229)] | rw [if_pos (by exact h229)])
                  · skip
                    replace h192 := cmp_lt.mp h192
                    refine Go_lconst (v := 0) ⟨rfl, by unfold in64; omega⟩ dX9_climb_195 ?_
                    refine Go_goto dX9_climb_196 rfl ?_
                    refine Go_topJ (v := cpF9 (A 107 v) (P v) g s) (by unfold cpF9 cpZ9; rw [if_pos (by exact h154)]; rw [if_pos (by exact h192)]) ?_
                    refine Go_lstore (ls' := [(7, gJ _), (0, gR 106), (1, gI _), (2, gI _), (3, gI _), (4, gI _), (5, gI _), (6, gI _)]) dX9_climb_216 (by decide) rfl ?_
                    refine Go_iload_n 4 rfl rfl dX9_climb_218 ?_
                    refine Go_lload 0 rfl dX9_climb_219 ?_
                    refine Go_aload_n 1 rfl rfl dX9_climb_221 ?_
                    refine Go_getR (c' := 108) faX9_13 sh_106 (pt_106_2 (M := (riM A nv np)) (MS_ri hA).1) dX9_climb_222 ?_
                    refine Go_iload 6 rfl dX9_climb_225 ?_
                    refine Go_laloadv v (v := P (v)) rfl sh_108 rfl (by omega) dX9_climb_227 ?_
                    refine Go_lcmp dX9_climb_228 ?_
                    refine Go_if_eq dX9_climb_229 rfl (fun h229 => ?_) (fun h229 => ?_)
                    · skip
                      replace h229 := cmp_eq.mp h229
                      refine Go_iconst (by unfold in32; omega) dX9_climb_236 ?_
                      refine Go_iadd dX9_climb_237 ?_
                      refine Go_istore_n (ls' := [(3, gI _), (7, gJ _), (0, gR 106), (1, gI _), (2, gI _), (4, gI _), (5, gI _), (6, gI _)]) rfl dX9_climb_238 (by decide) rfl ?_
                      refine Go_aload_n 2 rfl rfl dX9_climb_239 ?_
                      refine Go_getR (c' := 108) faX9_13 sh_106 (pt_106_2 (M := (riM A nv np)) (MS_ri hA).1) dX9_climb_240 ?_
                      refine Go_iload 6 rfl dX9_climb_243 ?_
                      refine Go_lload 1 rfl dX9_climb_245 ?_
                      refine Go_lastoreS v sh_108 rfl (by omega) dX9_climb_247 ?_
                      refine Go_iincn v 1 rfl rfl (by omega) 6 (ls' := [(5, gI _), (3, gI _), (7, gJ _), (0, gR 106), (1, gI _), (2, gI _), (4, gI _), (6, gI _)]) rfl dX9_climb_248 (by decide) rfl ?_
                      refine Go_goto dX9_climb_251 rfl ?_
                      refine Go_pick [3, 4, 5, 1, 6, 0] (ls' := [(0, gR 106), (1, gI _), (2, gI _), (3, gI _), (4, gI _), (5, gI _)]) rfl ?_
                      exact ih_72 (v + 1) _ _ (by omega) (by simp only [mvQ, hx]; rw [hg]; first | rw [if_neg (by exact fun q => q h229)] | rw [if_pos (by exact h229)])
                    · skip
                      replace h229 := cmp_ne.mp h229
                      refine Go_iconst (by unfold in32; omega) dX9_climb_232 ?_
                      refine Go_goto dX9_climb_233 rfl ?_
                      refine Go_iadd dX9_climb_237 ?_
                      refine Go_istore_n (ls' := [(3, gI _), (7, gJ _), (0, gR 106), (1, gI _), (2, gI _), (4, gI _), (5, gI _), (6, gI _)]) rfl dX9_climb_238 (by decide) rfl ?_
                      refine Go_aload_n 2 rfl rfl dX9_climb_239 ?_
                      refine Go_getR (c' := 108) faX9_13 sh_106 (pt_106_2 (M := (riM A nv np)) (MS_ri hA).1) dX9_climb_240 ?_
                      refine Go_iload 6 rfl dX9_climb_243 ?_
                      refine Go_lload 1 rfl dX9_climb_245 ?_
                      refine Go_lastoreS v sh_108 rfl (by omega) dX9_climb_247 ?_
                      refine Go_iincn v 1 rfl rfl (by omega) 6 (ls' := [(5, gI _), (3, gI _), (7, gJ _), (0, gR 106), (1, gI _), (2, gI _), (4, gI _), (6, gI _)]) rfl dX9_climb_248 (by decide) rfl ?_
                      refine Go_goto dX9_climb_251 rfl ?_
                      refine Go_pick [3, 4, 5, 1, 6, 0] (ls' := [(0, gR 106), (1, gI _), (2, gI _), (3, gI _), (4, gI _), (5, gI _)]) rfl ?_
                      exact ih_72 (v + 1) _ _ (by omega) (by simp only [mvQ, hx]; rw [hg]; first | rw [if_neg (by exact fun q => q h229)] | rw [if_pos (by exact h229)])
              · skip
                refine Go_lload 0 rfl dX9_climb_162 ?_
                refine Go_iload_n 3 rfl rfl dX9_climb_164 ?_
                refine Go_i2l dX9_climb_165 ?_
                refine Go_ladd dX9_climb_166 ?_
                refine Go_goto dX9_climb_167 rfl ?_
                refine Go_topJ (v := cpY9 (P v) g s) (by unfold cpY9; rw [if_pos (by exact h159)]) ?_
                refine Go_lstore (ls' := [(7, gJ _), (0, gR 106), (1, gI _), (2, gI _), (3, gI _), (4, gI _), (5, gI _), (6, gI _)]) dX9_climb_186 (by decide) rfl ?_
                refine Go_lload 0 rfl dX9_climb_188 ?_
                refine Go_lconst (v := 0) ⟨rfl, by unfold in64; omega⟩ dX9_climb_190 ?_
                refine Go_lcmp dX9_climb_191 ?_
                refine Go_if_ge dX9_climb_192 rfl (fun h192 => ?_) (fun h192 => ?_)
                · skip
                  replace h192 := cmp_ge.mp h192
                  refine Go_lload 0 rfl dX9_climb_199 ?_
                  refine Go_ldc2 klX9_201 (by unfold in64; omega) dX9_climb_201 ?_
                  refine Go_lcmp dX9_climb_204 ?_
                  refine Go_if_le dX9_climb_205 rfl (fun h205 => ?_) (fun h205 => ?_)
                  · skip
                    replace h205 := cmp_le.mp h205
                    refine Go_lload 0 rfl dX9_climb_214 ?_
                    refine Go_topJ (v := cpF9 (A 107 v) (P v) g s) (by unfold cpF9 cpZ9; rw [if_pos (by exact h154)]; rw [if_neg (by exact Int.not_lt.mpr h192), if_neg (by exact Int.not_lt.mpr h205)]) ?_
                    refine Go_lstore (ls' := [(7, gJ _), (0, gR 106), (1, gI _), (2, gI _), (3, gI _), (4, gI _), (5, gI _), (6, gI _)]) dX9_climb_216 (by decide) rfl ?_
                    refine Go_iload_n 4 rfl rfl dX9_climb_218 ?_
                    refine Go_lload 0 rfl dX9_climb_219 ?_
                    refine Go_aload_n 1 rfl rfl dX9_climb_221 ?_
                    refine Go_getR (c' := 108) faX9_13 sh_106 (pt_106_2 (M := (riM A nv np)) (MS_ri hA).1) dX9_climb_222 ?_
                    refine Go_iload 6 rfl dX9_climb_225 ?_
                    refine Go_laloadv v (v := P (v)) rfl sh_108 rfl (by omega) dX9_climb_227 ?_
                    refine Go_lcmp dX9_climb_228 ?_
                    refine Go_if_eq dX9_climb_229 rfl (fun h229 => ?_) (fun h229 => ?_)
                    · skip
                      replace h229 := cmp_eq.mp h229
                      refine Go_iconst (by unfold in32; omega) dX9_climb_236 ?_
                      refine Go_iadd dX9_climb_237 ?_
                      refine Go_istore_n (ls' := [(3, gI _), (7, gJ _), (0, gR 106), (1, gI _), (2, gI _), (4, gI _), (5, gI _), (6, gI _)]) rfl dX9_climb_238 (by decide) rfl ?_
                      refine Go_aload_n 2 rfl rfl dX9_climb_239 ?_
                      refine Go_getR (c' := 108) faX9_13 sh_106 (pt_106_2 (M := (riM A nv np)) (MS_ri hA).1) dX9_climb_240 ?_
                      refine Go_iload 6 rfl dX9_climb_243 ?_
                      refine Go_lload 1 rfl dX9_climb_245 ?_
                      refine Go_lastoreS v sh_108 rfl (by omega) dX9_climb_247 ?_
                      refine Go_iincn v 1 rfl rfl (by omega) 6 (ls' := [(5, gI _), (3, gI _), (7, gJ _), (0, gR 106), (1, gI _), (2, gI _), (4, gI _), (6, gI _)]) rfl dX9_climb_248 (by decide) rfl ?_
                      refine Go_goto dX9_climb_251 rfl ?_
                      refine Go_pick [3, 4, 5, 1, 6, 0] (ls' := [(0, gR 106), (1, gI _), (2, gI _), (3, gI _), (4, gI _), (5, gI _)]) rfl ?_
                      exact ih_72 (v + 1) _ _ (by omega) (by simp only [mvQ, hx]; rw [hg]; first | rw [if_neg (by exact fun q => q h229)] | rw [if_pos (by exact h229)])
                    · skip
                      replace h229 := cmp_ne.mp h229
                      refine Go_iconst (by unfold in32; omega) dX9_climb_232 ?_
                      refine Go_goto dX9_climb_233 rfl ?_
                      refine Go_iadd dX9_climb_237 ?_
                      refine Go_istore_n (ls' := [(3, gI _), (7, gJ _), (0, gR 106), (1, gI _), (2, gI _), (4, gI _), (5, gI _), (6, gI _)]) rfl dX9_climb_238 (by decide) rfl ?_
                      refine Go_aload_n 2 rfl rfl dX9_climb_239 ?_
                      refine Go_getR (c' := 108) faX9_13 sh_106 (pt_106_2 (M := (riM A nv np)) (MS_ri hA).1) dX9_climb_240 ?_
                      refine Go_iload 6 rfl dX9_climb_243 ?_
                      refine Go_lload 1 rfl dX9_climb_245 ?_
                      refine Go_lastoreS v sh_108 rfl (by omega) dX9_climb_247 ?_
                      refine Go_iincn v 1 rfl rfl (by omega) 6 (ls' := [(5, gI _), (3, gI _), (7, gJ _), (0, gR 106), (1, gI _), (2, gI _), (4, gI _), (6, gI _)]) rfl dX9_climb_248 (by decide) rfl ?_
                      refine Go_goto dX9_climb_251 rfl ?_
                      refine Go_pick [3, 4, 5, 1, 6, 0] (ls' := [(0, gR 106), (1, gI _), (2, gI _), (3, gI _), (4, gI _), (5, gI _)]) rfl ?_
                      exact ih_72 (v + 1) _ _ (by omega) (by simp only [mvQ, hx]; rw [hg]; first | rw [if_neg (by exact fun q => q h229)] | rw [if_pos (by exact h229)])
                  · skip
                    replace h205 := cmp_gt.mp h205
                    refine Go_ldc2 klX9_201 (by unfold in64; omega) dX9_climb_208 ?_
                    refine Go_goto dX9_climb_211 rfl ?_
                    refine Go_topJ (v := cpF9 (A 107 v) (P v) g s) (by unfold cpF9 cpZ9; rw [if_pos (by exact h154)]; rw [if_neg (by exact Int.not_lt.mpr h192), if_pos (by exact h205)]) ?_
                    refine Go_lstore (ls' := [(7, gJ _), (0, gR 106), (1, gI _), (2, gI _), (3, gI _), (4, gI _), (5, gI _), (6, gI _)]) dX9_climb_216 (by decide) rfl ?_
                    refine Go_iload_n 4 rfl rfl dX9_climb_218 ?_
                    refine Go_lload 0 rfl dX9_climb_219 ?_
                    refine Go_aload_n 1 rfl rfl dX9_climb_221 ?_
                    refine Go_getR (c' := 108) faX9_13 sh_106 (pt_106_2 (M := (riM A nv np)) (MS_ri hA).1) dX9_climb_222 ?_
                    refine Go_iload 6 rfl dX9_climb_225 ?_
                    refine Go_laloadv v (v := P (v)) rfl sh_108 rfl (by omega) dX9_climb_227 ?_
                    refine Go_lcmp dX9_climb_228 ?_
                    refine Go_if_eq dX9_climb_229 rfl (fun h229 => ?_) (fun h229 => ?_)
                    · skip
                      replace h229 := cmp_eq.mp h229
                      refine Go_iconst (by unfold in32; omega) dX9_climb_236 ?_
                      refine Go_iadd dX9_climb_237 ?_
                      refine Go_istore_n (ls' := [(3, gI _), (7, gJ _), (0, gR 106), (1, gI _), (2, gI _), (4, gI _), (5, gI _), (6, gI _)]) rfl dX9_climb_238 (by decide) rfl ?_
                      refine Go_aload_n 2 rfl rfl dX9_climb_239 ?_
                      refine Go_getR (c' := 108) faX9_13 sh_106 (pt_106_2 (M := (riM A nv np)) (MS_ri hA).1) dX9_climb_240 ?_
                      refine Go_iload 6 rfl dX9_climb_243 ?_
                      refine Go_lload 1 rfl dX9_climb_245 ?_
                      refine Go_lastoreS v sh_108 rfl (by omega) dX9_climb_247 ?_
                      refine Go_iincn v 1 rfl rfl (by omega) 6 (ls' := [(5, gI _), (3, gI _), (7, gJ _), (0, gR 106), (1, gI _), (2, gI _), (4, gI _), (6, gI _)]) rfl dX9_climb_248 (by decide) rfl ?_
                      refine Go_goto dX9_climb_251 rfl ?_
                      refine Go_pick [3, 4, 5, 1, 6, 0] (ls' := [(0, gR 106), (1, gI _), (2, gI _), (3, gI _), (4, gI _), (5, gI _)]) rfl ?_
                      exact ih_72 (v + 1) _ _ (by omega) (by simp only [mvQ, hx]; rw [hg]; first | rw [if_neg (by exact fun q => q h229)] | rw [if_pos (by exact h229)])
                    · skip
                      replace h229 := cmp_ne.mp h229
                      refine Go_iconst (by unfold in32; omega) dX9_climb_232 ?_
                      refine Go_goto dX9_climb_233 rfl ?_
                      refine Go_iadd dX9_climb_237 ?_
                      refine Go_istore_n (ls' := [(3, gI _), (7, gJ _), (0, gR 106), (1, gI _), (2, gI _), (4, gI _), (5, gI _), (6, gI _)]) rfl dX9_climb_238 (by decide) rfl ?_
                      refine Go_aload_n 2 rfl rfl dX9_climb_239 ?_
                      refine Go_getR (c' := 108) faX9_13 sh_106 (pt_106_2 (M := (riM A nv np)) (MS_ri hA).1) dX9_climb_240 ?_
                      refine Go_iload 6 rfl dX9_climb_243 ?_
                      refine Go_lload 1 rfl dX9_climb_245 ?_
                      refine Go_lastoreS v sh_108 rfl (by omega) dX9_climb_247 ?_
                      refine Go_iincn v 1 rfl rfl (by omega) 6 (ls' := [(5, gI _), (3, gI _), (7, gJ _), (0, gR 106), (1, gI _), (2, gI _), (4, gI _), (6, gI _)]) rfl dX9_climb_248 (by decide) rfl ?_
                      refine Go_goto dX9_climb_251 rfl ?_
                      refine Go_pick [3, 4, 5, 1, 6, 0] (ls' := [(0, gR 106), (1, gI _), (2, gI _), (3, gI _), (4, gI _), (5, gI _)]) rfl ?_
                      exact ih_72 (v + 1) _ _ (by omega) (by simp only [mvQ, hx]; rw [hg]; first | rw [if_neg (by exact fun q => q h229)] | rw [if_pos (by exact h229)])
                · skip
                  replace h192 := cmp_lt.mp h192
                  refine Go_lconst (v := 0) ⟨rfl, by unfold in64; omega⟩ dX9_climb_195 ?_
                  refine Go_goto dX9_climb_196 rfl ?_
                  refine Go_topJ (v := cpF9 (A 107 v) (P v) g s) (by unfold cpF9 cpZ9; rw [if_pos (by exact h154)]; rw [if_pos (by exact h192)]) ?_
                  refine Go_lstore (ls' := [(7, gJ _), (0, gR 106), (1, gI _), (2, gI _), (3, gI _), (4, gI _), (5, gI _), (6, gI _)]) dX9_climb_216 (by decide) rfl ?_
                  refine Go_iload_n 4 rfl rfl dX9_climb_218 ?_
                  refine Go_lload 0 rfl dX9_climb_219 ?_
                  refine Go_aload_n 1 rfl rfl dX9_climb_221 ?_
                  refine Go_getR (c' := 108) faX9_13 sh_106 (pt_106_2 (M := (riM A nv np)) (MS_ri hA).1) dX9_climb_222 ?_
                  refine Go_iload 6 rfl dX9_climb_225 ?_
                  refine Go_laloadv v (v := P (v)) rfl sh_108 rfl (by omega) dX9_climb_227 ?_
                  refine Go_lcmp dX9_climb_228 ?_
                  refine Go_if_eq dX9_climb_229 rfl (fun h229 => ?_) (fun h229 => ?_)
                  · skip
                    replace h229 := cmp_eq.mp h229
                    refine Go_iconst (by unfold in32; omega) dX9_climb_236 ?_
                    refine Go_iadd dX9_climb_237 ?_
                    refine Go_istore_n (ls' := [(3, gI _), (7, gJ _), (0, gR 106), (1, gI _), (2, gI _), (4, gI _), (5, gI _), (6, gI _)]) rfl dX9_climb_238 (by decide) rfl ?_
                    refine Go_aload_n 2 rfl rfl dX9_climb_239 ?_
                    refine Go_getR (c' := 108) faX9_13 sh_106 (pt_106_2 (M := (riM A nv np)) (MS_ri hA).1) dX9_climb_240 ?_
                    refine Go_iload 6 rfl dX9_climb_243 ?_
                    refine Go_lload 1 rfl dX9_climb_245 ?_
                    refine Go_lastoreS v sh_108 rfl (by omega) dX9_climb_247 ?_
                    refine Go_iincn v 1 rfl rfl (by omega) 6 (ls' := [(5, gI _), (3, gI _), (7, gJ _), (0, gR 106), (1, gI _), (2, gI _), (4, gI _), (6, gI _)]) rfl dX9_climb_248 (by decide) rfl ?_
                    refine Go_goto dX9_climb_251 rfl ?_
                    refine Go_pick [3, 4, 5, 1, 6, 0] (ls' := [(0, gR 106), (1, gI _), (2, gI _), (3, gI _), (4, gI _), (5, gI _)]) rfl ?_
                    exact ih_72 (v + 1) _ _ (by omega) (by simp only [mvQ, hx]; rw [hg]; first | rw [if_neg (by exact fun q => q h229)] | rw [if_pos (by exact h229)])
                  · skip
                    replace h229 := cmp_ne.mp h229
                    refine Go_iconst (by unfold in32; omega) dX9_climb_232 ?_
                    refine Go_goto dX9_climb_233 rfl ?_
                    refine Go_iadd dX9_climb_237 ?_
                    refine Go_istore_n (ls' := [(3, gI _), (7, gJ _), (0, gR 106), (1, gI _), (2, gI _), (4, gI _), (5, gI _), (6, gI _)]) rfl dX9_climb_238 (by decide) rfl ?_
                    refine Go_aload_n 2 rfl rfl dX9_climb_239 ?_
                    refine Go_getR (c' := 108) faX9_13 sh_106 (pt_106_2 (M := (riM A nv np)) (MS_ri hA).1) dX9_climb_240 ?_
                    refine Go_iload 6 rfl dX9_climb_243 ?_
                    refine Go_lload 1 rfl dX9_climb_245 ?_
                    refine Go_lastoreS v sh_108 rfl (by omega) dX9_climb_247 ?_
                    refine Go_iincn v 1 rfl rfl (by omega) 6 (ls' := [(5, gI _), (3, gI _), (7, gJ _), (0, gR 106), (1, gI _), (2, gI _), (4, gI _), (6, gI _)]) rfl dX9_climb_248 (by decide) rfl ?_
                    refine Go_goto dX9_climb_251 rfl ?_
                    refine Go_pick [3, 4, 5, 1, 6, 0] (ls' := [(0, gR 106), (1, gI _), (2, gI _), (3, gI _), (4, gI _), (5, gI _)]) rfl ?_
                    exact ih_72 (v + 1) _ _ (by omega) (by simp only [mvQ, hx]; rw [hg]; first | rw [if_neg (by exact fun q => q h229)] | rw [if_pos (by exact h229)])
          · skip
            exact absurd h93 (by omega)
        | succ k ih_87 =>
          intro p g hp hg
          refine Go_iload 7 rfl dX9_climb_87 ?_
          refine Go_aload_n 0 rfl rfl dX9_climb_89 ?_
          refine Go_getIv (j := 4) (v := (np : Int)) (MS_ri hA).2.2.2.1 faX9_78 sh_106 dX9_climb_90 ?_
          refine Go_icmp_ge dX9_climb_93 rfl (fun h93 => ?_) (fun h93 => ?_)
          · skip
            exact absurd h93 (by omega)
          · skip
            refine Go_iload 6 rfl dX9_climb_96 ?_
            refine Go_aload_n 0 rfl rfl dX9_climb_98 ?_
            refine Go_getIv (j := 36) (v := ((t : Nat) : Int)) ht faX9_211 sh_106 dX9_climb_99 ?_
            refine Go_iload 7 rfl dX9_climb_102 ?_
            refine Go_ishr dX9_climb_104 ?_
            refine Go_iconst (by unfold in32; omega) dX9_climb_105 ?_
            refine Go_iand dX9_climb_106 ?_
            refine Go_topI (v := bI (t.testBit p = true)) (bit_s (by omega) (by omega)) ?_
            refine Go_iconst (by unfold in32; omega) dX9_climb_107 ?_
            refine Go_icmp_ne dX9_climb_108 rfl (fun h108 => ?_) (fun h108 => ?_)
            · skip
              have hb : ¬ t.testBit p = true := fun q => h108 (bI_t q)
              refine Go_iconst (by unfold in32; omega) dX9_climb_128 ?_
              refine Go_iadd dX9_climb_129 ?_
              refine Go_istore (ls' := [(6, gI _), (0, gR 106), (1, gI _), (2, gI _), (3, gI _), (4, gI _), (5, gI _), (7, gI _)]) dX9_climb_130 (by decide) rfl ?_
              refine Go_iincn p 1 rfl rfl (by omega) 7 (ls' := [(7, gI _), (6, gI _), (0, gR 106), (1, gI _), (2, gI _), (3, gI _), (4, gI _), (5, gI _)]) rfl dX9_climb_132 (by decide) rfl ?_
              refine Go_goto dX9_climb_135 rfl ?_
              refine Go_pick [2, 3, 4, 5, 6, 7, 1, 0] (ls' := [(0, gR 106), (1, gI _), (2, gI _), (3, gI _), (4, gI _), (5, gI _), (6, gI _), (7, gI _)]) rfl ?_
              exact ih_87 (p + 1) _ (by omega) (by simp only [gvN, hg]; first | rw [if_neg (by exact fun q => hb q.1)] | rw [if_neg (by exact fun q => absurd q.2 (Int.not_lt.mpr h121))] | rw [if_pos (by exact ⟨hb, h121⟩)])
            · skip
              have hb : t.testBit p = true := bI_n.mp (by rw [h108]; decide)
              refine Go_aload_n 0 rfl rfl dX9_climb_111 ?_
              refine Go_iload 7 rfl dX9_climb_112 ?_
              refine Go_iload 5 rfl dX9_climb_114 ?_
              obtain ⟨y, hy1, hy2⟩ := hH p (by omega)
              refine Go_callVJ (q := vwCl[9]) (fX9_given (MS_row (i := 108) (r := P) (MS_ri hA) rfl) p v y (by omega) (by omega) hy2 hy1) cwX9_203 imX9_given rfl rfl ⟨Nat.le_of_ble_eq_true rfl, Nat.le_of_ble_eq_true rfl⟩ sh_106 rfl (Nat.le_of_ble_eq_true rfl) sh_rf dX9_climb_116 ?_
              refine Go_topJ (v := gnF (A 107) P (mcM A) p v) rfl ?_
              refine Go_lconst (v := 0) ⟨rfl, by unfold in64; omega⟩ dX9_climb_119 ?_
              refine Go_lcmp dX9_climb_120 ?_
              refine Go_if_le dX9_climb_121 rfl (fun h121 => ?_) (fun h121 => ?_)
              · skip
                replace h121 := cmp_le.mp h121
                refine Go_iconst (by unfold in32; omega) dX9_climb_128 ?_
                refine Go_iadd dX9_climb_129 ?_
                refine Go_istore (ls' := [(6, gI _), (0, gR 106), (1, gI _), (2, gI _), (3, gI _), (4, gI _), (5, gI _), (7, gI _)]) dX9_climb_130 (by decide) rfl ?_
                refine Go_iincn p 1 rfl rfl (by omega) 7 (ls' := [(7, gI _), (6, gI _), (0, gR 106), (1, gI _), (2, gI _), (3, gI _), (4, gI _), (5, gI _)]) rfl dX9_climb_132 (by decide) rfl ?_
                refine Go_goto dX9_climb_135 rfl ?_
                refine Go_pick [2, 3, 4, 5, 6, 7, 1, 0] (ls' := [(0, gR 106), (1, gI _), (2, gI _), (3, gI _), (4, gI _), (5, gI _), (6, gI _), (7, gI _)]) rfl ?_
                exact ih_87 (p + 1) _ (by omega) (by simp only [gvN, hg]; first | rw [if_neg (by exact fun q => hb q.1)] | rw [if_neg (by exact fun q => absurd q.2 (Int.not_lt.mpr h121))] | rw [if_pos (by exact ⟨hb, h121⟩)])
              · skip
                replace h121 := cmp_gt.mp h121
                refine Go_iconst (by unfold in32; omega) dX9_climb_124 ?_
                refine Go_goto dX9_climb_125 rfl ?_
                refine Go_iadd dX9_climb_129 ?_
                refine Go_istore (ls' := [(6, gI _), (0, gR 106), (1, gI _), (2, gI _), (3, gI _), (4, gI _), (5, gI _), (7, gI _)]) dX9_climb_130 (by decide) rfl ?_
                refine Go_iincn p 1 rfl rfl (by omega) 7 (ls' := [(7, gI _), (6, gI _), (0, gR 106), (1, gI _), (2, gI _), (3, gI _), (4, gI _), (5, gI _)]) rfl dX9_climb_132 (by decide) rfl ?_
                refine Go_goto dX9_climb_135 rfl ?_
                refine Go_pick [2, 3, 4, 5, 6, 7, 1, 0] (ls' := [(0, gR 106), (1, gI _), (2, gI _), (3, gI _), (4, gI _), (5, gI _), (6, gI _), (7, gI _)]) rfl ?_
                exact ih_87 (p + 1) _ (by omega) (by simp only [gvN, hg]; first | rw [if_neg (by exact fun q => hb q.1)] | rw [if_neg (by exact fun q => absurd q.2 (Int.not_lt.mpr h121))] | rw [if_pos (by exact ⟨hb, h121⟩)])
      refine Go_iload 5 rfl dX9_climb_72 ?_
      refine Go_aload_n 0 rfl rfl dX9_climb_74 ?_
      refine Go_getIv (j := 0) (v := (nv : Int)) (MS_ri hA).2.1 faX9_75 sh_106 dX9_climb_75 ?_
      refine Go_icmp_ge dX9_climb_78 rfl (fun h78 => ?_) (fun h78 => ?_)
      · skip
        exact absurd h78 (by omega)
      · skip
        refine Go_iconst (by unfold in32; omega) dX9_climb_81 ?_
        refine Go_istore (ls' := [(6, gI _), (0, gR 106), (1, gI _), (2, gI _), (3, gI _), (4, gI _), (5, gI _)]) dX9_climb_82 (by decide) rfl ?_
        refine Go_iconst (by unfold in32; omega) dX9_climb_84 ?_
        refine Go_istore (ls' := [(7, gI _), (6, gI _), (0, gR 106), (1, gI _), (2, gI _), (3, gI _), (4, gI _), (5, gI _)]) dX9_climb_85 (by decide) rfl ?_
        refine Go_pick [2, 3, 4, 5, 6, 7, 1, 0] (ls' := [(0, gR 106), (1, gI _), (2, gI _), (3, gI _), (4, gI _), (5, gI _), (6, gI _), (7, gI _)]) rfl ?_
        exact loop_87 np 0 _ (by omega) rfl
  refine Go_iload 4 rfl dX9_climb_59 ?_
  refine Go_iload_n 1 rfl rfl dX9_climb_61 ?_
  refine Go_icmp_ge dX9_climb_62 rfl (fun h62 => ?_) (fun h62 => ?_)
  · skip
    exfalso; omega
  · skip
    refine Go_aload_n 0 rfl rfl dX9_climb_65 ?_
    refine Go_callV0 (q := vwCl[9]) (fX9_findRichest hA hH) cwX9_217 imX9_findRichest rfl rfl ⟨Nat.le_of_ble_eq_true rfl, Nat.le_of_ble_eq_true rfl⟩ sh_106 rfl (Nat.le_of_ble_eq_true rfl) sh_rf dX9_climb_66 ?_
    refine Go_o 108 ?_
    refine Go_iconst (by unfold in32; omega) dX9_climb_69 ?_
    refine Go_istore (ls' := [(5, gI _), (0, gR 106), (1, gI _), (2, gI _), (3, gI _), (4, gI _)]) dX9_climb_70 (by decide) rfl ?_
    refine Go_pick [1, 2, 3, 4, 5, 0] (ls' := [(0, gR 106), (1, gI _), (2, gI _), (3, gI _), (4, gI _), (5, gI _)]) rfl ?_
    exact loop_72 nv 0 _ _ (by omega) rfl
theorem cl9S_i {A : gMem} {nv np : Nat} {s : Int} (hA : MS A nv np) : ∀ k, MS (cl9S A nv np s k).2 nv np ∧ (∀ i, i ≠ 106 ∧ i ≠ 125 ∧ i ≠ 108 → (cl9S A nv np s k).2 i = A i) ∧ (cl9S A nv np s k).2 106 9 = A 106 9
  | 0 => ⟨hA, fun _ _ => rfl, rfl⟩
  | k + 1 => by
    obtain ⟨h1, h2, h3⟩ := cl9S_i (s := s) hA k
    exact ⟨MS_c9 h1 s, fun i hi => (c9_o hi).trans (h2 i hi), (c9_9 (A := (cl9S A nv np s k).2) (nv := nv) (np := np) (s := s)).trans h3⟩
set_option maxHeartbeats 4000000 in
set_option maxRecDepth 100000 in
theorem clbL {D : va_G} {ca : Nat → ClassId} {A : gMem} {nv np : Nat} (hA : MS A nv np) (hH : ∀ p, p < np → ∃ z : Nat, z < 12 ∧ A 110 p = (z : Int)) (hok : ∃ c, c < 2 ^ np ∧ alP (A 111) np (A 106 9) c = true) (n : Nat) (hn : n ≤ 100) (s : Int) : ∀ (k j : Nat), j + k = n → Go D ca none (gRm mX9_climb (SH.length - SH.length) (gSz SH - gSz SH)) mX9_climb 59 [(0, gR 106), (1, gI (n : Int)), (2, gI s), (3, gI (cl9S A nv np s j).1), (4, gI (j : Int))] [] SH ((cl9S A nv np s j).2) [gI (cl9S A nv np s n).1] SH ((cl9S A nv np s n).2) := by
  intro k
  induction k with
  | zero =>
    intro j hj
    have ej : j = n := by omega
    subst ej
    refine Go_iload 4 rfl dX9_climb_59 ?_
    refine Go_iload_n 1 rfl rfl dX9_climb_61 ?_
    refine Go_icmp_ge dX9_climb_62 rfl (fun h62 => ?_) (fun h62 => ?_)
    · skip
      refine Go_iload_n 3 rfl rfl dX9_climb_289 ?_
      exact Go_ret rfl dX9_climb_290
    · skip
      exfalso; omega
  | succ k ih =>
    intro j hj
    obtain ⟨h1, h2, h3⟩ := cl9S_i (s := s) hA j
    refine clbT h1 (fun p hp => ?_) ?_ n j (by omega) hn s _ _ _ (ih (j + 1) (by omega))
    · rw [h2 110 (by decide)]
      exact hH p hp
    · rw [h2 111 (by decide), h3]
      exact hok
set_option maxHeartbeats 4000000 in
set_option maxRecDepth 100000 in
theorem pX9_climb {D : va_G} {ca : Nat → ClassId} {M : gMem} {nv np : Nat} (hC : MS M nv np) (hH : ∀ p, p < np → ∃ z : Nat, z < 12 ∧ M 110 p = (z : Int)) (n : Nat) (hn : n ≤ 100) (z : Int) (hz : 1 ≤ z ∧ z ≤ 100000) (h : (riT (fyM M nv) nv np).1 ≠ -4) (hok : ∃ c, c < 2 ^ np ∧ alP ((fyM M nv) 111) np ((fyM M nv) 106 9) c = true) : Fn D ca mX9_climb [gR 106, gI (n : Int), gI z] SH M [gI (cl9S (cl9B9 (fyM M nv) nv np) nv np z n).1] SH ((cl9S (cl9B9 (fyM M nv) nv np) nv np z n).2) := by
  refine Fn_of okX9_climb (Nat.le_of_ble_eq_true rfl) (Or.inr (Or.inl ⟨_, rfl, rfl⟩)) (Nat.le_refl _) (Nat.le_refl _) ?_
  refine Go_ls2 (ls' := [(0, gR 106), (1, gI _), (2, gI _)]) rfl ?_
  have hv12 := hC.2.2.1
  have hn10 := hC.2.2.2.2
  have hN := MS_fy hC
  refine Go_iload_n 1 rfl rfl dX9_climb_0 ?_
  refine Go_i2l dX9_climb_1 ?_
  refine Go_lconst (v := 0) ⟨rfl, by unfold in64; omega⟩ dX9_climb_2 ?_
  refine Go_ldc2 klX9_224 (by unfold in64; omega) dX9_climb_3 ?_
  refine Go_callSI (fX9_in _ _ _) cwX9_81 smX9_in ⟨Nat.le_of_ble_eq_true rfl, Nat.le_of_ble_eq_true rfl⟩ rfl (Nat.le_of_ble_eq_true rfl) sh_rf dX9_climb_6 ?_
  refine Go_if_eq dX9_climb_9 rfl (fun h9 => ?_) (fun h9 => ?_)
  · skip
    replace h9 := bI_0.mp h9
    exfalso; omega
  · skip
    replace h9 := bI_n.mp h9
    refine Go_iload_n 2 rfl rfl dX9_climb_12 ?_
    refine Go_i2l dX9_climb_13 ?_
    refine Go_lconst (v := 1) ⟨rfl, by unfold in64; omega⟩ dX9_climb_14 ?_
    refine Go_ldc2 klX9_99 (by unfold in64; omega) dX9_climb_15 ?_
    refine Go_callSI (fX9_in _ _ _) cwX9_81 smX9_in ⟨Nat.le_of_ble_eq_true rfl, Nat.le_of_ble_eq_true rfl⟩ rfl (Nat.le_of_ble_eq_true rfl) sh_rf dX9_climb_18 ?_
    refine Go_if_ne dX9_climb_21 rfl (fun h21 => ?_) (fun h21 => ?_)
    · skip
      replace h21 := bI_n.mp h21
      refine Go_aload_n 0 rfl rfl dX9_climb_26 ?_
      refine Go_callV0 (q := vwCl[9]) (fX9_findWays hC) cwX9_112 imX9_findWays rfl rfl ⟨Nat.le_of_ble_eq_true rfl, Nat.le_of_ble_eq_true rfl⟩ sh_106 rfl (Nat.le_of_ble_eq_true rfl) sh_rf dX9_climb_27 ?_
      refine Go_M (M2 := fyM M nv) rfl ?_
      generalize hNe : fyM M nv = N at hN h hok ⊢
      have hHN : ∀ p, p < np → ∃ z : Nat, z < 12 ∧ N 110 p = (z : Int) := fun p hp => by rw [← hNe]; exact hH p hp
      refine Go_aload_n 0 rfl rfl dX9_climb_30 ?_
      refine Go_callV0 (q := vwCl[9]) (fX9_findRichest hN hHN) cwX9_217 imX9_findRichest rfl rfl ⟨Nat.le_of_ble_eq_true rfl, Nat.le_of_ble_eq_true rfl⟩ sh_106 rfl (Nat.le_of_ble_eq_true rfl) sh_rf dX9_climb_31 ?_
      refine Go_aload_n 0 rfl rfl dX9_climb_34 ?_
      refine Go_getIv (j := 36) (v := (riT N nv np).1) rfl faX9_211 sh_106 dX9_climb_35 ?_
      refine Go_bipush ⟨by decide, by unfold in32; omega⟩ dX9_climb_38 ?_
      refine Go_icmp_ne dX9_climb_40 rfl (fun h40 => ?_) (fun h40 => ?_)
      · skip
        refine Go_aload_n 0 rfl rfl dX9_climb_46 ?_
        refine Go_aload_n 0 rfl rfl dX9_climb_47 ?_
        refine Go_callVJ (q := vwCl[9]) (fX9_boundNow (MS_ri hN) hHN) cwX9_220 imX9_boundNow rfl rfl ⟨Nat.le_of_ble_eq_true rfl, Nat.le_of_ble_eq_true rfl⟩ sh_106 rfl (Nat.le_of_ble_eq_true rfl) sh_rf dX9_climb_48 ?_
        refine Go_putJ fpX9_226 sh_106 dX9_climb_51 ?_
        refine Go_M (M2 := cl9B9 N nv np) rfl ?_
        refine Go_iconst (by unfold in32; omega) dX9_climb_54 ?_
        refine Go_istore_n (ls' := [(3, gI _), (0, gR 106), (1, gI _), (2, gI _)]) rfl dX9_climb_55 (by decide) rfl ?_
        refine Go_iconst (by unfold in32; omega) dX9_climb_56 ?_
        refine Go_istore (ls' := [(4, gI _), (3, gI _), (0, gR 106), (1, gI _), (2, gI _)]) dX9_climb_57 (by decide) rfl ?_
        refine Go_pick [2, 3, 4, 1, 0] (ls' := [(0, gR 106), (1, gI _), (2, gI _), (3, gI _), (4, gI _)]) rfl ?_
        exact clbL (A := cl9B9 N nv np) (MS_ob (MS_ri (MS_ri hN)) (agM_up (agM_rf _) (by decide))) hHN hok n hn z n 0 (by omega)
      · skip
        exact absurd h40 h
    · skip
      replace h21 := bI_0.mp h21
      exact absurd hz h21
