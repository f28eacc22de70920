theorem or_lt {c p : Nat} (hc : c < 1024) (hp : p < 10) : c ||| 2 ^ p < 1024 := Nat.or_lt_two_pow (n := 10) hc (Nat.pow_lt_pow_right (by decide) hp)
theorem xor_lt {c p : Nat} (hc : c < 1024) (hp : p < 10) : c ^^^ 2 ^ p < 1024 := Nat.xor_lt_two_pow (n := 10) hc (Nat.pow_lt_pow_right (by decide) hp)
theorem p_lt {p : Nat} (hp : p < 10) : 2 ^ p < 1024 := Nat.pow_lt_pow_right (n := 10) (by decide) hp
theorem r_bit {c p : Nat} (hc : c < 1024) (hp : p < 10) : r32 (c : Int) (l32 1 (p : Int)) = ((c ||| 2 ^ p : Nat) : Int) := by
  have h2 := p_lt hp
  rw [sh1 (by omega), r32n (by omega) (by omega)]
theorem x_bit {c p : Nat} (hc : c < 1024) (hp : p < 10) : x32 (c : Int) (l32 1 (p : Int)) = ((c ^^^ 2 ^ p : Nat) : Int) := by
  have h2 := p_lt hp
  rw [sh1 (by omega), x32n (by omega) (by omega)]
def coF (ok : Nat → Bool) (ms : Nat → Int) (f : Nat → Int) (c : Nat) : Nat → Int := if ok c = true ∧ ms c < f 3 then gUp (gUp f 2 (c : Int)) 3 (ms c) else f
def omS (ok : Nat → Bool) (ms : Nat → Int) (c : Nat) (f : Nat → Int) : Nat → (Nat → Int)
  | 0 => gUp (gUp f 2 (c : Int)) 3 (ms c)
  | p + 1 => if c.testBit p = true then omS ok ms c f p else coF ok ms (omS ok ms c f p) (c ||| 2 ^ p)
def oaI (ok : Nat → Bool) (ms : Nat → Int) (c p : Nat) (f : Nat → Int) : Nat → (Nat → Int)
  | 0 => f
  | q + 1 => if c.testBit p = true ∧ ¬ c.testBit q = true then coF ok ms (oaI ok ms c p f q) (c ^^^ 2 ^ p ^^^ 2 ^ q) else oaI ok ms c p f q
def oaO (ok : Nat → Bool) (ms : Nat → Int) (c np : Nat) (f : Nat → Int) : Nat → (Nat → Int)
  | 0 => gUp (gUp f 2 (c : Int)) 3 (ms c)
  | p + 1 => oaI ok ms c p (oaO ok ms c np f p) np
theorem coF_nat {ok : Nat → Bool} {ms : Nat → Int} {f : Nat → Int} {c : Nat} (hc : c < 1024) (hf : ∃ n : Nat, n < 1024 ∧ f 2 = (n : Int)) : ∃ n : Nat, n < 1024 ∧ coF ok ms f c 2 = (n : Int) := by
  unfold coF
  split
  · exact ⟨c, hc, rfl⟩
  · exact hf
theorem coF_0 (ok : Nat → Bool) (ms : Nat → Int) (f : Nat → Int) (c : Nat) : coF ok ms f c 0 = f 0 := by unfold coF; split <;> rfl
theorem omS_nat {ok : Nat → Bool} {ms : Nat → Int} {c : Nat} {f : Nat → Int} (hc : c < 1024) : ∀ p : Nat, p ≤ 10 → ∃ n : Nat, n < 1024 ∧ omS ok ms c f p 2 = (n : Int)
  | 0, _ => ⟨c, hc, rfl⟩
  | p + 1, hp => by
    simp only [omS]
    split
    · exact omS_nat hc p (by omega)
    · exact coF_nat (or_lt hc (by omega)) (omS_nat hc p (by omega))
theorem omS_0 {ok : Nat → Bool} {ms : Nat → Int} {c : Nat} {f : Nat → Int} : ∀ p : Nat, omS ok ms c f p 0 = f 0
  | 0 => rfl
  | p + 1 => by
    simp only [omS]
    split
    · exact omS_0 p
    · rw [coF_0]; exact omS_0 p
theorem oaI_nat {ok : Nat → Bool} {ms : Nat → Int} {c p : Nat} {f : Nat → Int} (hc : c < 1024) (hp : p < 10) (hf : ∃ n : Nat, n < 1024 ∧ f 2 = (n : Int)) : ∀ q : Nat, q ≤ 10 → ∃ n : Nat, n < 1024 ∧ oaI ok ms c p f q 2 = (n : Int)
  | 0, _ => hf
  | q + 1, hq => by
    simp only [oaI]
    split
    · exact coF_nat (xor_lt (xor_lt hc hp) (by omega)) (oaI_nat hc hp hf q (by omega))
    · exact oaI_nat hc hp hf q (by omega)
theorem oaI_0 {ok : Nat → Bool} {ms : Nat → Int} {c p : Nat} {f : Nat → Int} : ∀ q : Nat, oaI ok ms c p f q 0 = f 0
  | 0 => rfl
  | q + 1 => by
    simp only [oaI]
    split
    · rw [coF_0]; exact oaI_0 q
    · exact oaI_0 q
theorem oaO_nat {ok : Nat → Bool} {ms : Nat → Int} {c np : Nat} {f : Nat → Int} (hc : c < 1024) (hn : np ≤ 10) : ∀ p : Nat, p ≤ 10 → ∃ n : Nat, n < 1024 ∧ oaO ok ms c np f p 2 = (n : Int)
  | 0, _ => ⟨c, hc, rfl⟩
  | p + 1, hp => by
    simp only [oaO]
    exact oaI_nat hc (by omega) (oaO_nat hc hn p (by omega)) np hn
theorem oaO_0 {ok : Nat → Bool} {ms : Nat → Int} {c np : Nat} {f : Nat → Int} : ∀ p : Nat, oaO ok ms c np f p 0 = f 0
  | 0 => rfl
  | p + 1 => by
    simp only [oaO]
    rw [oaI_0]
    exact oaO_0 p
def puL (F : Nat → (Nat → Int) → (Nat → Int)) : Nat → Nat → (Nat → Int) → Nat × (Nat → Int)
  | 0, c, f => (c, f)
  | k + 1, c, f => if F c f 2 = (c : Int) then (c, F c f) else puL F k (F c f 2).toNat (gUp (F c f) 1 (w32 (F c f 1 + 1)))
theorem gPt_94 : ∀ q ∈ gPt, q.1 = 94 → q.2.1 = 0 := by decide +kernel
theorem CS_bd {M : gMem} {nv np : Nat} {f : Nat → Int} (hC : CS M nv np) (hf : f 0 = M 94 0) : CS (gSet M 94 f) nv np := CS_obj hC (by decide) (fun q hq e0 => by rw [gPt_94 q hq e0]; exact hf)
set_option maxHeartbeats 4000000 in
set_option maxRecDepth 100000 in
theorem fX0_startFrom {D : va_G} {ca : Nat → ClassId} {M : gMem} {nv np : Nat} (hC : CS M nv np) (f : Nat → Int) (hf : f 0 = M 94 0) (c : Nat) (hc : c < 1024) : Fn D ca mX0_startFrom [gR 94, gI (c : Int)] SH (gSet M 94 f) [] SH (gSet M 94 (gUp (gUp f 2 (c : Int)) 3 (meS (M 2) (M 5) (M 6) (M 91) nv np c))) := by
  refine Fn_of okX0_startFrom (Nat.le_of_ble_eq_true rfl) (Or.inl ⟨rfl, rfl⟩) (Nat.le_refl _) (Nat.le_refl _) ?_
  refine Go_ls2 (ls' := [(0, gR 94), (1, gI _)]) rfl ?_
  refine Go_aload_n 0 rfl rfl dX0_startFrom_0 ?_
  refine Go_iload_n 1 rfl rfl dX0_startFrom_1 ?_
  refine Go_putIS fpX0_15 sh_94 dX0_startFrom_2 ?_
  refine Go_aload_n 0 rfl rfl dX0_startFrom_5 ?_
  refine Go_aload_n 0 rfl rfl dX0_startFrom_6 ?_
  refine Go_getR (c' := 90) faX0_22 sh_94 (hf.trans (pt_94_0 (M := M) hC.1)) dX0_startFrom_7 ?_
  refine Go_iload_n 1 rfl rfl dX0_startFrom_10 ?_
  refine Go_callVJ (q := vwCl[3]) (fX3_measureOf (CS_bd (f := gUp f 2 (c : Int)) hC hf) c (by omega)) cwX0_58 imX3_measureOf rfl rfl ⟨Nat.le_of_ble_eq_true rfl, Nat.le_of_ble_eq_true rfl⟩ sh_90 rfl (Nat.le_of_ble_eq_true rfl) sh_rf dX0_startFrom_11 ?_
  refine Go_topJ (v := (meS (M 2) (M 5) (M 6) (M 91) nv np c)) rfl ?_
  refine Go_putJS fpX0_18 sh_94 dX0_startFrom_14 ?_
  exact Go_ret rfl dX0_startFrom_17
set_option maxHeartbeats 4000000 in
set_option maxRecDepth 100000 in
theorem fX0_consider {D : va_G} {ca : Nat → ClassId} {M : gMem} {nv np : Nat} (hC : CS M nv np) (f : Nat → Int) (hf : f 0 = M 94 0) (c : Nat) (hc : c < 1024) : Fn D ca mX0_consider [gR 94, gI (c : Int)] SH (gSet M 94 f) [] SH (gSet M 94 (coF (fun c => msB (M 90 2) (M 90 3) (M 1 2) (c : Int)) (fun c => meS (M 2) (M 5) (M 6) (M 91) nv np c) f c)) := by
  refine Fn_of okX0_consider (Nat.le_of_ble_eq_true rfl) (Or.inl ⟨rfl, rfl⟩) (Nat.le_refl _) (Nat.le_refl _) ?_
  refine Go_ls2 (ls' := [(0, gR 94), (1, gI _)]) rfl ?_
  refine Go_aload_n 0 rfl rfl dX0_consider_0 ?_
  refine Go_getR (c' := 90) faX0_22 sh_94 (hf.trans (pt_94_0 (M := M) hC.1)) dX0_consider_1 ?_
  refine Go_iload_n 1 rfl rfl dX0_consider_4 ?_
  refine Go_callVI (q := vwCl[3]) (fX3_mayStand (CS_bd hC hf) (s := M 90 2) rfl (b := M 90 3) rfl (n := M 1 2) rfl _) cwX0_62 imX3_mayStand rfl rfl ⟨Nat.le_of_ble_eq_true rfl, Nat.le_of_ble_eq_true rfl⟩ sh_90 rfl (Nat.le_of_ble_eq_true rfl) sh_rf dX0_consider_5 ?_
  refine Go_if_eq dX0_consider_8 rfl (fun h8 => ?_) (fun h8 => ?_)
  · skip
    replace h8 := bI_0.mp h8
    refine Go_aload_n 0 rfl rfl dX0_consider_22 ?_
    refine Go_getJv (v := f 3) rfl faX0_18 sh_94 dX0_consider_23 ?_
    refine Go_lstore_n (ls' := [(2, gJ _), (0, gR 94), (1, gI _)]) rfl dX0_consider_26 (by decide) rfl ?_
    refine Go_lload_n 0 rfl rfl dX0_consider_27 ?_
    refine Go_aload_n 1 rfl rfl dX0_consider_28 ?_
    refine Go_getJv (v := f 3) rfl faX0_18 sh_94 dX0_consider_29 ?_
    refine Go_lcmp dX0_consider_32 ?_
    refine Go_if_ge dX0_consider_33 rfl (fun h33 => ?_) (fun h33 => ?_)
    · skip
      replace h33 := cmp_ge.mp h33
      rw [show coF (fun c => msB (M 90 2) (M 90 3) (M 1 2) (c : Int)) (fun c => meS (M 2) (M 5) (M 6) (M 91) nv np c) f c = _ from if_neg (by exact fun q => h8 q.1)]
      exact Go_ret rfl dX0_consider_46
    · skip
      replace h33 := cmp_lt.mp h33
      exact absurd h33 (by omega)
  · skip
    replace h8 := bI_n.mp h8
    refine Go_aload_n 0 rfl rfl dX0_consider_11 ?_
    refine Go_getR (c' := 90) faX0_22 sh_94 (hf.trans (pt_94_0 (M := M) hC.1)) dX0_consider_12 ?_
    refine Go_iload_n 1 rfl rfl dX0_consider_15 ?_
    refine Go_callVJ (q := vwCl[3]) (fX3_measureOf (CS_bd hC hf) c (by omega)) cwX0_58 imX3_measureOf rfl rfl ⟨Nat.le_of_ble_eq_true rfl, Nat.le_of_ble_eq_true rfl⟩ sh_90 rfl (Nat.le_of_ble_eq_true rfl) sh_rf dX0_consider_16 ?_
    refine Go_topJ (v := (meS (M 2) (M 5) (M 6) (M 91) nv np c)) rfl ?_
    refine Go_goto dX0_consider_19 rfl ?_
    refine Go_lstore_n (ls' := [(2, gJ _), (0, gR 94), (1, gI _)]) rfl dX0_consider_26 (by decide) rfl ?_
    refine Go_lload_n 0 rfl rfl dX0_consider_27 ?_
    refine Go_aload_n 1 rfl rfl dX0_consider_28 ?_
    refine Go_getJv (v := f 3) rfl faX0_18 sh_94 dX0_consider_29 ?_
    refine Go_lcmp dX0_consider_32 ?_
    refine Go_if_ge dX0_consider_33 rfl (fun h33 => ?_) (fun h33 => ?_)
    · skip
      replace h33 := cmp_ge.mp h33
      rw [show coF (fun c => msB (M 90 2) (M 90 3) (M 1 2) (c : Int)) (fun c => meS (M 2) (M 5) (M 6) (M 91) nv np c) f c = _ from if_neg (by exact fun q => absurd q.2 (Int.not_lt.mpr h33))]
      exact Go_ret rfl dX0_consider_46
    · skip
      replace h33 := cmp_lt.mp h33
      refine Go_aload_n 1 rfl rfl dX0_consider_36 ?_
      refine Go_iload_n 2 rfl rfl dX0_consider_37 ?_
      refine Go_putIS fpX0_15 sh_94 dX0_consider_38 ?_
      refine Go_aload_n 1 rfl rfl dX0_consider_41 ?_
      refine Go_lload_n 0 rfl rfl dX0_consider_42 ?_
      refine Go_putJS fpX0_18 sh_94 dX0_consider_43 ?_
      rw [show coF (fun c => msB (M 90 2) (M 90 3) (M 1 2) (c : Int)) (fun c => meS (M 2) (M 5) (M 6) (M 91) nv np c) f c = _ from if_pos (by exact ⟨h8, h33⟩)]
      exact Go_ret rfl dX0_consider_46
set_option maxHeartbeats 4000000 in
set_option maxRecDepth 100000 in
theorem fX0_withOneMore {D : va_G} {ca : Nat → ClassId} {M : gMem} {nv np : Nat} (hC : CS M nv np) (f : Nat → Int) (hf : f 0 = M 94 0) (c : Nat) (hc : c < 1024) : Fn D ca mX0_withOneMore [gR 94, gI (c : Int)] SH (gSet M 94 f) [gI (omS (fun c => msB (M 90 2) (M 90 3) (M 1 2) (c : Int)) (fun c => meS (M 2) (M 5) (M 6) (M 91) nv np c) c f np 2)] SH (gSet M 94 (omS (fun c => msB (M 90 2) (M 90 3) (M 1 2) (c : Int)) (fun c => meS (M 2) (M 5) (M 6) (M 91) nv np c) c f np)) := by
  refine Fn_of okX0_withOneMore (Nat.le_of_ble_eq_true rfl) (Or.inr (Or.inl ⟨_, rfl, rfl⟩)) (Nat.le_refl _) (Nat.le_refl _) ?_
  refine Go_ls2 (ls' := [(0, gR 94), (1, gI _)]) rfl ?_
  have hv12 := hC.2.2.1
  have hn10 := hC.2.2.2.2
  have loop_7 : ∀ (k : Nat) (p : Nat) (g : Nat → Int), p + k = np → omS (fun c => msB (M 90 2) (M 90 3) (M 1 2) (c : Int)) (fun c => meS (M 2) (M 5) (M 6) (M 91) nv np c) c f p = g → g 0 = M 94 0 → Go D ca none (gRm mX0_withOneMore (SH.length - SH.length) (gSz SH - gSz SH)) mX0_withOneMore 7 [(0, gR 94), (1, gI (c : Int)), (2, gI (p : Int))] [] SH (gSet M 94 g) [gI (omS (fun c => msB (M 90 2) (M 90 3) (M 1 2) (c : Int)) (fun c => meS (M 2) (M 5) (M 6) (M 91) nv np c) c f np 2)] SH (gSet M 94 (omS (fun c => msB (M 90 2) (M 90 3) (M 1 2) (c : Int)) (fun c => meS (M 2) (M 5) (M 6) (M 91) nv np c) c f np)) := by
    intro k
    induction k with
    | zero =>
      intro p g he hx hg
      obtain rfl : np = p := by omega
      refine Go_iload_n 2 rfl rfl dX0_withOneMore_7 ?_
      refine Go_aload_n 0 rfl rfl dX0_withOneMore_8 ?_
      refine Go_getR (c' := 90) faX0_22 sh_94 (hg.trans (pt_94_0 (M := M) hC.1)) dX0_withOneMore_9 ?_
      refine Go_getR (c' := 1) faX0_42 sh_90 (pt_90_0 (M := M) hC.1) dX0_withOneMore_12 ?_
      refine Go_getIv (v := (np : Int)) hC.2.2.2.1 faX0_46 sh_1 dX0_withOneMore_15 ?_
      refine Go_icmp_ge dX0_withOneMore_18 rfl (fun h18 => ?_) (fun h18 => ?_)
      · skip
        refine Go_aload_n 0 rfl rfl dX0_withOneMore_44 ?_
        refine Go_getI faX0_15 sh_94 dX0_withOneMore_45 ?_
        subst hx
        exact Go_ret rfl dX0_withOneMore_48
      · skip
        exact absurd h18 (by omega)
    | succ k ih_7 =>
      intro p g he hx hg
      refine Go_iload_n 2 rfl rfl dX0_withOneMore_7 ?_
      refine Go_aload_n 0 rfl rfl dX0_withOneMore_8 ?_
      refine Go_getR (c' := 90) faX0_22 sh_94 (hg.trans (pt_94_0 (M := M) hC.1)) dX0_withOneMore_9 ?_
      refine Go_getR (c' := 1) faX0_42 sh_90 (pt_90_0 (M := M) hC.1) dX0_withOneMore_12 ?_
      refine Go_getIv (v := (np : Int)) hC.2.2.2.1 faX0_46 sh_1 dX0_withOneMore_15 ?_
      refine Go_icmp_ge dX0_withOneMore_18 rfl (fun h18 => ?_) (fun h18 => ?_)
      · skip
        exact absurd h18 (by omega)
      · skip
        refine Go_iload_n 1 rfl rfl dX0_withOneMore_21 ?_
        refine Go_iload_n 2 rfl rfl dX0_withOneMore_22 ?_
        refine Go_callSNI (fX8_isIn c p (by omega) (by omega)) cnX0_51 smX8_isIn ⟨Nat.le_of_ble_eq_true rfl, Nat.le_of_ble_eq_true rfl⟩ rfl (Nat.le_of_ble_eq_true rfl) sh_rf dX0_withOneMore_23 ?_
        refine Go_if_ne dX0_withOneMore_26 rfl (fun h26 => ?_) (fun h26 => ?_)
        · skip
          replace h26 := bI_n.mp h26
          refine Go_iincn p 1 rfl rfl (by omega) 2 (ls' := [(2, gI _), (0, gR 94), (1, gI _)]) rfl dX0_withOneMore_38 (by decide) rfl ?_
          refine Go_goto dX0_withOneMore_41 rfl ?_
          refine Go_pick [1, 2, 0] (ls' := [(0, gR 94), (1, gI _), (2, gI _)]) rfl ?_
          exact ih_7 (p + 1) _ (by omega) (by simp only [omS, hx]; rw [if_pos (by exact h26)]) hg
        · skip
          replace h26 := bI_0.mp h26
          refine Go_aload_n 0 rfl rfl dX0_withOneMore_29 ?_
          refine Go_iload_n 1 rfl rfl dX0_withOneMore_30 ?_
          refine Go_iconst (by unfold in32; omega) dX0_withOneMore_31 ?_
          refine Go_iload_n 2 rfl rfl dX0_withOneMore_32 ?_
          refine Go_ishl dX0_withOneMore_33 ?_
          refine Go_ior dX0_withOneMore_34 ?_
          refine Go_topI (v := ((c ||| 2 ^ p : Nat) : Int)) (r_bit hc (by omega)) ?_
          refine Go_callV0 (q := vwCl[0]) (fX0_consider hC g hg (c ||| 2 ^ p) (or_lt hc (by omega))) cwX0_55 imX0_consider rfl rfl ⟨Nat.le_of_ble_eq_true rfl, Nat.le_of_ble_eq_true rfl⟩ sh_94 rfl (Nat.le_of_ble_eq_true rfl) sh_rf dX0_withOneMore_35 ?_
          refine Go_iincn p 1 rfl rfl (by omega) 2 (ls' := [(2, gI _), (0, gR 94), (1, gI _)]) rfl dX0_withOneMore_38 (by decide) rfl ?_
          refine Go_goto dX0_withOneMore_41 rfl ?_
          refine Go_pick [1, 2, 0] (ls' := [(0, gR 94), (1, gI _), (2, gI _)]) rfl ?_
          exact ih_7 (p + 1) _ (by omega) (by simp only [omS, hx]; rw [if_neg (by exact h26)]) ((coF_0 _ _ _ _).trans hg)
  refine Go_aload_n 0 rfl rfl dX0_withOneMore_0 ?_
  refine Go_iload_n 1 rfl rfl dX0_withOneMore_1 ?_
  refine Go_callV0 (q := vwCl[0]) (fX0_startFrom hC f hf c hc) cwX0_38 imX0_startFrom rfl rfl ⟨Nat.le_of_ble_eq_true rfl, Nat.le_of_ble_eq_true rfl⟩ sh_94 rfl (Nat.le_of_ble_eq_true rfl) sh_rf dX0_withOneMore_2 ?_
  refine Go_iconst (by unfold in32; omega) dX0_withOneMore_5 ?_
  refine Go_istore_n (ls' := [(2, gI _), (0, gR 94), (1, gI _)]) rfl dX0_withOneMore_6 (by decide) rfl ?_
  refine Go_pick [1, 2, 0] (ls' := [(0, gR 94), (1, gI _), (2, gI _)]) rfl ?_
  exact loop_7 np 0 _ (by omega) rfl hf
set_option maxHeartbeats 4000000 in
set_option maxRecDepth 100000 in
theorem fX0_withOneForAnother {D : va_G} {ca : Nat → ClassId} {M : gMem} {nv np : Nat} (hC : CS M nv np) (f : Nat → Int) (hf : f 0 = M 94 0) (c : Nat) (hc : c < 1024) : Fn D ca mX0_withOneForAnother [gR 94, gI (c : Int)] SH (gSet M 94 f) [gI (oaO (fun c => msB (M 90 2) (M 90 3) (M 1 2) (c : Int)) (fun c => meS (M 2) (M 5) (M 6) (M 91) nv np c) c np f np 2)] SH (gSet M 94 (oaO (fun c => msB (M 90 2) (M 90 3) (M 1 2) (c : Int)) (fun c => meS (M 2) (M 5) (M 6) (M 91) nv np c) c np f np)) := by
  refine Fn_of okX0_withOneForAnother (Nat.le_of_ble_eq_true rfl) (Or.inr (Or.inl ⟨_, rfl, rfl⟩)) (Nat.le_refl _) (Nat.le_refl _) ?_
  refine Go_ls2 (ls' := [(0, gR 94), (1, gI _)]) rfl ?_
  have hv12 := hC.2.2.1
  have hn10 := hC.2.2.2.2
  have loop_7 : ∀ (k : Nat) (p : Nat) (g : Nat → Int), p + k = np → oaO (fun c => msB (M 90 2) (M 90 3) (M 1 2) (c : Int)) (fun c => meS (M 2) (M 5) (M 6) (M 91) nv np c) c np f p = g → g 0 = M 94 0 → Go D ca none (gRm mX0_withOneForAnother (SH.length - SH.length) (gSz SH - gSz SH)) mX0_withOneForAnother 7 [(0, gR 94), (1, gI (c : Int)), (2, gI (p : Int))] [] SH (gSet M 94 g) [gI (oaO (fun c => msB (M 90 2) (M 90 3) (M 1 2) (c : Int)) (fun c => meS (M 2) (M 5) (M 6) (M 91) nv np c) c np f np 2)] SH (gSet M 94 (oaO (fun c => msB (M 90 2) (M 90 3) (M 1 2) (c : Int)) (fun c => meS (M 2) (M 5) (M 6) (M 91) nv np c) c np f np)) := by
    intro k
    induction k with
    | zero =>
      intro p g he hx hg
      obtain rfl : np = p := by omega
      refine Go_iload_n 2 rfl rfl dX0_withOneForAnother_7 ?_
      refine Go_aload_n 0 rfl rfl dX0_withOneForAnother_8 ?_
      refine Go_getR (c' := 90) faX0_22 sh_94 (by first | exact he0.trans (pt_94_0 (M := M) hC.1) | exact hg.trans (pt_94_0 (M := M) hC.1)) dX0_withOneForAnother_9 ?_
      refine Go_getR (c' := 1) faX0_42 sh_90 (pt_90_0 (M := M) hC.1) dX0_withOneForAnother_12 ?_
      refine Go_getIv (v := (np : Int)) hC.2.2.2.1 faX0_46 sh_1 dX0_withOneForAnother_15 ?_
      refine Go_icmp_ge dX0_withOneForAnother_18 rfl (fun h18 => ?_) (fun h18 => ?_)
      · skip
        refine Go_aload_n 0 rfl rfl dX0_withOneForAnother_78 ?_
        refine Go_getI faX0_15 sh_94 dX0_withOneForAnother_79 ?_
        subst hx
        exact Go_ret rfl dX0_withOneForAnother_82
      · skip
        exact absurd h18 (by omega)
    | succ k ih_7 =>
      intro p g he hx hg
      have loop_23 : ∀ (k : Nat) (q : Nat) (e : Nat → Int), q + k = np → oaI (fun c => msB (M 90 2) (M 90 3) (M 1 2) (c : Int)) (fun c => meS (M 2) (M 5) (M 6) (M 91) nv np c) c p g q = e → e 0 = M 94 0 → Go D ca none (gRm mX0_withOneForAnother (SH.length - SH.length) (gSz SH - gSz SH)) mX0_withOneForAnother 23 [(0, gR 94), (1, gI (c : Int)), (2, gI (p : Int)), (3, gI (q : Int))] [] SH (gSet M 94 e) [gI (oaO (fun c => msB (M 90 2) (M 90 3) (M 1 2) (c : Int)) (fun c => meS (M 2) (M 5) (M 6) (M 91) nv np c) c np f np 2)] SH (gSet M 94 (oaO (fun c => msB (M 90 2) (M 90 3) (M 1 2) (c : Int)) (fun c => meS (M 2) (M 5) (M 6) (M 91) nv np c) c np f np)) := by
        intro k
        induction k with
        | zero =>
          intro q e hq hy he0
          obtain rfl : np = q := by omega
          refine Go_iload_n 3 rfl rfl dX0_withOneForAnother_23 ?_
          refine Go_aload_n 0 rfl rfl dX0_withOneForAnother_24 ?_
          refine Go_getR (c' := 90) faX0_22 sh_94 (by first | exact he0.trans (pt_94_0 (M := M) hC.1) | exact hg.trans (pt_94_0 (M := M) hC.1)) dX0_withOneForAnother_25 ?_
          refine Go_getR (c' := 1) faX0_42 sh_90 (pt_90_0 (M := M) hC.1) dX0_withOneForAnother_28 ?_
          refine Go_getIv (v := (np : Int)) hC.2.2.2.1 faX0_46 sh_1 dX0_withOneForAnother_31 ?_
          refine Go_icmp_ge dX0_withOneForAnother_34 rfl (fun h34 => ?_) (fun h34 => ?_)
          · skip
            refine Go_iincn p 1 rfl rfl (by omega) 2 (ls' := [(2, gI _), (0, gR 94), (1, gI _), (3, gI _)]) rfl dX0_withOneForAnother_72 (by decide) rfl ?_
            refine Go_goto dX0_withOneForAnother_75 rfl ?_
            refine Go_pick [1, 2, 0] (ls' := [(0, gR 94), (1, gI _), (2, gI _)]) rfl ?_
            exact ih_7 (p + 1) _ (by omega) (by simp only [oaO, hx, hy]) he0
          · skip
            exact absurd h34 (by omega)
        | succ k ih_23 =>
          intro q e hq hy he0
          refine Go_iload_n 3 rfl rfl dX0_withOneForAnother_23 ?_
          refine Go_aload_n 0 rfl rfl dX0_withOneForAnother_24 ?_
          refine Go_getR (c' := 90) faX0_22 sh_94 (by first | exact he0.trans (pt_94_0 (M := M) hC.1) | exact hg.trans (pt_94_0 (M := M) hC.1)) dX0_withOneForAnother_25 ?_
          refine Go_getR (c' := 1) faX0_42 sh_90 (pt_90_0 (M := M) hC.1) dX0_withOneForAnother_28 ?_
          refine Go_getIv (v := (np : Int)) hC.2.2.2.1 faX0_46 sh_1 dX0_withOneForAnother_31 ?_
          refine Go_icmp_ge dX0_withOneForAnother_34 rfl (fun h34 => ?_) (fun h34 => ?_)
          · skip
            exact absurd h34 (by omega)
          · skip
            refine Go_iload_n 1 rfl rfl dX0_withOneForAnother_37 ?_
            refine Go_iload_n 2 rfl rfl dX0_withOneForAnother_38 ?_
            refine Go_callSNI (fX8_isIn c p (by omega) (by omega)) cnX0_51 smX8_isIn ⟨Nat.le_of_ble_eq_true rfl, Nat.le_of_ble_eq_true rfl⟩ rfl (Nat.le_of_ble_eq_true rfl) sh_rf dX0_withOneForAnother_39 ?_
            refine Go_if_eq dX0_withOneForAnother_42 rfl (fun h42 => ?_) (fun h42 => ?_)
            · skip
              replace h42 := bI_0.mp h42
              refine Go_iincn q 1 rfl rfl (by omega) 3 (ls' := [(3, gI _), (0, gR 94), (1, gI _), (2, gI _)]) rfl dX0_withOneForAnother_66 (by decide) rfl ?_
              refine Go_goto dX0_withOneForAnother_69 rfl ?_
              refine Go_pick [1, 2, 3, 0] (ls' := [(0, gR 94), (1, gI _), (2, gI _), (3, gI _)]) rfl ?_
              exact ih_23 (q + 1) _ (by omega) (by simp only [oaI, hy]; first | rw [if_neg (by exact fun z => h42 z.1)] | rw [if_neg (by exact fun z => z.2 h50)]) he0
            · skip
              replace h42 := bI_n.mp h42
              refine Go_iload_n 1 rfl rfl dX0_withOneForAnother_45 ?_
              refine Go_iload_n 3 rfl rfl dX0_withOneForAnother_46 ?_
              refine Go_callSNI (fX8_isIn c q (by omega) (by omega)) cnX0_51 smX8_isIn ⟨Nat.le_of_ble_eq_true rfl, Nat.le_of_ble_eq_true rfl⟩ rfl (Nat.le_of_ble_eq_true rfl) sh_rf dX0_withOneForAnother_47 ?_
              refine Go_if_ne dX0_withOneForAnother_50 rfl (fun h50 => ?_) (fun h50 => ?_)
              · skip
                replace h50 := bI_n.mp h50
                refine Go_iincn q 1 rfl rfl (by omega) 3 (ls' := [(3, gI _), (0, gR 94), (1, gI _), (2, gI _)]) rfl dX0_withOneForAnother_66 (by decide) rfl ?_
                refine Go_goto dX0_withOneForAnother_69 rfl ?_
                refine Go_pick [1, 2, 3, 0] (ls' := [(0, gR 94), (1, gI _), (2, gI _), (3, gI _)]) rfl ?_
                exact ih_23 (q + 1) _ (by omega) (by simp only [oaI, hy]; first | rw [if_neg (by exact fun z => h42 z.1)] | rw [if_neg (by exact fun z => z.2 h50)]) he0
              · skip
                replace h50 := bI_0.mp h50
                refine Go_aload_n 0 rfl rfl dX0_withOneForAnother_53 ?_
                refine Go_iload_n 1 rfl rfl dX0_withOneForAnother_54 ?_
                refine Go_iconst (by unfold in32; omega) dX0_withOneForAnother_55 ?_
                refine Go_iload_n 2 rfl rfl dX0_withOneForAnother_56 ?_
                refine Go_ishl dX0_withOneForAnother_57 ?_
                refine Go_ixor dX0_withOneForAnother_58 ?_
                refine Go_topI (v := ((c ^^^ 2 ^ p : Nat) : Int)) (x_bit hc (by omega)) ?_
                refine Go_iconst (by unfold in32; omega) dX0_withOneForAnother_59 ?_
                refine Go_iload_n 3 rfl rfl dX0_withOneForAnother_60 ?_
                refine Go_ishl dX0_withOneForAnother_61 ?_
                refine Go_ixor dX0_withOneForAnother_62 ?_
                refine Go_topI (v := ((c ^^^ 2 ^ p ^^^ 2 ^ q : Nat) : Int)) (x_bit (xor_lt hc (by omega)) (by omega)) ?_
                refine Go_callV0 (q := vwCl[0]) (fX0_consider hC e he0 (c ^^^ 2 ^ p ^^^ 2 ^ q) (xor_lt (xor_lt hc (by omega)) (by omega))) cwX0_55 imX0_consider rfl rfl ⟨Nat.le_of_ble_eq_true rfl, Nat.le_of_ble_eq_true rfl⟩ sh_94 rfl (Nat.le_of_ble_eq_true rfl) sh_rf dX0_withOneForAnother_63 ?_
                refine Go_iincn q 1 rfl rfl (by omega) 3 (ls' := [(3, gI _), (0, gR 94), (1, gI _), (2, gI _)]) rfl dX0_withOneForAnother_66 (by decide) rfl ?_
                refine Go_goto dX0_withOneForAnother_69 rfl ?_
                refine Go_pick [1, 2, 3, 0] (ls' := [(0, gR 94), (1, gI _), (2, gI _), (3, gI _)]) rfl ?_
                exact ih_23 (q + 1) _ (by omega) (by simp only [oaI, hy]; rw [if_pos (by exact ⟨h42, h50⟩)]) ((coF_0 _ _ _ _).trans he0)
      refine Go_iload_n 2 rfl rfl dX0_withOneForAnother_7 ?_
      refine Go_aload_n 0 rfl rfl dX0_withOneForAnother_8 ?_
      refine Go_getR (c' := 90) faX0_22 sh_94 (by first | exact he0.trans (pt_94_0 (M := M) hC.1) | exact hg.trans (pt_94_0 (M := M) hC.1)) dX0_withOneForAnother_9 ?_
      refine Go_getR (c' := 1) faX0_42 sh_90 (pt_90_0 (M := M) hC.1) dX0_withOneForAnother_12 ?_
      refine Go_getIv (v := (np : Int)) hC.2.2.2.1 faX0_46 sh_1 dX0_withOneForAnother_15 ?_
      refine Go_icmp_ge dX0_withOneForAnother_18 rfl (fun h18 => ?_) (fun h18 => ?_)
      · skip
        exact absurd h18 (by omega)
      · skip
        refine Go_iconst (by unfold in32; omega) dX0_withOneForAnother_21 ?_
        refine Go_istore_n (ls' := [(3, gI _), (0, gR 94), (1, gI _), (2, gI _)]) rfl dX0_withOneForAnother_22 (by decide) rfl ?_
        refine Go_pick [1, 2, 3, 0] (ls' := [(0, gR 94), (1, gI _), (2, gI _), (3, gI _)]) rfl ?_
        exact loop_23 np 0 _ (by omega) rfl hg
  refine Go_aload_n 0 rfl rfl dX0_withOneForAnother_0 ?_
  refine Go_iload_n 1 rfl rfl dX0_withOneForAnother_1 ?_
  refine Go_callV0 (q := vwCl[0]) (fX0_startFrom hC f hf c hc) cwX0_38 imX0_startFrom rfl rfl ⟨Nat.le_of_ble_eq_true rfl, Nat.le_of_ble_eq_true rfl⟩ sh_94 rfl (Nat.le_of_ble_eq_true rfl) sh_rf dX0_withOneForAnother_2 ?_
  refine Go_iconst (by unfold in32; omega) dX0_withOneForAnother_5 ?_
  refine Go_istore_n (ls' := [(2, gI _), (0, gR 94), (1, gI _)]) rfl dX0_withOneForAnother_6 (by decide) rfl ?_
  refine Go_pick [1, 2, 0] (ls' := [(0, gR 94), (1, gI _), (2, gI _)]) rfl ?_
  exact loop_7 np 0 _ (by omega) rfl hf
set_option maxHeartbeats 4000000 in
set_option maxRecDepth 100000 in
theorem fX0_putUp {D : va_G} {ca : Nat → ClassId} {M : gMem} {nv np : Nat} (hC : CS M nv np) (s : Nat) (hs : M 90 2 = (s : Int)) (hs2 : s < 1024) : Fn D ca mX0_putUp [gR 94] SH M [gI ((puL (fun c f => omS (fun c => msB (M 90 2) (M 90 3) (M 1 2) (c : Int)) (fun c => meS (M 2) (M 5) (M 6) (M 91) nv np c) c f np) 10 s (gUp (M 94) 1 0)).1 : Int)] SH (gSet M 94 (puL (fun c f => omS (fun c => msB (M 90 2) (M 90 3) (M 1 2) (c : Int)) (fun c => meS (M 2) (M 5) (M 6) (M 91) nv np c) c f np) 10 s (gUp (M 94) 1 0)).2) := by
  refine Fn_of okX0_putUp (Nat.le_of_ble_eq_true rfl) (Or.inr (Or.inl ⟨_, rfl, rfl⟩)) (Nat.le_refl _) (Nat.le_refl _) ?_
  refine Go_ls2 (ls' := [(0, gR 94)]) rfl ?_
  have hv12 := hC.2.2.1
  have hn10 := hC.2.2.2.2
  refine Go_o 94 ?_
  have loop_15 : ∀ (k : Nat) (i c : Nat) (f : Nat → Int), i + k = 10 → c < 1024 → f 0 = M 94 0 → Go D ca none (gRm mX0_putUp (SH.length - SH.length) (gSz SH - gSz SH)) mX0_putUp 15 [(0, gR 94), (1, gI (c : Int)), (2, gI (i : Int))] [] SH (gSet M 94 f) [gI ((puL (fun c f => omS (fun c => msB (M 90 2) (M 90 3) (M 1 2) (c : Int)) (fun c => meS (M 2) (M 5) (M 6) (M 91) nv np c) c f np) k c f).1 : Int)] SH (gSet M 94 (puL (fun c f => omS (fun c => msB (M 90 2) (M 90 3) (M 1 2) (c : Int)) (fun c => meS (M 2) (M 5) (M 6) (M 91) nv np c) c f np) k c f).2) := by
    intro k
    induction k with
    | zero =>
      intro i c f hi hc hf
      refine Go_iload_n 2 rfl rfl dX0_putUp_15 ?_
      refine Go_bipush ⟨by decide, by unfold in32; omega⟩ dX0_putUp_16 ?_
      refine Go_icmp_ge dX0_putUp_18 rfl (fun h18 => ?_) (fun h18 => ?_)
      · skip
        refine Go_iload_n 1 rfl rfl dX0_putUp_53 ?_
        exact Go_ret rfl dX0_putUp_54
      · skip
        exact absurd h18 (by omega)
    | succ k ih_15 =>
      intro i c f hi hc hf
      refine Go_iload_n 2 rfl rfl dX0_putUp_15 ?_
      refine Go_bipush ⟨by decide, by unfold in32; omega⟩ dX0_putUp_16 ?_
      refine Go_icmp_ge dX0_putUp_18 rfl (fun h18 => ?_) (fun h18 => ?_)
      · skip
        exact absurd h18 (by omega)
      · skip
        refine Go_aload_n 0 rfl rfl dX0_putUp_21 ?_
        refine Go_iload_n 1 rfl rfl dX0_putUp_22 ?_
        refine Go_callVI (q := vwCl[0]) (fX0_withOneMore hC f hf c hc) cwX0_31 imX0_withOneMore rfl rfl ⟨Nat.le_of_ble_eq_true rfl, Nat.le_of_ble_eq_true rfl⟩ sh_94 rfl (Nat.le_of_ble_eq_true rfl) sh_rf dX0_putUp_23 ?_
        obtain ⟨n, hn, en⟩ := omS_nat (ok := fun c => msB (M 90 2) (M 90 3) (M 1 2) (c : Int)) (ms := fun c => meS (M 2) (M 5) (M 6) (M 91) nv np c) (f := f) hc np hn10
        refine Go_topI (v := (n : Int)) en ?_
        refine Go_istore_n (ls' := [(3, gI _), (0, gR 94), (1, gI _), (2, gI _)]) rfl dX0_putUp_26 (by decide) rfl ?_
        refine Go_iload_n 0 rfl rfl dX0_putUp_27 ?_
        refine Go_iload_n 2 rfl rfl dX0_putUp_28 ?_
        refine Go_icmp_ne dX0_putUp_29 rfl (fun h29 => ?_) (fun h29 => ?_)
        · skip
          refine Go_iload_n 0 rfl rfl dX0_putUp_35 ?_
          refine Go_istore_n (ls' := [(1, gI _), (3, gI _), (0, gR 94), (2, gI _)]) rfl dX0_putUp_36 (by decide) rfl ?_
          refine Go_aload_n 2 rfl rfl dX0_putUp_37 ?_
          refine Go_dupR dX0_putUp_38 ?_
          refine Go_getI faX0_9 sh_94 dX0_putUp_39 ?_
          refine Go_iconst (by unfold in32; omega) dX0_putUp_42 ?_
          refine Go_iadd dX0_putUp_43 ?_
          refine Go_putIS fpX0_9 sh_94 dX0_putUp_44 ?_
          refine Go_iincn i 1 rfl rfl (by omega) 3 (ls' := [(2, gI _), (1, gI _), (3, gI _), (0, gR 94)]) rfl dX0_putUp_47 (by decide) rfl ?_
          refine Go_goto dX0_putUp_50 rfl ?_
          refine Go_pick [3, 1, 0] (ls' := [(0, gR 94), (1, gI _), (2, gI _)]) rfl ?_
          rw [show puL (fun c f => omS (fun c => msB (M 90 2) (M 90 3) (M 1 2) (c : Int)) (fun c => meS (M 2) (M 5) (M 6) (M 91) nv np c) c f np) (k + 1) c f = puL (fun c f => omS (fun c => msB (M 90 2) (M 90 3) (M 1 2) (c : Int)) (fun c => meS (M 2) (M 5) (M 6) (M 91) nv np c) c f np) k n (gUp (omS (fun c => msB (M 90 2) (M 90 3) (M 1 2) (c : Int)) (fun c => meS (M 2) (M 5) (M 6) (M 91) nv np c) c f np) 1 (w32 ((omS (fun c => msB (M 90 2) (M 90 3) (M 1 2) (c : Int)) (fun c => meS (M 2) (M 5) (M 6) (M 91) nv np c) c f np) 1 + 1))) from by simp only [puL]; rw [en, if_neg (by omega), Int.toNat_natCast]]
          exact ih_15 (i + 1) n _ (by omega) hn ((omS_0 np).trans hf)
        · skip
          refine Go_goto dX0_putUp_32 rfl ?_
          refine Go_iload_n 2 rfl rfl dX0_putUp_53 ?_
          rw [show puL (fun c f => omS (fun c => msB (M 90 2) (M 90 3) (M 1 2) (c : Int)) (fun c => meS (M 2) (M 5) (M 6) (M 91) nv np c) c f np) (k + 1) c f = (c, omS (fun c => msB (M 90 2) (M 90 3) (M 1 2) (c : Int)) (fun c => meS (M 2) (M 5) (M 6) (M 91) nv np c) c f np) from by simp only [puL]; rw [en, if_pos (by omega)]]
          exact Go_ret rfl dX0_putUp_54
  refine Go_aload_n 0 rfl rfl dX0_putUp_0 ?_
  refine Go_getR (c' := 90) faX0_22 sh_94 (pt_94_0 (M := M) hC.1) dX0_putUp_1 ?_
  refine Go_getIv (v := (s : Int)) hs faX0_26 sh_90 dX0_putUp_4 ?_
  refine Go_istore_n (ls' := [(1, gI _), (0, gR 94)]) rfl dX0_putUp_7 (by decide) rfl ?_
  refine Go_aload_n 1 rfl rfl dX0_putUp_8 ?_
  refine Go_iconst (by unfold in32; omega) dX0_putUp_9 ?_
  refine Go_putIS fpX0_9 sh_94 dX0_putUp_10 ?_
  refine Go_iconst (by unfold in32; omega) dX0_putUp_13 ?_
  refine Go_istore_n (ls' := [(2, gI _), (1, gI _), (0, gR 94)]) rfl dX0_putUp_14 (by decide) rfl ?_
  refine Go_pick [2, 1, 0] (ls' := [(0, gR 94), (1, gI _), (2, gI _)]) rfl ?_
  exact loop_15 10 0 s _ (by omega) hs2 rfl
set_option maxHeartbeats 4000000 in
set_option maxRecDepth 100000 in
theorem fX0_improve {D : va_G} {ca : Nat → ClassId} {M : gMem} {nv np : Nat} (hC : CS M nv np) (c : Nat) (hc : c < 1024) : Fn D ca mX0_improve [gR 94, gI (c : Int)] SH M [gI ((puL (fun c f => oaO (fun c => msB (M 90 2) (M 90 3) (M 1 2) (c : Int)) (fun c => meS (M 2) (M 5) (M 6) (M 91) nv np c) c np f np) 1024 c (gUp (M 94) 1 0)).1 : Int)] SH (gSet M 94 (puL (fun c f => oaO (fun c => msB (M 90 2) (M 90 3) (M 1 2) (c : Int)) (fun c => meS (M 2) (M 5) (M 6) (M 91) nv np c) c np f np) 1024 c (gUp (M 94) 1 0)).2) := by
  refine Fn_of okX0_improve (Nat.le_of_ble_eq_true rfl) (Or.inr (Or.inl ⟨_, rfl, rfl⟩)) (Nat.le_refl _) (Nat.le_refl _) ?_
  refine Go_ls2 (ls' := [(0, gR 94), (1, gI _)]) rfl ?_
  have hv12 := hC.2.2.1
  have hn10 := hC.2.2.2.2
  refine Go_o 94 ?_
  have loop_9 : ∀ (k : Nat) (i c : Nat) (f : Nat → Int), i + k = 1024 → c < 1024 → f 0 = M 94 0 → Go D ca none (gRm mX0_improve (SH.length - SH.length) (gSz SH - gSz SH)) mX0_improve 9 [(0, gR 94), (2, gI (c : Int)), (3, gI (i : Int))] [] SH (gSet M 94 f) [gI ((puL (fun c f => oaO (fun c => msB (M 90 2) (M 90 3) (M 1 2) (c : Int)) (fun c => meS (M 2) (M 5) (M 6) (M 91) nv np c) c np f np) k c f).1 : Int)] SH (gSet M 94 (puL (fun c f => oaO (fun c => msB (M 90 2) (M 90 3) (M 1 2) (c : Int)) (fun c => meS (M 2) (M 5) (M 6) (M 91) nv np c) c np f np) k c f).2) := by
    intro k
    induction k with
    | zero =>
      intro i c f hi hc hf
      refine Go_iload_n 2 rfl rfl dX0_improve_9 ?_
      refine Go_sipush ⟨by decide, by unfold in32; omega⟩ dX0_improve_10 ?_
      refine Go_icmp_ge dX0_improve_13 rfl (fun h13 => ?_) (fun h13 => ?_)
      · skip
        refine Go_iload_n 1 rfl rfl dX0_improve_51 ?_
        exact Go_ret rfl dX0_improve_52
      · skip
        exact absurd h13 (by omega)
    | succ k ih_9 =>
      intro i c f hi hc hf
      refine Go_iload_n 2 rfl rfl dX0_improve_9 ?_
      refine Go_sipush ⟨by decide, by unfold in32; omega⟩ dX0_improve_10 ?_
      refine Go_icmp_ge dX0_improve_13 rfl (fun h13 => ?_) (fun h13 => ?_)
      · skip
        exact absurd h13 (by omega)
      · skip
        refine Go_aload_n 0 rfl rfl dX0_improve_16 ?_
        refine Go_iload_n 1 rfl rfl dX0_improve_17 ?_
        refine Go_callVI (q := vwCl[0]) (fX0_withOneForAnother hC f hf c hc) cwX0_35 imX0_withOneForAnother rfl rfl ⟨Nat.le_of_ble_eq_true rfl, Nat.le_of_ble_eq_true rfl⟩ sh_94 rfl (Nat.le_of_ble_eq_true rfl) sh_rf dX0_improve_18 ?_
        obtain ⟨n, hn, en⟩ := oaO_nat (ok := fun c => msB (M 90 2) (M 90 3) (M 1 2) (c : Int)) (ms := fun c => meS (M 2) (M 5) (M 6) (M 91) nv np c) (f := f) hc hn10 np hn10
        refine Go_topI (v := (n : Int)) en ?_
        refine Go_istore (ls' := [(4, gI _), (0, gR 94), (2, gI _), (3, gI _)]) dX0_improve_21 (by decide) rfl ?_
        refine Go_iload 0 rfl dX0_improve_23 ?_
        refine Go_iload_n 2 rfl rfl dX0_improve_25 ?_
        refine Go_icmp_ne dX0_improve_26 rfl (fun h26 => ?_) (fun h26 => ?_)
        · skip
          refine Go_iload 0 rfl dX0_improve_32 ?_
          refine Go_istore_n (ls' := [(2, gI _), (4, gI _), (0, gR 94), (3, gI _)]) rfl dX0_improve_34 (by decide) rfl ?_
          refine Go_aload_n 2 rfl rfl dX0_improve_35 ?_
          refine Go_dupR dX0_improve_36 ?_
          refine Go_getI faX0_9 sh_94 dX0_improve_37 ?_
          refine Go_iconst (by unfold in32; omega) dX0_improve_40 ?_
          refine Go_iadd dX0_improve_41 ?_
          refine Go_putIS fpX0_9 sh_94 dX0_improve_42 ?_
          refine Go_iincn i 1 rfl rfl (by omega) 3 (ls' := [(3, gI _), (2, gI _), (4, gI _), (0, gR 94)]) rfl dX0_improve_45 (by decide) rfl ?_
          refine Go_goto dX0_improve_48 rfl ?_
          refine Go_pick [3, 1, 0] (ls' := [(0, gR 94), (2, gI _), (3, gI _)]) rfl ?_
          rw [show puL (fun c f => oaO (fun c => msB (M 90 2) (M 90 3) (M 1 2) (c : Int)) (fun c => meS (M 2) (M 5) (M 6) (M 91) nv np c) c np f np) (k + 1) c f = puL (fun c f => oaO (fun c => msB (M 90 2) (M 90 3) (M 1 2) (c : Int)) (fun c => meS (M 2) (M 5) (M 6) (M 91) nv np c) c np f np) k n (gUp (oaO (fun c => msB (M 90 2) (M 90 3) (M 1 2) (c : Int)) (fun c => meS (M 2) (M 5) (M 6) (M 91) nv np c) c np f np) 1 (w32 ((oaO (fun c => msB (M 90 2) (M 90 3) (M 1 2) (c : Int)) (fun c => meS (M 2) (M 5) (M 6) (M 91) nv np c) c np f np) 1 + 1))) from by simp only [puL]; rw [en, if_neg (by omega), Int.toNat_natCast]]
          exact ih_9 (i + 1) n _ (by omega) hn ((oaO_0 np).trans hf)
        · skip
          refine Go_goto dX0_improve_29 rfl ?_
          refine Go_iload_n 2 rfl rfl dX0_improve_51 ?_
          rw [show puL (fun c f => oaO (fun c => msB (M 90 2) (M 90 3) (M 1 2) (c : Int)) (fun c => meS (M 2) (M 5) (M 6) (M 91) nv np c) c np f np) (k + 1) c f = (c, oaO (fun c => msB (M 90 2) (M 90 3) (M 1 2) (c : Int)) (fun c => meS (M 2) (M 5) (M 6) (M 91) nv np c) c np f np) from by simp only [puL]; rw [en, if_pos (by omega)]]
          exact Go_ret rfl dX0_improve_52
  refine Go_iload_n 1 rfl rfl dX0_improve_0 ?_
  refine Go_istore_n (ls' := [(2, gI _), (0, gR 94), (1, gI _)]) rfl dX0_improve_1 (by decide) rfl ?_
  refine Go_aload_n 1 rfl rfl dX0_improve_2 ?_
  refine Go_iconst (by unfold in32; omega) dX0_improve_3 ?_
  refine Go_putIS fpX0_9 sh_94 dX0_improve_4 ?_
  refine Go_iconst (by unfold in32; omega) dX0_improve_7 ?_
  refine Go_istore_n (ls' := [(3, gI _), (2, gI _), (0, gR 94), (1, gI _)]) rfl dX0_improve_8 (by decide) rfl ?_
  refine Go_pick [2, 1, 0] (ls' := [(0, gR 94), (2, gI _), (3, gI _)]) rfl ?_
  exact loop_9 1024 0 c _ (by omega) hc rfl
