theorem u5_22 (f : Nat → Int) (x22 x23 x24 x30 x31 y : Int) : gUp (gUp (gUp (gUp (gUp (gUp f 22 (x22)) 23 (x23)) 24 (x24)) 30 (x30)) 31 (x31)) 22 y = gUp (gUp (gUp (gUp (gUp f 22 (y)) 23 (x23)) 24 (x24)) 30 (x30)) 31 (x31) := by
  rw [gUp_cm (i := 31) (j := 22) (by decide), gUp_cm (i := 30) (j := 22) (by decide), gUp_cm (i := 24) (j := 22) (by decide), gUp_cm (i := 23) (j := 22) (by decide), gUp_uu]
theorem u5_23 (f : Nat → Int) (x22 x23 x24 x30 x31 y : Int) : gUp (gUp (gUp (gUp (gUp (gUp f 22 (x22)) 23 (x23)) 24 (x24)) 30 (x30)) 31 (x31)) 23 y = gUp (gUp (gUp (gUp (gUp f 22 (x22)) 23 (y)) 24 (x24)) 30 (x30)) 31 (x31) := by
  rw [gUp_cm (i := 31) (j := 23) (by decide), gUp_cm (i := 30) (j := 23) (by decide), gUp_cm (i := 24) (j := 23) (by decide), gUp_uu]
theorem u5_24 (f : Nat → Int) (x22 x23 x24 x30 x31 y : Int) : gUp (gUp (gUp (gUp (gUp (gUp f 22 (x22)) 23 (x23)) 24 (x24)) 30 (x30)) 31 (x31)) 24 y = gUp (gUp (gUp (gUp (gUp f 22 (x22)) 23 (x23)) 24 (y)) 30 (x30)) 31 (x31) := by
  rw [gUp_cm (i := 31) (j := 24) (by decide), gUp_cm (i := 30) (j := 24) (by decide), gUp_uu]
theorem u5_30 (f : Nat → Int) (x22 x23 x24 x30 x31 y : Int) : gUp (gUp (gUp (gUp (gUp (gUp f 22 (x22)) 23 (x23)) 24 (x24)) 30 (x30)) 31 (x31)) 30 y = gUp (gUp (gUp (gUp (gUp f 22 (x22)) 23 (x23)) 24 (x24)) 30 (y)) 31 (x31) := by
  rw [gUp_cm (i := 31) (j := 30) (by decide), gUp_uu]
theorem u5_31 (f : Nat → Int) (x22 x23 x24 x30 x31 y : Int) : gUp (gUp (gUp (gUp (gUp (gUp f 22 (x22)) 23 (x23)) 24 (x24)) 30 (x30)) 31 (x31)) 31 y = gUp (gUp (gUp (gUp (gUp f 22 (x22)) 23 (x23)) 24 (x24)) 30 (x30)) 31 (y) := by
  rw [gUp_uu]
theorem wh_5 (f : Nat → Int) (u q r b l : Int) (z : T3) : whF (gUp (gUp (gUp (gUp (gUp f 22 (u)) 23 (q)) 24 (r)) 30 (b)) 31 (l)) z = gUp (gUp (gUp (gUp (gUp f 22 (z.1)) 23 (z.2.1)) 24 (z.2.2)) 30 (b)) 31 (l) := by
  unfold whF
  rw [u5_22, u5_23, u5_24]
def nrN (y : Int × Int) (c : Int) (w : T3) : Int × Int := if w.1 = 0 ∧ (y.1 = -4 ∨ w.2.2 < y.2) then (c, w.2.2) else y
def nrS (ok : Nat → Bool) (wg : Nat → T3) (z : T3) : Nat → T3 × (Int × Int)
  | 0 => (z, (-4, -4))
  | c + 1 => if ok c = true then (wg c, nrN (nrS ok wg z c).2 (c : Int) (wg c)) else nrS ok wg z c
def r5 (f : Nat → Int) (s : T3 × (Int × Int)) : Nat → Int := gUp (gUp (gUp (gUp (gUp f 22 (s.1.1)) 23 (s.1.2.1)) 24 (s.1.2.2)) 30 (s.2.1)) 31 (s.2.2)
def nrM (M : gMem) (nv np : Nat) : T3 × (Int × Int) := nrS (alP (M 111) np (M 106 9)) (wgM (fyM M nv) nv np) (M 106 22, M 106 23, M 106 24) (2 ^ np)
set_option maxHeartbeats 4000000 in
set_option maxRecDepth 100000 in
theorem fX9_findNearest {D : va_G} {ca : Nat → ClassId} {M : gMem} {nv np : Nat} (hC : MS M nv np) (hH : ∀ p, p < np → ∃ z : Nat, z < 12 ∧ M 110 p = (z : Int)) : Fn D ca mX9_findNearest [gR 106] SH M [] SH (gSet (fyM M nv) 106 (r5 (M 106) (nrM M nv np))) := by
  refine Fn_of okX9_findNearest (Nat.le_of_ble_eq_true rfl) (Or.inl ⟨rfl, rfl⟩) (Nat.le_refl _) (Nat.le_refl _) ?_
  refine Go_ls2 (ls' := [(0, gR 106)]) rfl ?_
  have hv12 := hC.2.2.1
  have hn10 := hC.2.2.2.2
  have hpw := p10 hn10
  have loop_18 : ∀ (k : Nat) (c : Nat) (u q r b l : Int), c + k = 2 ^ np → nrS (alP (M 111) np (M 106 9)) (wgM (fyM M nv) nv np) (M 106 22, M 106 23, M 106 24) c = ((u, q, r), (b, l)) → Go D ca none (gRm mX9_findNearest (SH.length - SH.length) (gSz SH - gSz SH)) mX9_findNearest 18 [(0, gR 106), (1, gI (c : Int))] [] SH (gSet (fyM M nv) 106 (gUp (gUp (gUp (gUp (gUp ((M 106)) 22 (u)) 23 (q)) 24 (r)) 30 (b)) 31 (l))) [] SH (gSet (fyM M nv) 106 (r5 (M 106) (nrM M nv np))) := by
    intro k
    induction k with
    | zero =>
      intro c u q r b l he hx
      have ec : c = 2 ^ np := by omega
      subst ec
      refine Go_iload_n 1 rfl rfl dX9_findNearest_18 ?_
      refine Go_iconst (by unfold in32; omega) dX9_findNearest_19 ?_
      refine Go_aload_n 0 rfl rfl dX9_findNearest_20 ?_
      refine Go_getIv (j := 4) (v := (np : Int)) hC.2.2.2.1 faX9_78 sh_106 dX9_findNearest_21 ?_
      refine Go_ishl dX9_findNearest_24 ?_
      refine Go_topI (v := ((2 ^ np : Nat) : Int)) (sh1 hn10) ?_
      refine Go_icmp_ge dX9_findNearest_25 rfl (fun h25 => ?_) (fun h25 => ?_)
      · skip
        rw [show nrM M nv np = _ from hx]
        exact Go_ret rfl dX9_findNearest_87
      · skip
        exact absurd h25 (by omega)
    | succ k ih_18 =>
      intro c u q r b l he hx
      refine Go_iload_n 1 rfl rfl dX9_findNearest_18 ?_
      refine Go_iconst (by unfold in32; omega) dX9_findNearest_19 ?_
      refine Go_aload_n 0 rfl rfl dX9_findNearest_20 ?_
      refine Go_getIv (j := 4) (v := (np : Int)) hC.2.2.2.1 faX9_78 sh_106 dX9_findNearest_21 ?_
      refine Go_ishl dX9_findNearest_24 ?_
      refine Go_topI (v := ((2 ^ np : Nat) : Int)) (sh1 hn10) ?_
      refine Go_icmp_ge dX9_findNearest_25 rfl (fun h25 => ?_) (fun h25 => ?_)
      · skip
        exact absurd h25 (by omega)
      · skip
        refine Go_aload_n 0 rfl rfl dX9_findNearest_28 ?_
        refine Go_iload_n 1 rfl rfl dX9_findNearest_29 ?_
        refine Go_callVI (q := vwCl[9]) (fX9_isAllowed (MS_ob (MS_fy hC) (agM_up (agM_up (agM_up (agM_up (agM_up (agM_rf _) (by decide)) (by decide)) (by decide)) (by decide)) (by decide))) c (by omega)) cwX9_139 imX9_isAllowed rfl rfl ⟨Nat.le_of_ble_eq_true rfl, Nat.le_of_ble_eq_true rfl⟩ sh_106 rfl (Nat.le_of_ble_eq_true rfl) sh_rf dX9_findNearest_30 ?_
        refine Go_if_eq dX9_findNearest_33 rfl (fun h33 => ?_) (fun h33 => ?_)
        · skip
          replace h33 := bI_0.mp h33
          refine Go_iincn c 1 rfl rfl (by omega) 1 (ls' := [(1, gI _), (0, gR 106)]) rfl dX9_findNearest_81 (by decide) rfl ?_
          refine Go_goto dX9_findNearest_84 rfl ?_
          refine Go_pick [1, 0] (ls' := [(0, gR 106), (1, gI _)]) rfl ?_
          exact ih_18 (c + 1) _ _ _ _ _ (by omega) (by simp only [nrS, hx]; rw [if_neg (by exact h33)])
        · skip
          replace h33 := bI_n.mp h33
          refine Go_aload_n 0 rfl rfl dX9_findNearest_36 ?_
          refine Go_iload_n 1 rfl rfl dX9_findNearest_37 ?_
          refine Go_callV0 (q := vwCl[9]) (fX9_weigh (MS_fy hC) hH (gUp (gUp (gUp (gUp (gUp ((M 106)) 22 (u)) 23 (q)) 24 (r)) 30 (b)) 31 (l)) (agM_up (agM_up (agM_up (agM_up (agM_up (agM_rf _) (by decide)) (by decide)) (by decide)) (by decide)) (by decide)) c (by omega)) cwX9_144 imX9_weigh rfl rfl ⟨Nat.le_of_ble_eq_true rfl, Nat.le_of_ble_eq_true rfl⟩ sh_106 rfl (Nat.le_of_ble_eq_true rfl) sh_rf dX9_findNearest_38 ?_
          refine Go_M (congrArg (gSet (fyM M nv) 106) (wh_5 _ _ _ _ _ _ _)) ?_
          refine Go_aload_n 0 rfl rfl dX9_findNearest_41 ?_
          refine Go_getIv (j := 22) (v := (wgM (fyM M nv) nv np c).1) rfl faX9_119 sh_106 dX9_findNearest_42 ?_
          refine Go_if_ne dX9_findNearest_45 rfl (fun h45 => ?_) (fun h45 => ?_)
          · skip
            refine Go_iincn c 1 rfl rfl (by omega) 1 (ls' := [(1, gI _), (0, gR 106)]) rfl dX9_findNearest_81 (by decide) rfl ?_
            refine Go_goto dX9_findNearest_84 rfl ?_
            refine Go_pick [1, 0] (ls' := [(0, gR 106), (1, gI _)]) rfl ?_
            exact ih_18 (c + 1) _ _ _ _ _ (by omega) (by simp only [nrS, hx]; rw [if_pos (by exact h33)]; unfold nrN; rw [if_neg (by exact fun z => h45 z.1)])
          · skip
            refine Go_aload_n 0 rfl rfl dX9_findNearest_48 ?_
            refine Go_getIv (j := 30) (v := b) rfl faX9_173 sh_106 dX9_findNearest_49 ?_
            refine Go_bipush ⟨by decide, by unfold in32; omega⟩ dX9_findNearest_52 ?_
            refine Go_icmp_eq dX9_findNearest_54 rfl (fun h54 => ?_) (fun h54 => ?_)
            · skip
              refine Go_aload_n 0 rfl rfl dX9_findNearest_68 ?_
              refine Go_iload_n 1 rfl rfl dX9_findNearest_69 ?_
              refine Go_putIS fpX9_173 sh_106 dX9_findNearest_70 ?_
              refine Go_M (congrArg (gSet ((fyM M nv)) 106) (u5_30 _ _ _ _ _ _ _)) ?_
              refine Go_aload_n 0 rfl rfl dX9_findNearest_73 ?_
              refine Go_aload_n 0 rfl rfl dX9_findNearest_74 ?_
              refine Go_getIv (j := 24) (v := (wgM (fyM M nv) nv np c).2.2) rfl faX9_126 sh_106 dX9_findNearest_75 ?_
              refine Go_putIS fpX9_176 sh_106 dX9_findNearest_78 ?_
              refine Go_M (congrArg (gSet ((fyM M nv)) 106) (u5_31 _ _ _ _ _ _ _)) ?_
              refine Go_iincn c 1 rfl rfl (by omega) 1 (ls' := [(1, gI _), (0, gR 106)]) rfl dX9_findNearest_81 (by decide) rfl ?_
              refine Go_goto dX9_findNearest_84 rfl ?_
              refine Go_pick [1, 0] (ls' := [(0, gR 106), (1, gI _)]) rfl ?_
              exact ih_18 (c + 1) _ _ _ _ _ (by omega) (by simp only [nrS, hx]; rw [if_pos (by exact h33)]; unfold nrN; rw [if_pos (by exact ⟨h45, Or.inl h54⟩)])
            · skip
              refine Go_aload_n 0 rfl rfl dX9_findNearest_57 ?_
              refine Go_getIv (j := 24) (v := (wgM (fyM M nv) nv np c).2.2) rfl faX9_126 sh_106 dX9_findNearest_58 ?_
              refine Go_aload_n 0 rfl rfl dX9_findNearest_61 ?_
              refine Go_getIv (j := 31) (v := l) rfl faX9_176 sh_106 dX9_findNearest_62 ?_
              refine Go_icmp_ge dX9_findNearest_65 rfl (fun h65 => ?_) (fun h65 => ?_)
              · skip
                refine Go_iincn c 1 rfl rfl (by omega) 1 (ls' := [(1, gI _), (0, gR 106)]) rfl dX9_findNearest_81 (by decide) rfl ?_
                refine Go_goto dX9_findNearest_84 rfl ?_
                refine Go_pick [1, 0] (ls' := [(0, gR 106), (1, gI _)]) rfl ?_
                exact ih_18 (c + 1) _ _ _ _ _ (by omega) (by simp only [nrS, hx]; rw [if_pos (by exact h33)]; unfold nrN; rw [if_neg (by exact fun z => z.2.elim h54 (fun w => absurd w (Int.not_lt.mpr h65)))])
              · skip
                refine Go_aload_n 0 rfl rfl dX9_findNearest_68 ?_
                refine Go_iload_n 1 rfl rfl dX9_findNearest_69 ?_
                refine Go_putIS fpX9_173 sh_106 dX9_findNearest_70 ?_
                refine Go_M (congrArg (gSet ((fyM M nv)) 106) (u5_30 _ _ _ _ _ _ _)) ?_
                refine Go_aload_n 0 rfl rfl dX9_findNearest_73 ?_
                refine Go_aload_n 0 rfl rfl dX9_findNearest_74 ?_
                refine Go_getIv (j := 24) (v := (wgM (fyM M nv) nv np c).2.2) rfl faX9_126 sh_106 dX9_findNearest_75 ?_
                refine Go_putIS fpX9_176 sh_106 dX9_findNearest_78 ?_
                refine Go_M (congrArg (gSet ((fyM M nv)) 106) (u5_31 _ _ _ _ _ _ _)) ?_
                refine Go_iincn c 1 rfl rfl (by omega) 1 (ls' := [(1, gI _), (0, gR 106)]) rfl dX9_findNearest_81 (by decide) rfl ?_
                refine Go_goto dX9_findNearest_84 rfl ?_
                refine Go_pick [1, 0] (ls' := [(0, gR 106), (1, gI _)]) rfl ?_
                exact ih_18 (c + 1) _ _ _ _ _ (by omega) (by simp only [nrS, hx]; rw [if_pos (by exact h33)]; unfold nrN; rw [if_pos (by exact ⟨h45, Or.inr h65⟩)])
  refine Go_aload_n 0 rfl rfl dX9_findNearest_0 ?_
  refine Go_callV0 (q := vwCl[9]) (fX9_findWays hC) cwX9_112 imX9_findWays rfl rfl ⟨Nat.le_of_ble_eq_true rfl, Nat.le_of_ble_eq_true rfl⟩ sh_106 rfl (Nat.le_of_ble_eq_true rfl) sh_rf dX9_findNearest_1 ?_
  refine Go_M (M2 := fyM M nv) rfl ?_
  refine Go_o 106 ?_
  refine Go_aload_n 0 rfl rfl dX9_findNearest_4 ?_
  refine Go_bipush ⟨by decide, by unfold in32; omega⟩ dX9_findNearest_5 ?_
  refine Go_putIS fpX9_173 sh_106 dX9_findNearest_7 ?_
  refine Go_aload_n 0 rfl rfl dX9_findNearest_10 ?_
  refine Go_bipush ⟨by decide, by unfold in32; omega⟩ dX9_findNearest_11 ?_
  refine Go_putIS fpX9_176 sh_106 dX9_findNearest_13 ?_
  refine Go_M (M2 := gSet (fyM M nv) 106 (gUp (gUp (gUp (gUp (gUp ((M 106)) 22 (M 106 22)) 23 (M 106 23)) 24 (M 106 24)) 30 (-4)) 31 (-4))) (by rw [wh_id]; rfl) ?_
  refine Go_iconst (by unfold in32; omega) dX9_findNearest_16 ?_
  refine Go_istore_n (ls' := [(1, gI _), (0, gR 106)]) rfl dX9_findNearest_17 (by decide) rfl ?_
  refine Go_pick [1, 0] (ls' := [(0, gR 106), (1, gI _)]) rfl ?_
  exact loop_18 (2 ^ np) 0 _ _ _ _ _ (by omega) rfl
def shF9 (K : Nat → Int) : Nat → Int
  | 0 => 0
  | p + 1 => w32 (shF9 K p + if K p = 3 then l32 1 (p : Int) else 0)
set_option maxHeartbeats 4000000 in
set_option maxRecDepth 100000 in
theorem fX9_shrines {D : va_G} {ca : Nat → ClassId} {M : gMem} {nv np : Nat} (hC : MS M nv np) : Fn D ca mX9_shrines [gR 106] SH M [gI (shF9 (M 111) np)] SH (M) := by
  refine Fn_of okX9_shrines (Nat.le_of_ble_eq_true rfl) (Or.inr (Or.inl ⟨_, rfl, rfl⟩)) (Nat.le_refl _) (Nat.le_refl _) ?_
  refine Go_ls2 (ls' := [(0, gR 106)]) rfl ?_
  have hv12 := hC.2.2.1
  have hn10 := hC.2.2.2.2
  have loop_4 : ∀ (k : Nat) (p : Nat) (x : Int), p + k = np → shF9 (M 111) p = x → Go D ca none (gRm mX9_shrines (SH.length - SH.length) (gSz SH - gSz SH)) mX9_shrines 4 [(0, gR 106), (1, gI x), (2, gI (p : Int))] [] SH M [gI (shF9 (M 111) np)] SH (M) := by
    intro k
    induction k with
    | zero =>
      intro p x he hx
      obtain rfl : np = p := by omega
      refine Go_iload_n 2 rfl rfl dX9_shrines_4 ?_
      refine Go_aload_n 0 rfl rfl dX9_shrines_5 ?_
      refine Go_getIv (v := (np : Int)) hC.2.2.2.1 faX9_78 sh_106 dX9_shrines_6 ?_
      refine Go_icmp_ge dX9_shrines_9 rfl (fun h9 => ?_) (fun h9 => ?_)
      · skip
        refine Go_iload_n 1 rfl rfl dX9_shrines_38 ?_
        exact Go_ret (by rw [← hx]) dX9_shrines_39
      · skip
        exact absurd h9 (by omega)
    | succ k ih_4 =>
      intro p x he hx
      refine Go_iload_n 2 rfl rfl dX9_shrines_4 ?_
      refine Go_aload_n 0 rfl rfl dX9_shrines_5 ?_
      refine Go_getIv (v := (np : Int)) hC.2.2.2.1 faX9_78 sh_106 dX9_shrines_6 ?_
      refine Go_icmp_ge dX9_shrines_9 rfl (fun h9 => ?_) (fun h9 => ?_)
      · skip
        exact absurd h9 (by omega)
      · skip
        refine Go_iload_n 1 rfl rfl dX9_shrines_12 ?_
        refine Go_aload_n 0 rfl rfl dX9_shrines_13 ?_
        refine Go_getR (c' := 111) faX9_23 sh_106 (pt_106_6 (M := M) hC.1) dX9_shrines_14 ?_
        refine Go_iload_n 2 rfl rfl dX9_shrines_17 ?_
        refine Go_ialoadv p (v := M 111 (p)) rfl sh_111 rfl (by omega) dX9_shrines_18 ?_
        refine Go_iconst (by unfold in32; omega) dX9_shrines_19 ?_
        refine Go_icmp_ne dX9_shrines_20 rfl (fun h20 => ?_) (fun h20 => ?_)
        · skip
          refine Go_iconst (by unfold in32; omega) dX9_shrines_29 ?_
          refine Go_iadd dX9_shrines_30 ?_
          refine Go_istore_n (ls' := [(1, gI _), (0, gR 106), (2, gI _)]) rfl dX9_shrines_31 (by decide) rfl ?_
          refine Go_iincn p 1 rfl rfl (by omega) 2 (ls' := [(2, gI _), (1, gI _), (0, gR 106)]) rfl dX9_shrines_32 (by decide) rfl ?_
          refine Go_goto dX9_shrines_35 rfl ?_
          refine Go_pick [2, 1, 0] (ls' := [(0, gR 106), (1, gI _), (2, gI _)]) rfl ?_
          exact ih_4 (p + 1) _ (by omega) (by simp only [shF9, hx]; repeat (first | rw [if_pos (by omega)] | rw [if_neg (by omega)]))
        · skip
          refine Go_iconst (by unfold in32; omega) dX9_shrines_23 ?_
          refine Go_iload_n 2 rfl rfl dX9_shrines_24 ?_
          refine Go_ishl dX9_shrines_25 ?_
          refine Go_goto dX9_shrines_26 rfl ?_
          refine Go_iadd dX9_shrines_30 ?_
          refine Go_istore_n (ls' := [(1, gI _), (0, gR 106), (2, gI _)]) rfl dX9_shrines_31 (by decide) rfl ?_
          refine Go_iincn p 1 rfl rfl (by omega) 2 (ls' := [(2, gI _), (1, gI _), (0, gR 106)]) rfl dX9_shrines_32 (by decide) rfl ?_
          refine Go_goto dX9_shrines_35 rfl ?_
          refine Go_pick [2, 1, 0] (ls' := [(0, gR 106), (1, gI _), (2, gI _)]) rfl ?_
          exact ih_4 (p + 1) _ (by omega) (by simp only [shF9, hx]; repeat (first | rw [if_pos (by omega)] | rw [if_neg (by omega)]))
  refine Go_iconst (by unfold in32; omega) dX9_shrines_0 ?_
  refine Go_istore_n (ls' := [(1, gI _), (0, gR 106)]) rfl dX9_shrines_1 (by decide) rfl ?_
  refine Go_iconst (by unfold in32; omega) dX9_shrines_2 ?_
  refine Go_istore_n (ls' := [(2, gI _), (1, gI _), (0, gR 106)]) rfl dX9_shrines_3 (by decide) rfl ?_
  refine Go_pick [2, 1, 0] (ls' := [(0, gR 106), (1, gI _), (2, gI _)]) rfl ?_
  exact loop_4 np 0 _ (by omega) rfl
theorem u6_22 (f : Nat → Int) (x22 x23 x24 x32 x33 x34 y : Int) : gUp (gUp (gUp (gUp (gUp (gUp (gUp f 22 (x22)) 23 (x23)) 24 (x24)) 32 (x32)) 33 (x33)) 34 (x34)) 22 y = gUp (gUp (gUp (gUp (gUp (gUp f 22 (y)) 23 (x23)) 24 (x24)) 32 (x32)) 33 (x33)) 34 (x34) := by
  rw [gUp_cm (i := 34) (j := 22) (by decide), gUp_cm (i := 33) (j := 22) (by decide), gUp_cm (i := 32) (j := 22) (by decide), gUp_cm (i := 24) (j := 22) (by decide), gUp_cm (i := 23) (j := 22) (by decide), gUp_uu]
theorem u6_23 (f : Nat → Int) (x22 x23 x24 x32 x33 x34 y : Int) : gUp (gUp (gUp (gUp (gUp (gUp (gUp f 22 (x22)) 23 (x23)) 24 (x24)) 32 (x32)) 33 (x33)) 34 (x34)) 23 y = gUp (gUp (gUp (gUp (gUp (gUp f 22 (x22)) 23 (y)) 24 (x24)) 32 (x32)) 33 (x33)) 34 (x34) := by
  rw [gUp_cm (i := 34) (j := 23) (by decide), gUp_cm (i := 33) (j := 23) (by decide), gUp_cm (i := 32) (j := 23) (by decide), gUp_cm (i := 24) (j := 23) (by decide), gUp_uu]
theorem u6_24 (f : Nat → Int) (x22 x23 x24 x32 x33 x34 y : Int) : gUp (gUp (gUp (gUp (gUp (gUp (gUp f 22 (x22)) 23 (x23)) 24 (x24)) 32 (x32)) 33 (x33)) 34 (x34)) 24 y = gUp (gUp (gUp (gUp (gUp (gUp f 22 (x22)) 23 (x23)) 24 (y)) 32 (x32)) 33 (x33)) 34 (x34) := by
  rw [gUp_cm (i := 34) (j := 24) (by decide), gUp_cm (i := 33) (j := 24) (by decide), gUp_cm (i := 32) (j := 24) (by decide), gUp_uu]
theorem u6_32 (f : Nat → Int) (x22 x23 x24 x32 x33 x34 y : Int) : gUp (gUp (gUp (gUp (gUp (gUp (gUp f 22 (x22)) 23 (x23)) 24 (x24)) 32 (x32)) 33 (x33)) 34 (x34)) 32 y = gUp (gUp (gUp (gUp (gUp (gUp f 22 (x22)) 23 (x23)) 24 (x24)) 32 (y)) 33 (x33)) 34 (x34) := by
  rw [gUp_cm (i := 34) (j := 32) (by decide), gUp_cm (i := 33) (j := 32) (by decide), gUp_uu]
theorem u6_33 (f : Nat → Int) (x22 x23 x24 x32 x33 x34 y : Int) : gUp (gUp (gUp (gUp (gUp (gUp (gUp f 22 (x22)) 23 (x23)) 24 (x24)) 32 (x32)) 33 (x33)) 34 (x34)) 33 y = gUp (gUp (gUp (gUp (gUp (gUp f 22 (x22)) 23 (x23)) 24 (x24)) 32 (x32)) 33 (y)) 34 (x34) := by
  rw [gUp_cm (i := 34) (j := 33) (by decide), gUp_uu]
theorem u6_34 (f : Nat → Int) (x22 x23 x24 x32 x33 x34 y : Int) : gUp (gUp (gUp (gUp (gUp (gUp (gUp f 22 (x22)) 23 (x23)) 24 (x24)) 32 (x32)) 33 (x33)) 34 (x34)) 34 y = gUp (gUp (gUp (gUp (gUp (gUp f 22 (x22)) 23 (x23)) 24 (x24)) 32 (x32)) 33 (x33)) 34 (y) := by
  rw [gUp_uu]
theorem wh_6 (f : Nat → Int) (u q r w a b : Int) (z : T3) : whF (gUp (gUp (gUp (gUp (gUp (gUp f 22 (u)) 23 (q)) 24 (r)) 32 (w)) 33 (a)) 34 (b)) z = gUp (gUp (gUp (gUp (gUp (gUp f 22 (z.1)) 23 (z.2.1)) 24 (z.2.2)) 32 (w)) 33 (a)) 34 (b) := by
  unfold whF
  rw [u6_22, u6_23, u6_24]
def lsP (z : T3) (a b : Int) : Prop := z.1 < a ∨ (z.1 = a ∧ z.2.1 < b)
def lsB (z : T3) (a b : Int) : Bool := decide (z.1 < a) || (decide (z.1 = a) && decide (z.2.1 < b))
theorem lsB_t {z : T3} {a b : Int} (h : z.1 < a ∨ (z.1 = a ∧ z.2.1 < b)) : lsB z a b = true := by
  unfold lsB
  rw [Bool.or_eq_true, Bool.and_eq_true, decide_eq_true_eq, decide_eq_true_eq, decide_eq_true_eq]
  exact h
theorem lsB_i {z : T3} {a b : Int} (h : lsB z a b = true) : z.1 < a ∨ (z.1 = a ∧ z.2.1 < b) := by
  unfold lsB at h
  rw [Bool.or_eq_true, Bool.and_eq_true, decide_eq_true_eq, decide_eq_true_eq, decide_eq_true_eq] at h
  exact h
set_option maxHeartbeats 4000000 in
set_option maxRecDepth 100000 in
theorem fX9_begins {D : va_G} {ca : Nat → ClassId} {M : gMem} {nv np : Nat} (hC : MS M nv np) (hH : ∀ p, p < np → ∃ z : Nat, z < 12 ∧ M 110 p = (z : Int)) (f : Nat → Int) (hf : agM f (M 106)) (u q r w a b : Int) (c : Nat) (hc : c < 1024) : Fn D ca mX9_begins [gR 106, gI (c : Int)] SH (gSet M 106 (gUp (gUp (gUp (gUp (gUp (gUp f 22 (u)) 23 (q)) 24 (r)) 32 (w)) 33 (a)) 34 (b))) [] SH (gSet M 106 (gUp (gUp (gUp (gUp (gUp (gUp f 22 ((wgM M nv np c).1)) 23 ((wgM M nv np c).2.1)) 24 ((wgM M nv np c).2.2)) 32 (w)) 33 ((wgM M nv np c).1)) 34 ((wgM M nv np c).2.1))) := by
  refine Fn_of okX9_begins (Nat.le_of_ble_eq_true rfl) (Or.inl ⟨rfl, rfl⟩) (Nat.le_refl _) (Nat.le_refl _) ?_
  refine Go_ls2 (ls' := [(0, gR 106), (1, gI _)]) rfl ?_
  refine Go_aload_n 0 rfl rfl dX9_begins_0 ?_
  refine Go_iload_n 1 rfl rfl dX9_begins_1 ?_
  refine Go_callV0 (q := vwCl[9]) (fX9_weigh hC hH (gUp (gUp (gUp (gUp (gUp (gUp f 22 (u)) 23 (q)) 24 (r)) 32 (w)) 33 (a)) 34 (b)) (agM_up (agM_up (agM_up (agM_up (agM_up (agM_up hf (by decide)) (by decide)) (by decide)) (by decide)) (by decide)) (by decide)) c hc) cwX9_144 imX9_weigh rfl rfl ⟨Nat.le_of_ble_eq_true rfl, Nat.le_of_ble_eq_true rfl⟩ sh_106 rfl (Nat.le_of_ble_eq_true rfl) sh_rf dX9_begins_2 ?_
  refine Go_M (congrArg (gSet M 106) (wh_6 _ _ _ _ _ _ _ _)) ?_
  refine Go_aload_n 0 rfl rfl dX9_begins_5 ?_
  refine Go_aload_n 0 rfl rfl dX9_begins_6 ?_
  refine Go_getIv (j := 22) (v := (wgM M nv np c).1) rfl faX9_119 sh_106 dX9_begins_7 ?_
  refine Go_putIS fpX9_182 sh_106 dX9_begins_10 ?_
  refine Go_M (congrArg (gSet M 106) (u6_33 _ _ _ _ _ _ _ _)) ?_
  refine Go_aload_n 0 rfl rfl dX9_begins_13 ?_
  refine Go_aload_n 0 rfl rfl dX9_begins_14 ?_
  refine Go_getJv (j := 23) (v := (wgM M nv np c).2.1) rfl faX9_122 sh_106 dX9_begins_15 ?_
  refine Go_putJS fpX9_185 sh_106 dX9_begins_18 ?_
  refine Go_M (congrArg (gSet M 106) (u6_34 _ _ _ _ _ _ _ _)) ?_
  exact Go_ret rfl dX9_begins_21
set_option maxHeartbeats 4000000 in
set_option maxRecDepth 100000 in
theorem fX9_isLess {D : va_G} {ca : Nat → ClassId} {M : gMem} {nv np : Nat} (hC : MS M nv np) (hH : ∀ p, p < np → ∃ z : Nat, z < 12 ∧ M 110 p = (z : Int)) (f : Nat → Int) (hf : agM f (M 106)) (u q r w a b : Int) (c : Nat) (hc : c < 1024) : Fn D ca mX9_isLess [gR 106, gI (c : Int)] SH (gSet M 106 (gUp (gUp (gUp (gUp (gUp (gUp f 22 (u)) 23 (q)) 24 (r)) 32 (w)) 33 (a)) 34 (b))) [gI (bI (lsB (wgM M nv np c) a b = true))] SH (gSet M 106 (gUp (gUp (gUp (gUp (gUp (gUp f 22 ((wgM M nv np c).1)) 23 ((wgM M nv np c).2.1)) 24 ((wgM M nv np c).2.2)) 32 (w)) 33 (if lsB (wgM M nv np c) a b = true then (wgM M nv np c).1 else a)) 34 (if lsB (wgM M nv np c) a b = true then (wgM M nv np c).2.1 else b))) := by
  refine Fn_of okX9_isLess (Nat.le_of_ble_eq_true rfl) (Or.inr (Or.inr (Or.inl ⟨_, rfl, rfl, bI_01 _⟩))) (Nat.le_refl _) (Nat.le_refl _) ?_
  refine Go_ls2 (ls' := [(0, gR 106), (1, gI _)]) rfl ?_
  refine Go_aload_n 0 rfl rfl dX9_isLess_0 ?_
  refine Go_iload_n 1 rfl rfl dX9_isLess_1 ?_
  refine Go_callV0 (q := vwCl[9]) (fX9_weigh hC hH (gUp (gUp (gUp (gUp (gUp (gUp f 22 (u)) 23 (q)) 24 (r)) 32 (w)) 33 (a)) 34 (b)) (agM_up (agM_up (agM_up (agM_up (agM_up (agM_up hf (by decide)) (by decide)) (by decide)) (by decide)) (by decide)) (by decide)) c hc) cwX9_144 imX9_weigh rfl rfl ⟨Nat.le_of_ble_eq_true rfl, Nat.le_of_ble_eq_true rfl⟩ sh_106 rfl (Nat.le_of_ble_eq_true rfl) sh_rf dX9_isLess_2 ?_
  refine Go_M (congrArg (gSet M 106) (wh_6 _ _ _ _ _ _ _ _)) ?_
  refine Go_aload_n 0 rfl rfl dX9_isLess_5 ?_
  refine Go_getIv (j := 22) (v := (wgM M nv np c).1) rfl faX9_119 sh_106 dX9_isLess_6 ?_
  refine Go_aload_n 0 rfl rfl dX9_isLess_9 ?_
  refine Go_getIv (j := 33) (v := a) rfl faX9_182 sh_106 dX9_isLess_10 ?_
  refine Go_icmp_lt dX9_isLess_13 rfl (fun h13 => ?_) (fun h13 => ?_)
  · skip
    refine Go_iconst (by unfold in32; omega) dX9_isLess_39 ?_
    refine Go_goto dX9_isLess_40 rfl ?_
    refine Go_istore_n (ls' := [(2, gI _), (0, gR 106), (1, gI _)]) rfl dX9_isLess_44 (by decide) rfl ?_
    refine Go_iload_n 0 rfl rfl dX9_isLess_45 ?_
    refine Go_if_eq dX9_isLess_46 rfl (fun h46 => ?_) (fun h46 => ?_)
    · skip
      exact absurd h46 (by decide)
    · skip
      refine Go_aload_n 1 rfl rfl dX9_isLess_49 ?_
      refine Go_aload_n 1 rfl rfl dX9_isLess_50 ?_
      refine Go_getIv (j := 22) (v := (wgM M nv np c).1) rfl faX9_119 sh_106 dX9_isLess_51 ?_
      refine Go_putIS fpX9_182 sh_106 dX9_isLess_54 ?_
      refine Go_M (congrArg (gSet M 106) (u6_33 _ _ _ _ _ _ _ _)) ?_
      refine Go_aload_n 1 rfl rfl dX9_isLess_57 ?_
      refine Go_aload_n 1 rfl rfl dX9_isLess_58 ?_
      refine Go_getJv (j := 23) (v := (wgM M nv np c).2.1) rfl faX9_122 sh_106 dX9_isLess_59 ?_
      refine Go_putJS fpX9_185 sh_106 dX9_isLess_62 ?_
      refine Go_M (congrArg (gSet M 106) (u6_34 _ _ _ _ _ _ _ _)) ?_
      refine Go_iload_n 0 rfl rfl dX9_isLess_65 ?_
      have hl := (lsB_t (Or.inl h13) : lsB (wgM M nv np c) a b = true)
      rw [if_pos hl, if_pos hl]
      exact Go_ret (by rw [bI_t hl]) dX9_isLess_66
  · skip
    refine Go_aload_n 0 rfl rfl dX9_isLess_16 ?_
    refine Go_getIv (j := 22) (v := (wgM M nv np c).1) rfl faX9_119 sh_106 dX9_isLess_17 ?_
    refine Go_aload_n 0 rfl rfl dX9_isLess_20 ?_
    refine Go_getIv (j := 33) (v := a) rfl faX9_182 sh_106 dX9_isLess_21 ?_
    refine Go_icmp_ne dX9_isLess_24 rfl (fun h24 => ?_) (fun h24 => ?_)
    · skip
      refine Go_iconst (by unfold in32; omega) dX9_isLess_43 ?_
      refine Go_istore_n (ls' := [(2, gI _), (0, gR 106), (1, gI _)]) rfl dX9_isLess_44 (by decide) rfl ?_
      refine Go_iload_n 0 rfl rfl dX9_isLess_45 ?_
      refine Go_if_eq dX9_isLess_46 rfl (fun h46 => ?_) (fun h46 => ?_)
      · skip
        refine Go_iload_n 0 rfl rfl dX9_isLess_65 ?_
        have hl : ¬ lsB (wgM M nv np c) a b = true := fun q => (lsB_i q).elim (fun z => absurd z (Int.not_lt.mpr h13)) (fun z => h24 z.1)
        rw [if_neg hl, if_neg hl]
        exact Go_ret (by rw [bI_f hl]) dX9_isLess_66
      · skip
        exact absurd rfl h46
    · skip
      refine Go_aload_n 0 rfl rfl dX9_isLess_27 ?_
      refine Go_getJv (j := 23) (v := (wgM M nv np c).2.1) rfl faX9_122 sh_106 dX9_isLess_28 ?_
      refine Go_aload_n 0 rfl rfl dX9_isLess_31 ?_
      refine Go_getJv (j := 34) (v := b) rfl faX9_185 sh_106 dX9_isLess_32 ?_
      refine Go_lcmp dX9_isLess_35 ?_
      refine Go_if_ge dX9_isLess_36 rfl (fun h36 => ?_) (fun h36 => ?_)
      · skip
        replace h36 := cmp_ge.mp h36
        refine Go_iconst (by unfold in32; omega) dX9_isLess_43 ?_
        refine Go_istore_n (ls' := [(2, gI _), (0, gR 106), (1, gI _)]) rfl dX9_isLess_44 (by decide) rfl ?_
        refine Go_iload_n 0 rfl rfl dX9_isLess_45 ?_
        refine Go_if_eq dX9_isLess_46 rfl (fun h46 => ?_) (fun h46 => ?_)
        · skip
          refine Go_iload_n 0 rfl rfl dX9_isLess_65 ?_
          have hl : ¬ lsB (wgM M nv np c) a b = true := fun q => (lsB_i q).elim (fun z => absurd z (Int.not_lt.mpr h13)) (fun z => absurd z.2 (Int.not_lt.mpr h36))
          rw [if_neg hl, if_neg hl]
          exact Go_ret (by rw [bI_f hl]) dX9_isLess_66
        · skip
          exact absurd rfl h46
      · skip
        replace h36 := cmp_lt.mp h36
        refine Go_iconst (by unfold in32; omega) dX9_isLess_39 ?_
        refine Go_goto dX9_isLess_40 rfl ?_
        refine Go_istore_n (ls' := [(2, gI _), (0, gR 106), (1, gI _)]) rfl dX9_isLess_44 (by decide) rfl ?_
        refine Go_iload_n 0 rfl rfl dX9_isLess_45 ?_
        refine Go_if_eq dX9_isLess_46 rfl (fun h46 => ?_) (fun h46 => ?_)
        · skip
          exact absurd h46 (by decide)
        · skip
          refine Go_aload_n 1 rfl rfl dX9_isLess_49 ?_
          refine Go_aload_n 1 rfl rfl dX9_isLess_50 ?_
          refine Go_getIv (j := 22) (v := (wgM M nv np c).1) rfl faX9_119 sh_106 dX9_isLess_51 ?_
          refine Go_putIS fpX9_182 sh_106 dX9_isLess_54 ?_
          refine Go_M (congrArg (gSet M 106) (u6_33 _ _ _ _ _ _ _ _)) ?_
          refine Go_aload_n 1 rfl rfl dX9_isLess_57 ?_
          refine Go_aload_n 1 rfl rfl dX9_isLess_58 ?_
          refine Go_getJv (j := 23) (v := (wgM M nv np c).2.1) rfl faX9_122 sh_106 dX9_isLess_59 ?_
          refine Go_putJS fpX9_185 sh_106 dX9_isLess_62 ?_
          refine Go_M (congrArg (gSet M 106) (u6_34 _ _ _ _ _ _ _ _)) ?_
          refine Go_iload_n 0 rfl rfl dX9_isLess_65 ?_
          have hl := (lsB_t (Or.inr ⟨h24, h36⟩) : lsB (wgM M nv np c) a b = true)
          rw [if_pos hl, if_pos hl]
          exact Go_ret (by rw [bI_t hl]) dX9_isLess_66
