def gnF (B P : Nat → Int) (car : Nat → Nat → Int) (p v : Nat) : Int := if B v = 0 ∨ car p v = -4 then 0 else if 0 < w64 (P v - w64 (B v * car p v)) then w64 (P v - w64 (B v * car p v)) else 0
def wvT (B P K U : Nat → Int) (car : Nat → Nat → Int) (p : Nat) : Nat → Int
  | 0 => w32 (- ocF K U p)
  | v + 1 => w64 (wvT B P K U car p v + gnF B P car p v)
def wtF (B P K U : Nat → Int) (car : Nat → Nat → Int) (nv p : Nat) : Int := if wvT B P K U car p nv < 0 ∧ K p ≠ 3 then 0 else wvT B P K U car p nv
abbrev gnM (M : gMem) (p v : Nat) : Int := gnF (M 107) (M 108) (mcM M) p v
abbrev wtM (M : gMem) (nv p : Nat) : Int := wtF (M 107) (M 108) (M 111) (M 112) (mcM M) nv p
def rwS (wo : Nat → Int) (Y : Nat → Int) : Nat → (Nat → Int)
  | 0 => Y
  | p + 1 => gUp (rwS wo Y p) p (wo p)
def suS (Y : Nat → Int) (c : Nat) : Nat → Int
  | 0 => 0
  | p + 1 => w64 (suS Y c p + if c.testBit p = true then Y p else 0)
def ricS (ok : Nat → Bool) (su : Nat → Int) : Nat → Int × Int
  | 0 => (-4, 0)
  | c + 1 => if ok c = true ∧ ((ricS ok su c).1 = -4 ∨ (ricS ok su c).2 < su c) then ((c : Int), su c) else ricS ok su c
theorem ricS_nat (ok : Nat → Bool) (su : Nat → Int) : ∀ c : Nat, (ricS ok su c).1 = -4 ∨ ∃ n : Nat, n < c ∧ (ricS ok su c).1 = (n : Int)
  | 0 => Or.inl rfl
  | c + 1 => by
    simp only [ricS]
    split
    · exact Or.inr ⟨c, by omega, rfl⟩
    · rcases ricS_nat ok su c with h | ⟨n, h1, h2⟩
      · exact Or.inl h
      · exact Or.inr ⟨n, by omega, h2⟩
def riY (M : gMem) (nv np : Nat) : Nat → Int := rwS (fun p => wtM M nv p) (M 125) np
def riT (M : gMem) (nv np : Nat) : Int × Int := ricS (alP (M 111) np (M 106 9)) (fun c => suS (riY M nv np) c np) (2 ^ np)
def riM (M : gMem) (nv np : Nat) : gMem := gSet (gSet M 125 (riY M nv np)) 106 (gUp (gUp (M 106) 36 (riT M nv np).1) 37 (riT M nv np).2)
theorem MS_ri {M : gMem} {nv np : Nat} (hC : MS M nv np) : MS (riM M nv np) nv np := MS_ob (MS_row hC rfl) (agM_up (agM_up (agM_rf _) (by decide)) (by decide))
def bnF (M : gMem) (nv np : Nat) : Int := if (riT M nv np).1 = -4 then -4 else boS (M 107) (M 108) (w64 (- (riT M nv np).2)) nv
set_option maxHeartbeats 4000000 in
set_option maxRecDepth 100000 in
theorem fX9_given {D : va_G} {ca : Nat → ClassId} {M : gMem} {nv np : Nat} (hC : MS M nv np) (p v z : Nat) (hp2 : p < 10) (hv : v < 12) (ez : M 110 p = (z : Int)) (hz : z < 12) : Fn D ca mX9_given [gR 106, gI (p : Int), gI (v : Int)] SH M [gJ (gnM M p v)] SH (M) := by
  refine Fn_of okX9_given (Nat.le_of_ble_eq_true rfl) (Or.inr (Or.inr (Or.inr ⟨_, rfl, rfl⟩))) (Nat.le_refl _) (Nat.le_refl _) ?_
  refine Go_ls2 (ls' := [(0, gR 106), (1, gI _), (2, gI _)]) rfl ?_
  refine Go_aload_n 0 rfl rfl dX9_given_0 ?_
  refine Go_getR (c' := 107) faX9_7 sh_106 (pt_106_1 (M := M) hC.1) dX9_given_1 ?_
  refine Go_iload_n 2 rfl rfl dX9_given_4 ?_
  refine Go_ialoadv v (v := M 107 (v)) rfl sh_107 rfl (by omega) dX9_given_5 ?_
  refine Go_if_eq dX9_given_6 rfl (fun h6 => ?_) (fun h6 => ?_)
  · skip
    refine Go_lconst (v := 0) ⟨rfl, by unfold in64; omega⟩ dX9_given_20 ?_
    exact Go_ret (by unfold gnM gnF; first | rw [if_pos (by first | exact Or.inl h6 | exact Or.inr h17)] | rw [if_neg (by exact fun q => q.elim h6 h17), if_pos (by exact h48)] | rw [if_neg (by exact fun q => q.elim h6 h17), if_neg (by exact Int.not_lt.mpr h48)]) dX9_given_21
  · skip
    refine Go_aload_n 0 rfl rfl dX9_given_9 ?_
    refine Go_iload_n 1 rfl rfl dX9_given_10 ?_
    refine Go_iload_n 2 rfl rfl dX9_given_11 ?_
    refine Go_callVI (q := vwCl[9]) (fX9_carried hC.1 p v z (by omega) (by omega) ez hz) cwX9_115 imX9_carried rfl rfl ⟨Nat.le_of_ble_eq_true rfl, Nat.le_of_ble_eq_true rfl⟩ sh_106 rfl (Nat.le_of_ble_eq_true rfl) sh_rf dX9_given_12 ?_
    refine Go_topI (v := mcM M p v) rfl ?_
    refine Go_bipush ⟨by decide, by unfold in32; omega⟩ dX9_given_15 ?_
    refine Go_icmp_ne dX9_given_17 rfl (fun h17 => ?_) (fun h17 => ?_)
    · skip
      refine Go_aload_n 0 rfl rfl dX9_given_22 ?_
      refine Go_getR (c' := 108) faX9_13 sh_106 (pt_106_2 (M := M) hC.1) dX9_given_23 ?_
      refine Go_iload_n 2 rfl rfl dX9_given_26 ?_
      refine Go_laloadv v (v := M 108 (v)) rfl sh_108 rfl (by omega) dX9_given_27 ?_
      refine Go_aload_n 0 rfl rfl dX9_given_28 ?_
      refine Go_getR (c' := 107) faX9_7 sh_106 (pt_106_1 (M := M) hC.1) dX9_given_29 ?_
      refine Go_iload_n 2 rfl rfl dX9_given_32 ?_
      refine Go_ialoadv v (v := M 107 (v)) rfl sh_107 rfl (by omega) dX9_given_33 ?_
      refine Go_i2l dX9_given_34 ?_
      refine Go_aload_n 0 rfl rfl dX9_given_35 ?_
      refine Go_iload_n 1 rfl rfl dX9_given_36 ?_
      refine Go_iload_n 2 rfl rfl dX9_given_37 ?_
      refine Go_callVI (q := vwCl[9]) (fX9_carried hC.1 p v z (by omega) (by omega) ez hz) cwX9_115 imX9_carried rfl rfl ⟨Nat.le_of_ble_eq_true rfl, Nat.le_of_ble_eq_true rfl⟩ sh_106 rfl (Nat.le_of_ble_eq_true rfl) sh_rf dX9_given_38 ?_
      refine Go_topI (v := mcM M p v) rfl ?_
      refine Go_i2l dX9_given_41 ?_
      refine Go_lmul dX9_given_42 ?_
      refine Go_lsub dX9_given_43 ?_
      refine Go_lstore_n (ls' := [(3, gJ _), (0, gR 106), (1, gI _), (2, gI _)]) rfl dX9_given_44 (by decide) rfl ?_
      refine Go_lload_n 0 rfl rfl dX9_given_45 ?_
      refine Go_lconst (v := 0) ⟨rfl, by unfold in64; omega⟩ dX9_given_46 ?_
      refine Go_lcmp dX9_given_47 ?_
      refine Go_if_le dX9_given_48 rfl (fun h48 => ?_) (fun h48 => ?_)
      · skip
        replace h48 := cmp_le.mp h48
        refine Go_lconst (v := 0) ⟨rfl, by unfold in64; omega⟩ dX9_given_55 ?_
        exact Go_ret (by unfold gnM gnF; first | rw [if_pos (by first | exact Or.inl h6 | exact Or.inr h17)] | rw [if_neg (by exact fun q => q.elim h6 h17), if_pos (by exact h48)] | rw [if_neg (by exact fun q => q.elim h6 h17), if_neg (by exact Int.not_lt.mpr h48)]) dX9_given_56
      · skip
        replace h48 := cmp_gt.mp h48
        refine Go_lload_n 0 rfl rfl dX9_given_51 ?_
        refine Go_goto dX9_given_52 rfl ?_
        exact Go_ret (by unfold gnM gnF; first | rw [if_pos (by first | exact Or.inl h6 | exact Or.inr h17)] | rw [if_neg (by exact fun q => q.elim h6 h17), if_pos (by exact h48)] | rw [if_neg (by exact fun q => q.elim h6 h17), if_neg (by exact Int.not_lt.mpr h48)]) dX9_given_56
    · skip
      refine Go_lconst (v := 0) ⟨rfl, by unfold in64; omega⟩ dX9_given_20 ?_
      exact Go_ret (by unfold gnM gnF; first | rw [if_pos (by first | exact Or.inl h6 | exact Or.inr h17)] | rw [if_neg (by exact fun q => q.elim h6 h17), if_pos (by exact h48)] | rw [if_neg (by exact fun q => q.elim h6 h17), if_neg (by exact Int.not_lt.mpr h48)]) dX9_given_21
set_option maxHeartbeats 4000000 in
set_option maxRecDepth 100000 in
theorem fX9_worthOf {D : va_G} {ca : Nat → ClassId} {M : gMem} {nv np : Nat} (hC : MS M nv np) (hH : ∀ p, p < np → ∃ z : Nat, z < 12 ∧ M 110 p = (z : Int)) (p : Nat) (hp : p < np) : Fn D ca mX9_worthOf [gR 106, gI (p : Int)] SH M [gJ (wtM M nv p)] SH (M) := by
  refine Fn_of okX9_worthOf (Nat.le_of_ble_eq_true rfl) (Or.inr (Or.inr (Or.inr ⟨_, rfl, rfl⟩))) (Nat.le_refl _) (Nat.le_refl _) ?_
  refine Go_ls2 (ls' := [(0, gR 106), (1, gI _)]) rfl ?_
  have hv12 := hC.2.2.1
  have hn10 := hC.2.2.2.2
  obtain ⟨z, hz, ez⟩ := hH p hp
  have loop_11 : ∀ (k : Nat) (v : Nat) (x : Int), v + k = nv → wvT (M 107) (M 108) (M 111) (M 112) (mcM M) p v = x → Go D ca none (gRm mX9_worthOf (SH.length - SH.length) (gSz SH - gSz SH)) mX9_worthOf 11 [(0, gR 106), (1, gI (p : Int)), (2, gJ x), (4, gI (v : Int))] [] SH M [gJ (wtM M nv p)] SH (M) := by
    intro k
    induction k with
    | zero =>
      intro v x he hx
      obtain rfl : nv = v := by omega
      refine Go_iload 3 rfl dX9_worthOf_11 ?_
      refine Go_aload_n 0 rfl rfl dX9_worthOf_13 ?_
      refine Go_getIv (v := (nv : Int)) hC.2.1 faX9_75 sh_106 dX9_worthOf_14 ?_
      refine Go_icmp_ge dX9_worthOf_17 rfl (fun h17 => ?_) (fun h17 => ?_)
      · skip
        refine Go_lload_n 2 rfl rfl dX9_worthOf_36 ?_
        refine Go_lconst (v := 0) ⟨rfl, by unfold in64; omega⟩ dX9_worthOf_37 ?_
        refine Go_lcmp dX9_worthOf_38 ?_
        refine Go_if_ge dX9_worthOf_39 rfl (fun h39 => ?_) (fun h39 => ?_)
        · skip
          replace h39 := cmp_ge.mp h39
          refine Go_lload_n 2 rfl rfl dX9_worthOf_56 ?_
          exact Go_ret (by unfold wtM wtF; rw [hx]; first | rw [if_pos (by exact ⟨h39, h49⟩)] | rw [if_neg (by exact fun q => absurd q.1 (Int.not_lt.mpr h39))] | rw [if_neg (by exact fun q => q.2 h49)]) dX9_worthOf_57
        · skip
          replace h39 := cmp_lt.mp h39
          refine Go_aload_n 0 rfl rfl dX9_worthOf_42 ?_
          refine Go_getR (c' := 111) faX9_23 sh_106 (pt_106_6 (M := M) hC.1) dX9_worthOf_43 ?_
          refine Go_iload_n 1 rfl rfl dX9_worthOf_46 ?_
          refine Go_ialoadv p (v := M 111 (p)) rfl sh_111 rfl (by omega) dX9_worthOf_47 ?_
          refine Go_iconst (by unfold in32; omega) dX9_worthOf_48 ?_
          refine Go_icmp_eq dX9_worthOf_49 rfl (fun h49 => ?_) (fun h49 => ?_)
          · skip
            refine Go_lload_n 2 rfl rfl dX9_worthOf_56 ?_
            exact Go_ret (by unfold wtM wtF; rw [hx]; first | rw [if_pos (by exact ⟨h39, h49⟩)] | rw [if_neg (by exact fun q => absurd q.1 (Int.not_lt.mpr h39))] | rw [if_neg (by exact fun q => q.2 h49)]) dX9_worthOf_57
          · skip
            refine Go_lconst (v := 0) ⟨rfl, by unfold in64; omega⟩ dX9_worthOf_52 ?_
            refine Go_goto dX9_worthOf_53 rfl ?_
            exact Go_ret (by unfold wtM wtF; rw [hx]; first | rw [if_pos (by exact ⟨h39, h49⟩)] | rw [if_neg (by exact fun q => absurd q.1 (Int.not_lt.mpr h39))] | rw [if_neg (by exact fun q => q.2 h49)]) dX9_worthOf_57
      · skip
        exact absurd h17 (by omega)
    | succ k ih_11 =>
      intro v x he hx
      refine Go_iload 3 rfl dX9_worthOf_11 ?_
      refine Go_aload_n 0 rfl rfl dX9_worthOf_13 ?_
      refine Go_getIv (v := (nv : Int)) hC.2.1 faX9_75 sh_106 dX9_worthOf_14 ?_
      refine Go_icmp_ge dX9_worthOf_17 rfl (fun h17 => ?_) (fun h17 => ?_)
      · skip
        exact absurd h17 (by omega)
      · skip
        refine Go_lload_n 2 rfl rfl dX9_worthOf_20 ?_
        refine Go_aload_n 0 rfl rfl dX9_worthOf_21 ?_
        refine Go_iload_n 1 rfl rfl dX9_worthOf_22 ?_
        refine Go_iload 3 rfl dX9_worthOf_23 ?_
        refine Go_callVJ (q := vwCl[9]) (fX9_given hC p v z (by omega) (by omega) ez hz) cwX9_203 imX9_given rfl rfl ⟨Nat.le_of_ble_eq_true rfl, Nat.le_of_ble_eq_true rfl⟩ sh_106 rfl (Nat.le_of_ble_eq_true rfl) sh_rf dX9_worthOf_25 ?_
        refine Go_ladd dX9_worthOf_28 ?_
        refine Go_lstore_n (ls' := [(2, gJ _), (0, gR 106), (1, gI _), (4, gI _)]) rfl dX9_worthOf_29 (by decide) rfl ?_
        refine Go_iincn v 1 rfl rfl (by omega) 3 (ls' := [(4, gI _), (2, gJ _), (0, gR 106), (1, gI _)]) rfl dX9_worthOf_30 (by decide) rfl ?_
        refine Go_goto dX9_worthOf_33 rfl ?_
        refine Go_pick [2, 3, 1, 0] (ls' := [(0, gR 106), (1, gI _), (2, gJ _), (4, gI _)]) rfl ?_
        exact ih_11 (v + 1) _ (by omega) (by simp only [wvT, hx])
  refine Go_aload_n 0 rfl rfl dX9_worthOf_0 ?_
  refine Go_iload_n 1 rfl rfl dX9_worthOf_1 ?_
  refine Go_callVI (q := vwCl[9]) (fX9_ovenCost hC.1 p (by omega)) cwX9_129 imX9_ovenCost rfl rfl ⟨Nat.le_of_ble_eq_true rfl, Nat.le_of_ble_eq_true rfl⟩ sh_106 rfl (Nat.le_of_ble_eq_true rfl) sh_rf dX9_worthOf_2 ?_
  refine Go_ineg dX9_worthOf_5 ?_
  refine Go_i2l dX9_worthOf_6 ?_
  refine Go_lstore_n (ls' := [(2, gJ _), (0, gR 106), (1, gI _)]) rfl dX9_worthOf_7 (by decide) rfl ?_
  refine Go_iconst (by unfold in32; omega) dX9_worthOf_8 ?_
  refine Go_istore (ls' := [(4, gI _), (2, gJ _), (0, gR 106), (1, gI _)]) dX9_worthOf_9 (by decide) rfl ?_
  refine Go_pick [2, 3, 1, 0] (ls' := [(0, gR 106), (1, gI _), (2, gJ _), (4, gI _)]) rfl ?_
  exact loop_11 nv 0 _ (by omega) rfl
theorem u2_36 (f : Nat → Int) (x36 x37 y : Int) : gUp (gUp (gUp f 36 (x36)) 37 (x37)) 36 y = gUp (gUp f 36 (y)) 37 (x37) := by
  rw [gUp_cm (i := 37) (j := 36) (by decide), gUp_uu]
theorem u2_37 (f : Nat → Int) (x36 x37 y : Int) : gUp (gUp (gUp f 36 (x36)) 37 (x37)) 37 y = gUp (gUp f 36 (x36)) 37 (y) := by
  rw [gUp_uu]
set_option maxHeartbeats 4000000 in
set_option maxRecDepth 100000 in
theorem fX9_findRichest {D : va_G} {ca : Nat → ClassId} {M : gMem} {nv np : Nat} (hC : MS M nv np) (hH : ∀ p, p < np → ∃ z : Nat, z < 12 ∧ M 110 p = (z : Int)) : Fn D ca mX9_findRichest [gR 106] SH M [] SH (riM M nv np) := by
  refine Fn_of okX9_findRichest (Nat.le_of_ble_eq_true rfl) (Or.inl ⟨rfl, rfl⟩) (Nat.le_refl _) (Nat.le_refl _) ?_
  refine Go_ls2 (ls' := [(0, gR 106)]) rfl ?_
  have hv12 := hC.2.2.1
  have hn10 := hC.2.2.2.2
  have hpw := p10 hn10
  refine Go_o 125 ?_
  have loop_40 : ∀ (k : Nat) (c : Nat) (b l : Int), c + k = 2 ^ np → ricS (alP (M 111) np (M 106 9)) (fun c => suS (riY M nv np) c np) c = (b, l) → Go D ca none (gRm mX9_findRichest (SH.length - SH.length) (gSz SH - gSz SH)) mX9_findRichest 40 [(0, gR 106), (1, gI (c : Int))] [] SH (gSet (gSet M 125 (riY M nv np)) 106 (gUp (gUp ((M 106)) 36 (b)) 37 (l))) [] SH (riM M nv np) := by
    intro k
    induction k with
    | zero =>
      intro c b l he hx
      have ec : c = 2 ^ np := by omega
      subst ec
      refine Go_iload_n 1 rfl rfl dX9_findRichest_40 ?_
      refine Go_iconst (by unfold in32; omega) dX9_findRichest_41 ?_
      refine Go_aload_n 0 rfl rfl dX9_findRichest_42 ?_
      refine Go_getIv (j := 4) (v := (np : Int)) hC.2.2.2.1 faX9_78 sh_106 dX9_findRichest_43 ?_
      refine Go_ishl dX9_findRichest_46 ?_
      refine Go_topI (v := ((2 ^ np : Nat) : Int)) (sh1 hn10) ?_
      refine Go_icmp_ge dX9_findRichest_47 rfl (fun h47 => ?_) (fun h47 => ?_)
      · skip
        rw [show riM M nv np = gSet (gSet M 125 (riY M nv np)) 106 (gUp (gUp ((M 106)) 36 (b)) 37 (l)) from by unfold riM riT; rw [hx]]
        exact Go_ret rfl dX9_findRichest_136
      · skip
        exact absurd h47 (by omega)
    | succ k ih_40 =>
      intro c b l he hx
      have loop_63 : alP (M 111) np (M 106 9) c = true → ∀ (k : Nat) (p : Nat) (x : Int), p + k = np → suS (riY M nv np) c p = x → Go D ca none (gRm mX9_findRichest (SH.length - SH.length) (gSz SH - gSz SH)) mX9_findRichest 63 [(0, gR 106), (1, gI (c : Int)), (2, gJ x), (4, gI (p : Int))] [] SH (gSet (gSet M 125 (riY M nv np)) 106 (gUp (gUp ((M 106)) 36 (b)) 37 (l))) [] SH (riM M nv np) := by
        intro h55 k
        induction k with
        | zero =>
          intro p x hp hy
          obtain rfl : np = p := by omega
          refine Go_iload 3 rfl dX9_findRichest_63 ?_
          refine Go_aload_n 0 rfl rfl dX9_findRichest_65 ?_
          refine Go_getIv (j := 4) (v := (np : Int)) hC.2.2.2.1 faX9_78 sh_106 dX9_findRichest_66 ?_
          refine Go_icmp_ge dX9_findRichest_69 rfl (fun h69 => ?_) (fun h69 => ?_)
          · skip
            refine Go_aload_n 0 rfl rfl dX9_findRichest_102 ?_
            refine Go_getIv (j := 36) (v := b) rfl faX9_211 sh_106 dX9_findRichest_103 ?_
            refine Go_bipush ⟨by decide, by unfold in32; omega⟩ dX9_findRichest_106 ?_
            refine Go_icmp_eq dX9_findRichest_108 rfl (fun h108 => ?_) (fun h108 => ?_)
            · skip
              refine Go_aload_n 0 rfl rfl dX9_findRichest_120 ?_
              refine Go_iload_n 1 rfl rfl dX9_findRichest_121 ?_
              refine Go_putIS fpX9_211 sh_106 dX9_findRichest_122 ?_
              refine Go_M (congrArg (gSet ((gSet M 125 (riY M nv np))) 106) (u2_36 _ _ _ _)) ?_
              refine Go_aload_n 0 rfl rfl dX9_findRichest_125 ?_
              refine Go_lload_n 2 rfl rfl dX9_findRichest_126 ?_
              refine Go_putJS fpX9_214 sh_106 dX9_findRichest_127 ?_
              refine Go_M (congrArg (gSet ((gSet M 125 (riY M nv np))) 106) (u2_37 _ _ _ _)) ?_
              refine Go_iincn c 1 rfl rfl (by omega) 1 (ls' := [(1, gI _), (0, gR 106), (2, gJ _), (4, gI _)]) rfl dX9_findRichest_130 (by decide) rfl ?_
              refine Go_goto dX9_findRichest_133 rfl ?_
              refine Go_pick [1, 0] (ls' := [(0, gR 106), (1, gI _)]) rfl ?_
              exact ih_40 (c + 1) _ _ (by omega) (by simp only [ricS, hx, hy]; rw [if_pos (by exact ⟨h55, Or.inl h108⟩)])
            · skip
              refine Go_lload_n 2 rfl rfl dX9_findRichest_111 ?_
              refine Go_aload_n 0 rfl rfl dX9_findRichest_112 ?_
              refine Go_getJv (j := 37) (v := l) rfl faX9_214 sh_106 dX9_findRichest_113 ?_
              refine Go_lcmp dX9_findRichest_116 ?_
              refine Go_if_le dX9_findRichest_117 rfl (fun h117 => ?_) (fun h117 => ?_)
              · skip
                replace h117 := cmp_le.mp h117
                refine Go_iincn c 1 rfl rfl (by omega) 1 (ls' := [(1, gI _), (0, gR 106), (2, gJ _), (4, gI _)]) rfl dX9_findRichest_130 (by decide) rfl ?_
                refine Go_goto dX9_findRichest_133 rfl ?_
                refine Go_pick [1, 0] (ls' := [(0, gR 106), (1, gI _)]) rfl ?_
                exact ih_40 (c + 1) _ _ (by omega) (by simp only [ricS, hx, hy]; rw [if_neg (by exact fun q => q.2.elim h108 (fun w => absurd w (Int.not_lt.mpr h117)))])
              · skip
                replace h117 := cmp_gt.mp h117
                refine Go_aload_n 0 rfl rfl dX9_findRichest_120 ?_
                refine Go_iload_n 1 rfl rfl dX9_findRichest_121 ?_
                refine Go_putIS fpX9_211 sh_106 dX9_findRichest_122 ?_
                refine Go_M (congrArg (gSet ((gSet M 125 (riY M nv np))) 106) (u2_36 _ _ _ _)) ?_
                refine Go_aload_n 0 rfl rfl dX9_findRichest_125 ?_
                refine Go_lload_n 2 rfl rfl dX9_findRichest_126 ?_
                refine Go_putJS fpX9_214 sh_106 dX9_findRichest_127 ?_
                refine Go_M (congrArg (gSet ((gSet M 125 (riY M nv np))) 106) (u2_37 _ _ _ _)) ?_
                refine Go_iincn c 1 rfl rfl (by omega) 1 (ls' := [(1, gI _), (0, gR 106), (2, gJ _), (4, gI _)]) rfl dX9_findRichest_130 (by decide) rfl ?_
                refine Go_goto dX9_findRichest_133 rfl ?_
                refine Go_pick [1, 0] (ls' := [(0, gR 106), (1, gI _)]) rfl ?_
                exact ih_40 (c + 1) _ _ (by omega) (by simp only [ricS, hx, hy]; rw [if_pos (by exact ⟨h55, Or.inr h117⟩)])
          · skip
            exact absurd h69 (by omega)
        | succ k ih_63 =>
          intro p x hp hy
          refine Go_iload 3 rfl dX9_findRichest_63 ?_
          refine Go_aload_n 0 rfl rfl dX9_findRichest_65 ?_
          refine Go_getIv (j := 4) (v := (np : Int)) hC.2.2.2.1 faX9_78 sh_106 dX9_findRichest_66 ?_
          refine Go_icmp_ge dX9_findRichest_69 rfl (fun h69 => ?_) (fun h69 => ?_)
          · skip
            exact absurd h69 (by omega)
          · skip
            refine Go_lload_n 2 rfl rfl dX9_findRichest_72 ?_
            refine Go_iload_n 1 rfl rfl dX9_findRichest_73 ?_
            refine Go_iload 3 rfl dX9_findRichest_74 ?_
            refine Go_ishr dX9_findRichest_76 ?_
            refine Go_iconst (by unfold in32; omega) dX9_findRichest_77 ?_
            refine Go_iand dX9_findRichest_78 ?_
            refine Go_topI (v := bI (c.testBit p = true)) (bit_s (by omega) (by omega)) ?_
            refine Go_iconst (by unfold in32; omega) dX9_findRichest_79 ?_
            refine Go_icmp_ne dX9_findRichest_80 rfl (fun h80 => ?_) (fun h80 => ?_)
            · skip
              have hb : ¬ c.testBit p = true := fun q => h80 (bI_t q)
              refine Go_lconst (v := 0) ⟨rfl, by unfold in64; omega⟩ dX9_findRichest_93 ?_
              refine Go_ladd dX9_findRichest_94 ?_
              refine Go_lstore_n (ls' := [(2, gJ _), (0, gR 106), (1, gI _), (4, gI _)]) rfl dX9_findRichest_95 (by decide) rfl ?_
              refine Go_iincn p 1 rfl rfl (by omega) 3 (ls' := [(4, gI _), (2, gJ _), (0, gR 106), (1, gI _)]) rfl dX9_findRichest_96 (by decide) rfl ?_
              refine Go_goto dX9_findRichest_99 rfl ?_
              refine Go_pick [2, 3, 1, 0] (ls' := [(0, gR 106), (1, gI _), (2, gJ _), (4, gI _)]) rfl ?_
              exact ih_63 (p + 1) _ (by omega) (by simp only [suS, hy]; first | rw [if_pos (by exact hb)] | rw [if_neg (by exact hb)])
            · skip
              have hb : c.testBit p = true := bI_n.mp (by rw [h80]; decide)
              refine Go_aload_n 0 rfl rfl dX9_findRichest_83 ?_
              refine Go_getR (c' := 125) faX9_69 sh_106 (pt_106_35 (M := M) hC.1) dX9_findRichest_84 ?_
              refine Go_iload 3 rfl dX9_findRichest_87 ?_
              refine Go_laloadv p (v := riY M nv np (p)) rfl sh_125 rfl (by omega) dX9_findRichest_89 ?_
              refine Go_goto dX9_findRichest_90 rfl ?_
              refine Go_ladd dX9_findRichest_94 ?_
              refine Go_lstore_n (ls' := [(2, gJ _), (0, gR 106), (1, gI _), (4, gI _)]) rfl dX9_findRichest_95 (by decide) rfl ?_
              refine Go_iincn p 1 rfl rfl (by omega) 3 (ls' := [(4, gI _), (2, gJ _), (0, gR 106), (1, gI _)]) rfl dX9_findRichest_96 (by decide) rfl ?_
              refine Go_goto dX9_findRichest_99 rfl ?_
              refine Go_pick [2, 3, 1, 0] (ls' := [(0, gR 106), (1, gI _), (2, gJ _), (4, gI _)]) rfl ?_
              exact ih_63 (p + 1) _ (by omega) (by simp only [suS, hy]; first | rw [if_pos (by exact hb)] | rw [if_neg (by exact hb)])
      refine Go_iload_n 1 rfl rfl dX9_findRichest_40 ?_
      refine Go_iconst (by unfold in32; omega) dX9_findRichest_41 ?_
      refine Go_aload_n 0 rfl rfl dX9_findRichest_42 ?_
      refine Go_getIv (j := 4) (v := (np : Int)) hC.2.2.2.1 faX9_78 sh_106 dX9_findRichest_43 ?_
      refine Go_ishl dX9_findRichest_46 ?_
      refine Go_topI (v := ((2 ^ np : Nat) : Int)) (sh1 hn10) ?_
      refine Go_icmp_ge dX9_findRichest_47 rfl (fun h47 => ?_) (fun h47 => ?_)
      · skip
        exact absurd h47 (by omega)
      · skip
        refine Go_aload_n 0 rfl rfl dX9_findRichest_50 ?_
        refine Go_iload_n 1 rfl rfl dX9_findRichest_51 ?_
        refine Go_callVI (q := vwCl[9]) (fX9_isAllowed (MS_ob (MS_row (i := 125) (r := riY M nv np) hC rfl) (agM_up (agM_up (agM_rf _) (by decide)) (by decide))) c (by omega)) cwX9_139 imX9_isAllowed rfl rfl ⟨Nat.le_of_ble_eq_true rfl, Nat.le_of_ble_eq_true rfl⟩ sh_106 rfl (Nat.le_of_ble_eq_true rfl) sh_rf dX9_findRichest_52 ?_
        refine Go_if_eq dX9_findRichest_55 rfl (fun h55 => ?_) (fun h55 => ?_)
        · skip
          replace h55 := bI_0.mp h55
          refine Go_iincn c 1 rfl rfl (by omega) 1 (ls' := [(1, gI _), (0, gR 106)]) rfl dX9_findRichest_130 (by decide) rfl ?_
          refine Go_goto dX9_findRichest_133 rfl ?_
          refine Go_pick [1, 0] (ls' := [(0, gR 106), (1, gI _)]) rfl ?_
          exact ih_40 (c + 1) _ _ (by omega) (by simp only [ricS, hx]; rw [if_neg (by exact fun q => h55 q.1)])
        · skip
          replace h55 := bI_n.mp h55
          refine Go_lconst (v := 0) ⟨rfl, by unfold in64; omega⟩ dX9_findRichest_58 ?_
          refine Go_lstore_n (ls' := [(2, gJ _), (0, gR 106), (1, gI _)]) rfl dX9_findRichest_59 (by decide) rfl ?_
          refine Go_iconst (by unfold in32; omega) dX9_findRichest_60 ?_
          refine Go_istore (ls' := [(4, gI _), (2, gJ _), (0, gR 106), (1, gI _)]) dX9_findRichest_61 (by decide) rfl ?_
          refine Go_pick [2, 3, 1, 0] (ls' := [(0, gR 106), (1, gI _), (2, gJ _), (4, gI _)]) rfl ?_
          exact loop_63 h55 np 0 _ (by omega) rfl
  have loop_2 : ∀ (k : Nat) (p : Nat) (y : Nat → Int), p + k = np → rwS (fun p => wtM M nv p) (M 125) p = y → Go D ca none (gRm mX9_findRichest (SH.length - SH.length) (gSz SH - gSz SH)) mX9_findRichest 2 [(0, gR 106), (1, gI (p : Int))] [] SH (gSet M 125 y) [] SH (riM M nv np) := by
    intro k
    induction k with
    | zero =>
      intro p y he hx
      obtain rfl : np = p := by omega
      subst hx
      refine Go_M (M2 := (gSet M 125 (riY M nv np))) rfl ?_
      refine Go_iload_n 1 rfl rfl dX9_findRichest_2 ?_
      refine Go_aload_n 0 rfl rfl dX9_findRichest_3 ?_
      refine Go_getIv (j := 4) (v := (np : Int)) hC.2.2.2.1 faX9_78 sh_106 dX9_findRichest_4 ?_
      refine Go_icmp_ge dX9_findRichest_7 rfl (fun h7 => ?_) (fun h7 => ?_)
      · skip
        refine Go_o 106 ?_
        refine Go_aload_n 0 rfl rfl dX9_findRichest_27 ?_
        refine Go_bipush ⟨by decide, by unfold in32; omega⟩ dX9_findRichest_28 ?_
        refine Go_putIS fpX9_211 sh_106 dX9_findRichest_30 ?_
        refine Go_aload_n 0 rfl rfl dX9_findRichest_33 ?_
        refine Go_lconst (v := 0) ⟨rfl, by unfold in64; omega⟩ dX9_findRichest_34 ?_
        refine Go_putJS fpX9_214 sh_106 dX9_findRichest_35 ?_
        refine Go_M (M2 := gSet (gSet M 125 (riY M nv np)) 106 (gUp (gUp ((M 106)) 36 (-4)) 37 (0))) rfl ?_
        refine Go_iconst (by unfold in32; omega) dX9_findRichest_38 ?_
        refine Go_istore_n (ls' := [(1, gI _), (0, gR 106)]) rfl dX9_findRichest_39 (by decide) rfl ?_
        refine Go_pick [1, 0] (ls' := [(0, gR 106), (1, gI _)]) rfl ?_
        exact loop_40 (2 ^ np) 0 _ _ (by omega) rfl
      · skip
        exact absurd h7 (by omega)
    | succ k ih_2 =>
      intro p y he hx
      refine Go_iload_n 1 rfl rfl dX9_findRichest_2 ?_
      refine Go_aload_n 0 rfl rfl dX9_findRichest_3 ?_
      refine Go_getIv (j := 4) (v := (np : Int)) hC.2.2.2.1 faX9_78 sh_106 dX9_findRichest_4 ?_
      refine Go_icmp_ge dX9_findRichest_7 rfl (fun h7 => ?_) (fun h7 => ?_)
      · skip
        exact absurd h7 (by omega)
      · skip
        refine Go_aload_n 0 rfl rfl dX9_findRichest_10 ?_
        refine Go_getR (c' := 125) faX9_69 sh_106 (pt_106_35 (M := M) hC.1) dX9_findRichest_11 ?_
        refine Go_iload_n 1 rfl rfl dX9_findRichest_14 ?_
        refine Go_aload_n 0 rfl rfl dX9_findRichest_15 ?_
        refine Go_iload_n 1 rfl rfl dX9_findRichest_16 ?_
        refine Go_callVJ (q := vwCl[9]) (fX9_worthOf (MS_row (i := 125) (r := y) hC rfl) hH p (by omega)) cwX9_207 imX9_worthOf rfl rfl ⟨Nat.le_of_ble_eq_true rfl, Nat.le_of_ble_eq_true rfl⟩ sh_106 rfl (Nat.le_of_ble_eq_true rfl) sh_rf dX9_findRichest_17 ?_
        refine Go_topJ (v := wtM M nv p) rfl ?_
        refine Go_lastoreS p sh_125 rfl (by omega) dX9_findRichest_20 ?_
        refine Go_iincn p 1 rfl rfl (by omega) 1 (ls' := [(1, gI _), (0, gR 106)]) rfl dX9_findRichest_21 (by decide) rfl ?_
        refine Go_goto dX9_findRichest_24 rfl ?_
        refine Go_pick [1, 0] (ls' := [(0, gR 106), (1, gI _)]) rfl ?_
        exact ih_2 (p + 1) _ (by omega) (by simp only [rwS, hx])
  refine Go_iconst (by unfold in32; omega) dX9_findRichest_0 ?_
  refine Go_istore_n (ls' := [(1, gI _), (0, gR 106)]) rfl dX9_findRichest_1 (by decide) rfl ?_
  refine Go_pick [1, 0] (ls' := [(0, gR 106), (1, gI _)]) rfl ?_
  exact loop_2 np 0 _ (by omega) rfl
set_option maxHeartbeats 4000000 in
set_option maxRecDepth 100000 in
theorem fX9_boundNow {D : va_G} {ca : Nat → ClassId} {M : gMem} {nv np : Nat} (hC : MS M nv np) (hH : ∀ p, p < np → ∃ z : Nat, z < 12 ∧ M 110 p = (z : Int)) : Fn D ca mX9_boundNow [gR 106] SH M [gJ (bnF M nv np)] SH (riM M nv np) := by
  refine Fn_of okX9_boundNow (Nat.le_of_ble_eq_true rfl) (Or.inr (Or.inr (Or.inr ⟨_, rfl, rfl⟩))) (Nat.le_refl _) (Nat.le_refl _) ?_
  refine Go_ls2 (ls' := [(0, gR 106)]) rfl ?_
  have hv12 := hC.2.2.1
  have hn10 := hC.2.2.2.2
  have loop_25 : ∀ (k : Nat) (hr : (riT M nv np).1 ≠ -4) (v : Nat) (x : Int), v + k = nv → boS (M 107) (M 108) (w64 (- (riT M nv np).2)) v = x → Go D ca none (gRm mX9_boundNow (SH.length - SH.length) (gSz SH - gSz SH)) mX9_boundNow 25 [(0, gR 106), (1, gJ x), (3, gI (v : Int))] [] SH (riM M nv np) [gJ (bnF M nv np)] SH (riM M nv np) := by
    intro k
    induction k with
    | zero =>
      intro hr v x he hx
      obtain rfl : nv = v := by omega
      refine Go_iload_n 2 rfl rfl dX9_boundNow_25 ?_
      refine Go_aload_n 0 rfl rfl dX9_boundNow_26 ?_
      refine Go_getIv (j := 0) (v := (nv : Int)) hC.2.1 faX9_75 sh_106 dX9_boundNow_27 ?_
      refine Go_icmp_ge dX9_boundNow_30 rfl (fun h30 => ?_) (fun h30 => ?_)
      · skip
        refine Go_lload_n 1 rfl rfl dX9_boundNow_61 ?_
        exact Go_ret (by unfold bnF; rw [if_neg (by exact hr), hx]) dX9_boundNow_62
      · skip
        exact absurd h30 (by omega)
    | succ k ih_25 =>
      intro hr v x he hx
      refine Go_iload_n 2 rfl rfl dX9_boundNow_25 ?_
      refine Go_aload_n 0 rfl rfl dX9_boundNow_26 ?_
      refine Go_getIv (j := 0) (v := (nv : Int)) hC.2.1 faX9_75 sh_106 dX9_boundNow_27 ?_
      refine Go_icmp_ge dX9_boundNow_30 rfl (fun h30 => ?_) (fun h30 => ?_)
      · skip
        exact absurd h30 (by omega)
      · skip
        refine Go_lload_n 1 rfl rfl dX9_boundNow_33 ?_
        refine Go_aload_n 0 rfl rfl dX9_boundNow_34 ?_
        refine Go_getR (c' := 107) faX9_7 sh_106 (pt_106_1 (M := M) hC.1) dX9_boundNow_35 ?_
        refine Go_iload_n 2 rfl rfl dX9_boundNow_38 ?_
        refine Go_ialoadv v (v := M 107 (v)) rfl sh_107 rfl (by omega) dX9_boundNow_39 ?_
        refine Go_if_le dX9_boundNow_40 rfl (fun h40 => ?_) (fun h40 => ?_)
        · skip
          refine Go_lconst (v := 0) ⟨rfl, by unfold in64; omega⟩ dX9_boundNow_52 ?_
          refine Go_ladd dX9_boundNow_53 ?_
          refine Go_lstore_n (ls' := [(1, gJ _), (0, gR 106), (3, gI _)]) rfl dX9_boundNow_54 (by decide) rfl ?_
          refine Go_iincn v 1 rfl rfl (by omega) 2 (ls' := [(3, gI _), (1, gJ _), (0, gR 106)]) rfl dX9_boundNow_55 (by decide) rfl ?_
          refine Go_goto dX9_boundNow_58 rfl ?_
          refine Go_pick [2, 1, 0] (ls' := [(0, gR 106), (1, gJ _), (3, gI _)]) rfl ?_
          exact ih_25 hr (v + 1) _ (by omega) (by simp only [boS, hx]; repeat (first | rw [if_pos (by omega)] | rw [if_neg (by omega)]))
        · skip
          refine Go_aload_n 0 rfl rfl dX9_boundNow_43 ?_
          refine Go_getR (c' := 108) faX9_13 sh_106 (pt_106_2 (M := M) hC.1) dX9_boundNow_44 ?_
          refine Go_iload_n 2 rfl rfl dX9_boundNow_47 ?_
          refine Go_laloadv v (v := M 108 (v)) rfl sh_108 rfl (by omega) dX9_boundNow_48 ?_
          refine Go_goto dX9_boundNow_49 rfl ?_
          refine Go_ladd dX9_boundNow_53 ?_
          refine Go_lstore_n (ls' := [(1, gJ _), (0, gR 106), (3, gI _)]) rfl dX9_boundNow_54 (by decide) rfl ?_
          refine Go_iincn v 1 rfl rfl (by omega) 2 (ls' := [(3, gI _), (1, gJ _), (0, gR 106)]) rfl dX9_boundNow_55 (by decide) rfl ?_
          refine Go_goto dX9_boundNow_58 rfl ?_
          refine Go_pick [2, 1, 0] (ls' := [(0, gR 106), (1, gJ _), (3, gI _)]) rfl ?_
          exact ih_25 hr (v + 1) _ (by omega) (by simp only [boS, hx]; repeat (first | rw [if_pos (by omega)] | rw [if_neg (by omega)]))
  refine Go_aload_n 0 rfl rfl dX9_boundNow_0 ?_
  refine Go_callV0 (q := vwCl[9]) (fX9_findRichest hC hH) cwX9_217 imX9_findRichest rfl rfl ⟨Nat.le_of_ble_eq_true rfl, Nat.le_of_ble_eq_true rfl⟩ sh_106 rfl (Nat.le_of_ble_eq_true rfl) sh_rf dX9_boundNow_1 ?_
  refine Go_aload_n 0 rfl rfl dX9_boundNow_4 ?_
  refine Go_getIv (j := 36) (v := (riT M nv np).1) rfl faX9_211 sh_106 dX9_boundNow_5 ?_
  refine Go_bipush ⟨by decide, by unfold in32; omega⟩ dX9_boundNow_8 ?_
  refine Go_icmp_ne dX9_boundNow_10 rfl (fun h10 => ?_) (fun h10 => ?_)
  · skip
    refine Go_aload_n 0 rfl rfl dX9_boundNow_17 ?_
    refine Go_getJv (j := 37) (v := (riT M nv np).2) rfl faX9_214 sh_106 dX9_boundNow_18 ?_
    refine Go_lneg dX9_boundNow_21 ?_
    refine Go_lstore_n (ls' := [(1, gJ _), (0, gR 106)]) rfl dX9_boundNow_22 (by decide) rfl ?_
    refine Go_iconst (by unfold in32; omega) dX9_boundNow_23 ?_
    refine Go_istore_n (ls' := [(3, gI _), (1, gJ _), (0, gR 106)]) rfl dX9_boundNow_24 (by decide) rfl ?_
    refine Go_pick [2, 1, 0] (ls' := [(0, gR 106), (1, gJ _), (3, gI _)]) rfl ?_
    exact loop_25 nv h10 0 _ (by omega) rfl
  · skip
    refine Go_ldc2 klX9_148 (by unfold in64; omega) dX9_boundNow_13 ?_
    exact Go_ret (by unfold bnF; rw [if_pos (by exact h10)]) dX9_boundNow_16
