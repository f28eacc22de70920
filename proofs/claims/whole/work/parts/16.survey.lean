theorem sh1 {n : Nat} (h : n ≤ 10) : l32 1 (n : Int) = ((2 ^ n : Nat) : Int) := by
  have h2 : 2 ^ n ≤ 2 ^ 10 := Nat.pow_le_pow_right (by decide) h
  have e0 := l32n (a := 1) (k := n) (by omega) (by rw [Nat.one_mul]; omega)
  rw [Nat.one_mul] at e0
  exact e0
theorem p10 {n : Nat} (h : n ≤ 10) : 2 ^ n ≤ 1024 := Nat.pow_le_pow_right (n := 2) (by decide) h
def ncF (f : Nat → Int) (c x : Int) : Nat → Int :=
  if x < f 0 then gUp (gUp (gUp (gUp (gUp (gUp (gUp f 5 (f 0)) 6 (f 1)) 0 x) 1 c) 2 1) 3 c) 4 c
  else if x = f 0 then (if x < f 5 then gUp (gUp (gUp (gUp (gUp f 2 (w32 (f 2 + 1))) 3 (a32 (f 3) c)) 4 (r32 (f 4) c)) 5 x) 6 c else gUp (gUp (gUp f 2 (w32 (f 2 + 1))) 3 (a32 (f 3) c)) 4 (r32 (f 4) c))
  else if x < f 5 then gUp (gUp f 5 x) 6 c else f
def nlS (c : Nat) (x : Int) (w : Nat → Int) : Nat → (Nat → Int)
  | 0 => w
  | p + 1 => if c.testBit p = true then nlS c x w p else gUp (nlS c x w p) p (min (nlS c x w p p) x)
def nfF (f : Nat → Int) (c x : Int) : Nat → Int := if x < f 7 then gUp (gUp f 7 x) 8 c else f
def fgF (f : Nat → Int) : Nat → Int := gUp (gUp (gUp (gUp (gUp (gUp (gUp (gUp (gUp f 0 9223372036854775807) 1 (-4)) 2 0) 3 0) 4 0) 5 9223372036854775807) 6 (-4)) 7 1000000) 8 (-4)
def fgW (w : Nat → Int) : Nat → (Nat → Int)
  | 0 => w
  | p + 1 => gUp (fgW w p) p 9223372036854775807
def tkS (ok : Nat → Bool) (ms fr : Nat → Int) (f w : Nat → Int) : Nat → (Nat → Int) × (Nat → Int)
  | 0 => (f, w)
  | c + 1 => if ok c = true ∧ ms c < 1099511627776 then (nfF (ncF (tkS ok ms fr f w c).1 (c : Int) (ms c)) (c : Int) (fr c), nlS c (ms c) (tkS ok ms fr f w c).2 10) else tkS ok ms fr f w c
def dlS (K w : Nat → Int) : Nat → Int × Int
  | 0 => (-4, -1)
  | p + 1 => if K p ≠ 3 ∧ (dlS K w p).2 < w p then ((p : Int), w p) else dlS K w p
set_option maxHeartbeats 4000000 in
set_option maxRecDepth 100000 in
theorem fX5_noteCost {D : va_G} {ca : Nat → ClassId} {M : gMem} (f : Nat → Int) (c : Nat) (x : Int) : Fn D ca mX5_noteCost [gR 92, gI (c : Int), gJ x] SH (gSet M 92 f) [] SH (gSet M 92 (ncF f (c : Int) x)) := by
  refine Fn_of okX5_noteCost (Nat.le_of_ble_eq_true rfl) (Or.inl ⟨rfl, rfl⟩) (Nat.le_refl _) (Nat.le_refl _) ?_
  refine Go_ls2 (ls' := [(0, gR 92), (1, gI _), (2, gJ _)]) rfl ?_
  refine Go_lload_n 2 rfl rfl dX5_noteCost_0 ?_
  refine Go_aload_n 0 rfl rfl dX5_noteCost_1 ?_
  refine Go_getJ faX5_57 sh_92 dX5_noteCost_2 ?_
  refine Go_lcmp dX5_noteCost_5 ?_
  refine Go_if_ge dX5_noteCost_6 rfl (fun h6 => ?_) (fun h6 => ?_)
  · skip
    replace h6 := cmp_ge.mp h6
    refine Go_lload_n 2 rfl rfl dX5_noteCost_51 ?_
    refine Go_aload_n 0 rfl rfl dX5_noteCost_52 ?_
    refine Go_getJ faX5_57 sh_92 dX5_noteCost_53 ?_
    refine Go_lcmp dX5_noteCost_56 ?_
    refine Go_if_ne dX5_noteCost_57 rfl (fun h57 => ?_) (fun h57 => ?_)
    · skip
      replace h57 := cmp_ne.mp h57
      refine Go_lload_n 2 rfl rfl dX5_noteCost_90 ?_
      refine Go_aload_n 0 rfl rfl dX5_noteCost_91 ?_
      refine Go_getJ faX5_73 sh_92 dX5_noteCost_92 ?_
      refine Go_lcmp dX5_noteCost_95 ?_
      refine Go_if_ge dX5_noteCost_96 rfl (fun h96 => ?_) (fun h96 => ?_)
      · skip
        replace h96 := cmp_ge.mp h96
        rw [show ncF f (c : Int) x = _ from (if_neg (by exact Int.not_lt.mpr h6)).trans ((if_neg (by exact h57)).trans (if_neg (by exact Int.not_lt.mpr h96)))]
        exact Go_ret rfl dX5_noteCost_109
      · skip
        replace h96 := cmp_lt.mp h96
        refine Go_aload_n 0 rfl rfl dX5_noteCost_99 ?_
        refine Go_lload_n 2 rfl rfl dX5_noteCost_100 ?_
        refine Go_putJS fpX5_73 sh_92 dX5_noteCost_101 ?_
        refine Go_aload_n 0 rfl rfl dX5_noteCost_104 ?_
        refine Go_iload_n 1 rfl rfl dX5_noteCost_105 ?_
        refine Go_putIS fpX5_76 sh_92 dX5_noteCost_106 ?_
        rw [show ncF f (c : Int) x = _ from (if_neg (by exact Int.not_lt.mpr h6)).trans ((if_neg (by exact h57)).trans (if_pos (by exact h96)))]
        exact Go_ret rfl dX5_noteCost_109
    · skip
      replace h57 := cmp_eq.mp h57
      refine Go_aload_n 0 rfl rfl dX5_noteCost_60 ?_
      refine Go_dupR dX5_noteCost_61 ?_
      refine Go_getI faX5_64 sh_92 dX5_noteCost_62 ?_
      refine Go_iconst (by unfold in32; omega) dX5_noteCost_65 ?_
      refine Go_iadd dX5_noteCost_66 ?_
      refine Go_putIS fpX5_64 sh_92 dX5_noteCost_67 ?_
      refine Go_aload_n 0 rfl rfl dX5_noteCost_70 ?_
      refine Go_dupR dX5_noteCost_71 ?_
      refine Go_getI faX5_67 sh_92 dX5_noteCost_72 ?_
      refine Go_iload_n 1 rfl rfl dX5_noteCost_75 ?_
      refine Go_iand dX5_noteCost_76 ?_
      refine Go_putIS fpX5_67 sh_92 dX5_noteCost_77 ?_
      refine Go_aload_n 0 rfl rfl dX5_noteCost_80 ?_
      refine Go_dupR dX5_noteCost_81 ?_
      refine Go_getI faX5_70 sh_92 dX5_noteCost_82 ?_
      refine Go_iload_n 1 rfl rfl dX5_noteCost_85 ?_
      refine Go_ior dX5_noteCost_86 ?_
      refine Go_putIS fpX5_70 sh_92 dX5_noteCost_87 ?_
      refine Go_lload_n 2 rfl rfl dX5_noteCost_90 ?_
      refine Go_aload_n 0 rfl rfl dX5_noteCost_91 ?_
      refine Go_getJ faX5_73 sh_92 dX5_noteCost_92 ?_
      refine Go_lcmp dX5_noteCost_95 ?_
      refine Go_if_ge dX5_noteCost_96 rfl (fun h96 => ?_) (fun h96 => ?_)
      · skip
        replace h96 := cmp_ge.mp h96
        rw [show ncF f (c : Int) x = _ from (if_neg (by exact Int.not_lt.mpr h6)).trans ((if_pos (by exact h57)).trans (if_neg (by exact Int.not_lt.mpr h96)))]
        exact Go_ret rfl dX5_noteCost_109
      · skip
        replace h96 := cmp_lt.mp h96
        refine Go_aload_n 0 rfl rfl dX5_noteCost_99 ?_
        refine Go_lload_n 2 rfl rfl dX5_noteCost_100 ?_
        refine Go_putJS fpX5_73 sh_92 dX5_noteCost_101 ?_
        refine Go_aload_n 0 rfl rfl dX5_noteCost_104 ?_
        refine Go_iload_n 1 rfl rfl dX5_noteCost_105 ?_
        refine Go_putIS fpX5_76 sh_92 dX5_noteCost_106 ?_
        rw [show ncF f (c : Int) x = _ from (if_neg (by exact Int.not_lt.mpr h6)).trans ((if_pos (by exact h57)).trans (if_pos (by exact h96)))]
        exact Go_ret rfl dX5_noteCost_109
  · skip
    replace h6 := cmp_lt.mp h6
    refine Go_aload_n 0 rfl rfl dX5_noteCost_9 ?_
    refine Go_aload_n 0 rfl rfl dX5_noteCost_10 ?_
    refine Go_getJ faX5_57 sh_92 dX5_noteCost_11 ?_
    refine Go_putJS fpX5_73 sh_92 dX5_noteCost_14 ?_
    refine Go_aload_n 0 rfl rfl dX5_noteCost_17 ?_
    refine Go_aload_n 0 rfl rfl dX5_noteCost_18 ?_
    refine Go_getI faX5_61 sh_92 dX5_noteCost_19 ?_
    refine Go_putIS fpX5_76 sh_92 dX5_noteCost_22 ?_
    refine Go_aload_n 0 rfl rfl dX5_noteCost_25 ?_
    refine Go_lload_n 2 rfl rfl dX5_noteCost_26 ?_
    refine Go_putJS fpX5_57 sh_92 dX5_noteCost_27 ?_
    refine Go_aload_n 0 rfl rfl dX5_noteCost_30 ?_
    refine Go_iload_n 1 rfl rfl dX5_noteCost_31 ?_
    refine Go_putIS fpX5_61 sh_92 dX5_noteCost_32 ?_
    refine Go_aload_n 0 rfl rfl dX5_noteCost_35 ?_
    refine Go_iconst (by unfold in32; omega) dX5_noteCost_36 ?_
    refine Go_putIS fpX5_64 sh_92 dX5_noteCost_37 ?_
    refine Go_aload_n 0 rfl rfl dX5_noteCost_40 ?_
    refine Go_iload_n 1 rfl rfl dX5_noteCost_41 ?_
    refine Go_putIS fpX5_67 sh_92 dX5_noteCost_42 ?_
    refine Go_aload_n 0 rfl rfl dX5_noteCost_45 ?_
    refine Go_iload_n 1 rfl rfl dX5_noteCost_46 ?_
    refine Go_putIS fpX5_70 sh_92 dX5_noteCost_47 ?_
    rw [show ncF f (c : Int) x = _ from if_pos (by exact h6)]
    exact Go_ret rfl dX5_noteCost_50
set_option maxHeartbeats 4000000 in
set_option maxRecDepth 100000 in
theorem fX5_noteLosses {D : va_G} {ca : Nat → ClassId} {M : gMem} (hp : gPtr M) (w0 : Nat → Int) (c : Nat) (hc : c < 1024) (x : Int) : Fn D ca mX5_noteLosses [gR 92, gI (c : Int), gJ x] SH (gSet M 93 w0) [] SH (gSet M 93 (nlS c x w0 10)) := by
  refine Fn_of okX5_noteLosses (Nat.le_of_ble_eq_true rfl) (Or.inl ⟨rfl, rfl⟩) (Nat.le_refl _) (Nat.le_refl _) ?_
  refine Go_ls2 (ls' := [(0, gR 92), (1, gI _), (2, gJ _)]) rfl ?_
  have loop_3 : ∀ (k : Nat) (p : Nat) (w : Nat → Int), p + k = 10 → nlS c x w0 p = w → Go D ca none (gRm mX5_noteLosses (SH.length - SH.length) (gSz SH - gSz SH)) mX5_noteLosses 3 [(0, gR 92), (1, gI (c : Int)), (2, gJ x), (4, gI (p : Int))] [] SH (gSet M 93 w) [] SH (gSet M 93 (nlS c x w0 10)) := by
    intro k
    induction k with
    | zero =>
      intro p w he hw
      have e10 : p = 10 := by omega
      subst e10
      refine Go_iload 3 rfl dX5_noteLosses_3 ?_
      refine Go_bipush ⟨by decide, by unfold in32; omega⟩ dX5_noteLosses_5 ?_
      refine Go_icmp_ge dX5_noteLosses_7 rfl (fun h7 => ?_) (fun h7 => ?_)
      · skip
        subst hw
        exact Go_ret rfl dX5_noteLosses_43
      · skip
        exact absurd h7 (by omega)
    | succ k ih_3 =>
      intro p w he hw
      refine Go_iload 3 rfl dX5_noteLosses_3 ?_
      refine Go_bipush ⟨by decide, by unfold in32; omega⟩ dX5_noteLosses_5 ?_
      refine Go_icmp_ge dX5_noteLosses_7 rfl (fun h7 => ?_) (fun h7 => ?_)
      · skip
        exact absurd h7 (by omega)
      · skip
        refine Go_iload_n 1 rfl rfl dX5_noteLosses_10 ?_
        refine Go_iload 3 rfl dX5_noteLosses_11 ?_
        refine Go_callSNI (fX8_isIn c p (by omega) (by omega)) cnX5_86 smX8_isIn ⟨Nat.le_of_ble_eq_true rfl, Nat.le_of_ble_eq_true rfl⟩ rfl (Nat.le_of_ble_eq_true rfl) sh_rf dX5_noteLosses_13 ?_
        refine Go_if_ne dX5_noteLosses_16 rfl (fun h16 => ?_) (fun h16 => ?_)
        · skip
          replace h16 := bI_n.mp h16
          refine Go_iincn p 1 rfl rfl (by omega) 3 (ls' := [(4, gI _), (0, gR 92), (1, gI _), (2, gJ _)]) rfl dX5_noteLosses_37 (by decide) rfl ?_
          refine Go_goto dX5_noteLosses_40 rfl ?_
          refine Go_pick [1, 2, 3, 0] (ls' := [(0, gR 92), (1, gI _), (2, gJ _), (4, gI _)]) rfl ?_
          exact ih_3 (p + 1) _ (by omega) (by simp only [nlS, hw]; first | rw [if_pos (by exact h16)] | (rw [if_neg (by exact h16)]; rfl))
        · skip
          replace h16 := bI_0.mp h16
          refine Go_aload_n 0 rfl rfl dX5_noteLosses_19 ?_
          refine Go_getR (c' := 93) faX5_9 sh_92 (pt_92_9 (M := M) hp) dX5_noteLosses_20 ?_
          refine Go_iload 3 rfl dX5_noteLosses_23 ?_
          refine Go_aload_n 0 rfl rfl dX5_noteLosses_25 ?_
          refine Go_getR (c' := 93) faX5_9 sh_92 (pt_92_9 (M := M) hp) dX5_noteLosses_26 ?_
          refine Go_iload 3 rfl dX5_noteLosses_29 ?_
          refine Go_laload p sh_93 rfl (by omega) dX5_noteLosses_31 ?_
          refine Go_lload_n 2 rfl rfl dX5_noteLosses_32 ?_
          refine Go_mminJ cwX5_90 ⟨Nat.le_of_ble_eq_true rfl, Nat.le_of_ble_eq_true rfl⟩ ⟨Nat.le_refl _, Nat.le_refl _⟩ dX5_noteLosses_33 ?_
          refine Go_lastoreS p sh_93 rfl (by omega) dX5_noteLosses_36 ?_
          refine Go_iincn p 1 rfl rfl (by omega) 3 (ls' := [(4, gI _), (0, gR 92), (1, gI _), (2, gJ _)]) rfl dX5_noteLosses_37 (by decide) rfl ?_
          refine Go_goto dX5_noteLosses_40 rfl ?_
          refine Go_pick [1, 2, 3, 0] (ls' := [(0, gR 92), (1, gI _), (2, gJ _), (4, gI _)]) rfl ?_
          exact ih_3 (p + 1) _ (by omega) (by simp only [nlS, hw]; first | rw [if_pos (by exact h16)] | (rw [if_neg (by exact h16)]; rfl))
  refine Go_iconst (by unfold in32; omega) dX5_noteLosses_0 ?_
  refine Go_istore (ls' := [(4, gI _), (0, gR 92), (1, gI _), (2, gJ _)]) dX5_noteLosses_1 (by decide) rfl ?_
  refine Go_pick [1, 2, 3, 0] (ls' := [(0, gR 92), (1, gI _), (2, gJ _), (4, gI _)]) rfl ?_
  exact loop_3 10 0 _ (by omega) rfl
set_option maxHeartbeats 4000000 in
set_option maxRecDepth 100000 in
theorem fX5_noteFar {D : va_G} {ca : Nat → ClassId} {M : gMem} (f : Nat → Int) (c : Nat) (x : Int) : Fn D ca mX5_noteFar [gR 92, gI (c : Int), gI x] SH (gSet M 92 f) [] SH (gSet M 92 (nfF f (c : Int) x)) := by
  refine Fn_of okX5_noteFar (Nat.le_of_ble_eq_true rfl) (Or.inl ⟨rfl, rfl⟩) (Nat.le_refl _) (Nat.le_refl _) ?_
  refine Go_ls2 (ls' := [(0, gR 92), (1, gI _), (2, gI _)]) rfl ?_
  refine Go_iload_n 2 rfl rfl dX5_noteFar_0 ?_
  refine Go_aload_n 0 rfl rfl dX5_noteFar_1 ?_
  refine Go_getI faX5_80 sh_92 dX5_noteFar_2 ?_
  refine Go_icmp_ge dX5_noteFar_5 rfl (fun h5 => ?_) (fun h5 => ?_)
  · skip
    rw [show nfF f (c : Int) x = _ from if_neg (by exact Int.not_lt.mpr h5)]
    exact Go_ret rfl dX5_noteFar_18
  · skip
    refine Go_aload_n 0 rfl rfl dX5_noteFar_8 ?_
    refine Go_iload_n 2 rfl rfl dX5_noteFar_9 ?_
    refine Go_putIS fpX5_80 sh_92 dX5_noteFar_10 ?_
    refine Go_aload_n 0 rfl rfl dX5_noteFar_13 ?_
    refine Go_iload_n 1 rfl rfl dX5_noteFar_14 ?_
    refine Go_putIS fpX5_83 sh_92 dX5_noteFar_15 ?_
    rw [show nfF f (c : Int) x = _ from if_pos (by exact h5)]
    exact Go_ret rfl dX5_noteFar_18
set_option maxHeartbeats 4000000 in
set_option maxRecDepth 100000 in
theorem fX5_forget {D : va_G} {ca : Nat → ClassId} {M : gMem} (hp : gPtr M) : Fn D ca mX5_forget [gR 92] SH M [] SH (gSet (gSet M 92 (fgF (M 92))) 93 (fgW (M 93) 10)) := by
  refine Fn_of okX5_forget (Nat.le_of_ble_eq_true rfl) (Or.inl ⟨rfl, rfl⟩) (Nat.le_refl _) (Nat.le_refl _) ?_
  refine Go_ls2 (ls' := [(0, gR 92)]) rfl ?_
  refine Go_o 92 ?_
  have loop_55 : ∀ (k : Nat) (p : Nat) (w : Nat → Int), p + k = 10 → fgW (M 93) p = w → Go D ca none (gRm mX5_forget (SH.length - SH.length) (gSz SH - gSz SH)) mX5_forget 55 [(0, gR 92), (1, gI (p : Int))] [] SH (gSet (gSet M 92 (fgF (M 92))) 93 w) [] SH (gSet (gSet M 92 (fgF (M 92))) 93 (fgW (M 93) 10)) := by
    intro k
    induction k with
    | zero =>
      intro p w he hw
      have e10 : p = 10 := by omega
      subst e10
      refine Go_iload_n 1 rfl rfl dX5_forget_55 ?_
      refine Go_bipush ⟨by decide, by unfold in32; omega⟩ dX5_forget_56 ?_
      refine Go_icmp_ge dX5_forget_58 rfl (fun h58 => ?_) (fun h58 => ?_)
      · skip
        subst hw
        exact Go_ret rfl dX5_forget_76
      · skip
        exact absurd h58 (by omega)
    | succ k ih_55 =>
      intro p w he hw
      refine Go_iload_n 1 rfl rfl dX5_forget_55 ?_
      refine Go_bipush ⟨by decide, by unfold in32; omega⟩ dX5_forget_56 ?_
      refine Go_icmp_ge dX5_forget_58 rfl (fun h58 => ?_) (fun h58 => ?_)
      · skip
        exact absurd h58 (by omega)
      · skip
        refine Go_aload_n 0 rfl rfl dX5_forget_61 ?_
        refine Go_getR (c' := 93) faX5_9 sh_92 (pt_92_9 (M := M) hp) dX5_forget_62 ?_
        refine Go_iload_n 1 rfl rfl dX5_forget_65 ?_
        refine Go_ldc2 klX5_55 (by unfold in64; omega) dX5_forget_66 ?_
        refine Go_lastoreS p sh_93 rfl (by omega) dX5_forget_69 ?_
        refine Go_iincn p 1 rfl rfl (by omega) 1 (ls' := [(1, gI _), (0, gR 92)]) rfl dX5_forget_70 (by decide) rfl ?_
        refine Go_goto dX5_forget_73 rfl ?_
        refine Go_pick [1, 0] (ls' := [(0, gR 92), (1, gI _)]) rfl ?_
        exact ih_55 (p + 1) _ (by omega) (by simp only [fgW, hw])
  refine Go_aload_n 0 rfl rfl dX5_forget_0 ?_
  refine Go_ldc2 klX5_55 (by unfold in64; omega) dX5_forget_1 ?_
  refine Go_putJS fpX5_57 sh_92 dX5_forget_4 ?_
  refine Go_aload_n 0 rfl rfl dX5_forget_7 ?_
  refine Go_bipush ⟨by decide, by unfold in32; omega⟩ dX5_forget_8 ?_
  refine Go_putIS fpX5_61 sh_92 dX5_forget_10 ?_
  refine Go_aload_n 0 rfl rfl dX5_forget_13 ?_
  refine Go_iconst (by unfold in32; omega) dX5_forget_14 ?_
  refine Go_putIS fpX5_64 sh_92 dX5_forget_15 ?_
  refine Go_aload_n 0 rfl rfl dX5_forget_18 ?_
  refine Go_iconst (by unfold in32; omega) dX5_forget_19 ?_
  refine Go_putIS fpX5_67 sh_92 dX5_forget_20 ?_
  refine Go_aload_n 0 rfl rfl dX5_forget_23 ?_
  refine Go_iconst (by unfold in32; omega) dX5_forget_24 ?_
  refine Go_putIS fpX5_70 sh_92 dX5_forget_25 ?_
  refine Go_aload_n 0 rfl rfl dX5_forget_28 ?_
  refine Go_ldc2 klX5_55 (by unfold in64; omega) dX5_forget_29 ?_
  refine Go_putJS fpX5_73 sh_92 dX5_forget_32 ?_
  refine Go_aload_n 0 rfl rfl dX5_forget_35 ?_
  refine Go_bipush ⟨by decide, by unfold in32; omega⟩ dX5_forget_36 ?_
  refine Go_putIS fpX5_76 sh_92 dX5_forget_38 ?_
  refine Go_aload_n 0 rfl rfl dX5_forget_41 ?_
  refine Go_ldc kcX5_79 (by unfold in32; omega) dX5_forget_42 ?_
  refine Go_putIS fpX5_80 sh_92 dX5_forget_44 ?_
  refine Go_aload_n 0 rfl rfl dX5_forget_47 ?_
  refine Go_bipush ⟨by decide, by unfold in32; omega⟩ dX5_forget_48 ?_
  refine Go_putIS fpX5_83 sh_92 dX5_forget_50 ?_
  refine Go_M (M2 := gSet M 92 (fgF (M 92))) rfl ?_
  refine Go_o 93 ?_
  refine Go_iconst (by unfold in32; omega) dX5_forget_53 ?_
  refine Go_istore_n (ls' := [(1, gI _), (0, gR 92)]) rfl dX5_forget_54 (by decide) rfl ?_
  refine Go_pick [1, 0] (ls' := [(0, gR 92), (1, gI _)]) rfl ?_
  exact loop_55 10 0 _ (by omega) rfl
set_option maxHeartbeats 4000000 in
set_option maxRecDepth 100000 in
theorem fX5_dearestLoss {D : va_G} {ca : Nat → ClassId} {M : gMem} {nv np : Nat} (hC : CS M nv np) : Fn D ca mX5_dearestLoss [gR 92, gR 1] SH M [gI (dlS (M 5) (M 93) np).1] SH (M) := by
  refine Fn_of okX5_dearestLoss (Nat.le_of_ble_eq_true rfl) (Or.inr (Or.inl ⟨_, rfl, rfl⟩)) (Nat.le_refl _) (Nat.le_refl _) ?_
  refine Go_ls2 (ls' := [(0, gR 92), (1, gR 1)]) rfl ?_
  have hv12 := hC.2.2.1
  have hn10 := hC.2.2.2.2
  have loop_10 : ∀ (k : Nat) (p : Nat) (x y : Int), p + k = np → dlS (M 5) (M 93) p = (x, y) → Go D ca none (gRm mX5_dearestLoss (SH.length - SH.length) (gSz SH - gSz SH)) mX5_dearestLoss 10 [(0, gR 92), (1, gR 1), (2, gI x), (3, gJ y), (5, gI (p : Int))] [] SH M [gI (dlS (M 5) (M 93) np).1] SH (M) := by
    intro k
    induction k with
    | zero =>
      intro p x y he hx
      obtain rfl : np = p := by omega
      refine Go_iload 4 rfl dX5_dearestLoss_10 ?_
      refine Go_aload_n 1 rfl rfl dX5_dearestLoss_12 ?_
      refine Go_getIv (v := (np : Int)) hC.2.2.2.1 faX5_24 sh_1 dX5_dearestLoss_13 ?_
      refine Go_icmp_ge dX5_dearestLoss_16 rfl (fun h16 => ?_) (fun h16 => ?_)
      · skip
        refine Go_iload_n 2 rfl rfl dX5_dearestLoss_59 ?_
        exact Go_ret (by rw [hx]) dX5_dearestLoss_60
      · skip
        exact absurd h16 (by omega)
    | succ k ih_10 =>
      intro p x y he hx
      refine Go_iload 4 rfl dX5_dearestLoss_10 ?_
      refine Go_aload_n 1 rfl rfl dX5_dearestLoss_12 ?_
      refine Go_getIv (v := (np : Int)) hC.2.2.2.1 faX5_24 sh_1 dX5_dearestLoss_13 ?_
      refine Go_icmp_ge dX5_dearestLoss_16 rfl (fun h16 => ?_) (fun h16 => ?_)
      · skip
        exact absurd h16 (by omega)
      · skip
        refine Go_aload_n 1 rfl rfl dX5_dearestLoss_19 ?_
        refine Go_getR (c' := 5) faX5_98 sh_1 (pt_1_6 (M := M) hC.1) dX5_dearestLoss_20 ?_
        refine Go_iload 4 rfl dX5_dearestLoss_23 ?_
        refine Go_ialoadv p (v := M 5 (p)) rfl sh_5 rfl (by omega) dX5_dearestLoss_25 ?_
        refine Go_iconst (by unfold in32; omega) dX5_dearestLoss_26 ?_
        refine Go_icmp_eq dX5_dearestLoss_27 rfl (fun h27 => ?_) (fun h27 => ?_)
        · skip
          refine Go_iincn p 1 rfl rfl (by omega) 4 (ls' := [(5, gI _), (0, gR 92), (1, gR 1), (2, gI _), (3, gJ _)]) rfl dX5_dearestLoss_53 (by decide) rfl ?_
          refine Go_goto dX5_dearestLoss_56 rfl ?_
          refine Go_pick [1, 2, 3, 4, 0] (ls' := [(0, gR 92), (1, gR 1), (2, gI _), (3, gJ _), (5, gI _)]) rfl ?_
          exact ih_10 (p + 1) _ _ (by omega) (by simp only [dlS, hx]; first | rw [if_pos (by exact ⟨h27, h39⟩)] | rw [if_neg (by exact fun q => q.1 h27)] | rw [if_neg (by exact fun q => absurd q.2 (by omega))])
        · skip
          refine Go_aload_n 0 rfl rfl dX5_dearestLoss_30 ?_
          refine Go_getR (c' := 93) faX5_9 sh_92 (pt_92_9 (M := M) hC.1) dX5_dearestLoss_31 ?_
          refine Go_iload 4 rfl dX5_dearestLoss_34 ?_
          refine Go_laloadv p (v := M 93 (p)) rfl sh_93 rfl (by omega) dX5_dearestLoss_36 ?_
          refine Go_lload_n 3 rfl rfl dX5_dearestLoss_37 ?_
          refine Go_lcmp dX5_dearestLoss_38 ?_
          refine Go_if_le dX5_dearestLoss_39 rfl (fun h39 => ?_) (fun h39 => ?_)
          · skip
            replace h39 := cmp_le.mp h39
            refine Go_iincn p 1 rfl rfl (by omega) 4 (ls' := [(5, gI _), (0, gR 92), (1, gR 1), (2, gI _), (3, gJ _)]) rfl dX5_dearestLoss_53 (by decide) rfl ?_
            refine Go_goto dX5_dearestLoss_56 rfl ?_
            refine Go_pick [1, 2, 3, 4, 0] (ls' := [(0, gR 92), (1, gR 1), (2, gI _), (3, gJ _), (5, gI _)]) rfl ?_
            exact ih_10 (p + 1) _ _ (by omega) (by simp only [dlS, hx]; first | rw [if_pos (by exact ⟨h27, h39⟩)] | rw [if_neg (by exact fun q => q.1 h27)] | rw [if_neg (by exact fun q => absurd q.2 (by omega))])
          · skip
            replace h39 := cmp_gt.mp h39
            refine Go_iload 4 rfl dX5_dearestLoss_42 ?_
            refine Go_istore_n (ls' := [(2, gI _), (0, gR 92), (1, gR 1), (3, gJ _), (5, gI _)]) rfl dX5_dearestLoss_44 (by decide) rfl ?_
            refine Go_aload_n 1 rfl rfl dX5_dearestLoss_45 ?_
            refine Go_getR (c' := 93) faX5_9 sh_92 (pt_92_9 (M := M) hC.1) dX5_dearestLoss_46 ?_
            refine Go_iload 4 rfl dX5_dearestLoss_49 ?_
            refine Go_laloadv p (v := M 93 (p)) rfl sh_93 rfl (by omega) dX5_dearestLoss_51 ?_
            refine Go_lstore_n (ls' := [(3, gJ _), (2, gI _), (0, gR 92), (1, gR 1), (5, gI _)]) rfl dX5_dearestLoss_52 (by decide) rfl ?_
            refine Go_iincn p 1 rfl rfl (by omega) 4 (ls' := [(5, gI _), (3, gJ _), (2, gI _), (0, gR 92), (1, gR 1)]) rfl dX5_dearestLoss_53 (by decide) rfl ?_
            refine Go_goto dX5_dearestLoss_56 rfl ?_
            refine Go_pick [3, 4, 2, 1, 0] (ls' := [(0, gR 92), (1, gR 1), (2, gI _), (3, gJ _), (5, gI _)]) rfl ?_
            exact ih_10 (p + 1) _ _ (by omega) (by simp only [dlS, hx]; first | rw [if_pos (by exact ⟨h27, h39⟩)] | rw [if_neg (by exact fun q => q.1 h27)] | rw [if_neg (by exact fun q => absurd q.2 (by omega))])
  refine Go_bipush ⟨by decide, by unfold in32; omega⟩ dX5_dearestLoss_0 ?_
  refine Go_istore_n (ls' := [(2, gI _), (0, gR 92), (1, gR 1)]) rfl dX5_dearestLoss_2 (by decide) rfl ?_
  refine Go_ldc2 klX5_96 (by unfold in64; omega) dX5_dearestLoss_3 ?_
  refine Go_lstore_n (ls' := [(3, gJ _), (2, gI _), (0, gR 92), (1, gR 1)]) rfl dX5_dearestLoss_6 (by decide) rfl ?_
  refine Go_iconst (by unfold in32; omega) dX5_dearestLoss_7 ?_
  refine Go_istore (ls' := [(5, gI _), (3, gJ _), (2, gI _), (0, gR 92), (1, gR 1)]) dX5_dearestLoss_8 (by decide) rfl ?_
  refine Go_pick [3, 4, 2, 1, 0] (ls' := [(0, gR 92), (1, gR 1), (2, gI _), (3, gJ _), (5, gI _)]) rfl ?_
  exact loop_10 np 0 _ _ (by omega) rfl
theorem ncF_9 (f : Nat → Int) (c x : Int) : ncF f c x 9 = f 9 := by unfold ncF; split <;> (try split) <;> (try split) <;> rfl
theorem nfF_9 (f : Nat → Int) (c x : Int) : nfF f c x 9 = f 9 := by unfold nfF; split <;> rfl
theorem gPt_92 : ∀ q ∈ gPt, q.1 = 92 → q.2.1 = 9 := by decide +kernel
theorem CS_sv {M : gMem} {nv np : Nat} {f : Nat → Int} (hC : CS M nv np) (hf : f 9 = M 92 9) : CS (gSet M 92 f) nv np := CS_obj hC (by decide) (fun q hq e0 => by rw [gPt_92 q hq e0]; exact hf)
set_option maxHeartbeats 4000000 in
set_option maxRecDepth 100000 in
theorem fX5_take {D : va_G} {ca : Nat → ClassId} {M : gMem} {nv np : Nat} (hC : CS M nv np) : Fn D ca mX5_take [gR 92, gR 90] SH M [] SH (gSet (gSet M 92 (tkS (fun c => msB (M 90 2) (M 90 3) (M 1 2) (c : Int)) (fun c => meS (M 2) (M 5) (M 6) (M 91) nv np c) (fun c => fwS (M 2) (M 91) np c nv) (fgF (M 92)) (fgW (M 93) 10) (2 ^ np)).1) 93 (tkS (fun c => msB (M 90 2) (M 90 3) (M 1 2) (c : Int)) (fun c => meS (M 2) (M 5) (M 6) (M 91) nv np c) (fun c => fwS (M 2) (M 91) np c nv) (fgF (M 92)) (fgW (M 93) 10) (2 ^ np)).2) := by
  refine Fn_of okX5_take (Nat.le_of_ble_eq_true rfl) (Or.inl ⟨rfl, rfl⟩) (Nat.le_refl _) (Nat.le_refl _) ?_
  refine Go_ls2 (ls' := [(0, gR 92), (1, gR 90)]) rfl ?_
  have hv12 := hC.2.2.1
  have hn10 := hC.2.2.2.2
  have hpw := p10 hn10
  have loop_16 : ∀ (k : Nat) (c : Nat) (f w : Nat → Int), c + k = 2 ^ np → tkS (fun c => msB (M 90 2) (M 90 3) (M 1 2) (c : Int)) (fun c => meS (M 2) (M 5) (M 6) (M 91) nv np c) (fun c => fwS (M 2) (M 91) np c nv) (fgF (M 92)) (fgW (M 93) 10) c = (f, w) → f 9 = M 92 9 → Go D ca none (gRm mX5_take (SH.length - SH.length) (gSz SH - gSz SH)) mX5_take 16 [(0, gR 92), (1, gR 90), (2, gI ((2 ^ np : Nat) : Int)), (3, gI (c : Int))] [] SH (gSet (gSet M 92 f) 93 w) [] SH (gSet (gSet M 92 (tkS (fun c => msB (M 90 2) (M 90 3) (M 1 2) (c : Int)) (fun c => meS (M 2) (M 5) (M 6) (M 91) nv np c) (fun c => fwS (M 2) (M 91) np c nv) (fgF (M 92)) (fgW (M 93) 10) (2 ^ np)).1) 93 (tkS (fun c => msB (M 90 2) (M 90 3) (M 1 2) (c : Int)) (fun c => meS (M 2) (M 5) (M 6) (M 91) nv np c) (fun c => fwS (M 2) (M 91) np c nv) (fgF (M 92)) (fgW (M 93) 10) (2 ^ np)).2) := by
    intro k
    induction k with
    | zero =>
      intro c f w he hx hf
      have ec : c = 2 ^ np := by omega
      subst ec
      refine Go_iload_n 3 rfl rfl dX5_take_16 ?_
      refine Go_iload_n 2 rfl rfl dX5_take_17 ?_
      refine Go_icmp_ge dX5_take_18 rfl (fun h18 => ?_) (fun h18 => ?_)
      · skip
        rw [hx]
        exact Go_ret rfl dX5_take_81
      · skip
        exact absurd h18 (by omega)
    | succ k ih_16 =>
      intro c f w he hx hf
      refine Go_iload_n 3 rfl rfl dX5_take_16 ?_
      refine Go_iload_n 2 rfl rfl dX5_take_17 ?_
      refine Go_icmp_ge dX5_take_18 rfl (fun h18 => ?_) (fun h18 => ?_)
      · skip
        exact absurd h18 (by omega)
      · skip
        refine Go_aload_n 1 rfl rfl dX5_take_21 ?_
        refine Go_iload_n 3 rfl rfl dX5_take_22 ?_
        refine Go_callVI (q := vwCl[3]) (fX3_mayStand (CS_row (CS_sv hC hf) rfl) (s := M 90 2) rfl (b := M 90 3) rfl (n := M 1 2) rfl _) cwX5_30 imX3_mayStand rfl rfl ⟨Nat.le_of_ble_eq_true rfl, Nat.le_of_ble_eq_true rfl⟩ sh_90 rfl (Nat.le_of_ble_eq_true rfl) sh_rf dX5_take_23 ?_
        refine Go_if_eq dX5_take_26 rfl (fun h26 => ?_) (fun h26 => ?_)
        · skip
          replace h26 := bI_0.mp h26
          refine Go_ldc2 klX5_38 (by unfold in64; omega) dX5_take_37 ?_
          refine Go_lstore (ls' := [(4, gJ _), (0, gR 92), (1, gR 90), (2, gI _), (3, gI _)]) dX5_take_40 (by decide) rfl ?_
          refine Go_lload 0 rfl dX5_take_42 ?_
          refine Go_ldc2 klX5_38 (by unfold in64; omega) dX5_take_44 ?_
          refine Go_lcmp dX5_take_47 ?_
          refine Go_if_ge dX5_take_48 rfl (fun h48 => ?_) (fun h48 => ?_)
          · skip
            replace h48 := cmp_ge.mp h48
            refine Go_iincn c 1 rfl rfl (by omega) 4 (ls' := [(3, gI _), (4, gJ _), (0, gR 92), (1, gR 90), (2, gI _)]) rfl dX5_take_75 (by decide) rfl ?_
            refine Go_goto dX5_take_78 rfl ?_
            refine Go_pick [2, 3, 4, 0] (ls' := [(0, gR 92), (1, gR 90), (2, gI _), (3, gI _)]) rfl ?_
            exact ih_16 (c + 1) _ _ (by omega) (by simp only [tkS, hx]; rw [if_neg (by exact fun q => h26 q.1)]) hf
          · skip
            replace h48 := cmp_lt.mp h48
            exact absurd h48 (by omega)
        · skip
          replace h26 := bI_n.mp h26
          refine Go_aload_n 1 rfl rfl dX5_take_29 ?_
          refine Go_iload_n 3 rfl rfl dX5_take_30 ?_
          refine Go_callVJ (q := vwCl[3]) (fX3_measureOf (CS_row (CS_sv hC hf) rfl) c (by omega)) cwX5_34 imX3_measureOf rfl rfl ⟨Nat.le_of_ble_eq_true rfl, Nat.le_of_ble_eq_true rfl⟩ sh_90 rfl (Nat.le_of_ble_eq_true rfl) sh_rf dX5_take_31 ?_
          refine Go_topJ (v := (meS (M 2) (M 5) (M 6) (M 91) nv np c)) rfl ?_
          refine Go_goto dX5_take_34 rfl ?_
          refine Go_lstore (ls' := [(4, gJ _), (0, gR 92), (1, gR 90), (2, gI _), (3, gI _)]) dX5_take_40 (by decide) rfl ?_
          refine Go_lload 0 rfl dX5_take_42 ?_
          refine Go_ldc2 klX5_38 (by unfold in64; omega) dX5_take_44 ?_
          refine Go_lcmp dX5_take_47 ?_
          refine Go_if_ge dX5_take_48 rfl (fun h48 => ?_) (fun h48 => ?_)
          · skip
            replace h48 := cmp_ge.mp h48
            refine Go_iincn c 1 rfl rfl (by omega) 4 (ls' := [(3, gI _), (4, gJ _), (0, gR 92), (1, gR 90), (2, gI _)]) rfl dX5_take_75 (by decide) rfl ?_
            refine Go_goto dX5_take_78 rfl ?_
            refine Go_pick [2, 3, 4, 0] (ls' := [(0, gR 92), (1, gR 90), (2, gI _), (3, gI _)]) rfl ?_
            exact ih_16 (c + 1) _ _ (by omega) (by simp only [tkS, hx]; rw [if_neg (by exact fun q => absurd q.2 (Int.not_lt.mpr h48))]) hf
          · skip
            replace h48 := cmp_lt.mp h48
            refine Go_aload_n 1 rfl rfl dX5_take_51 ?_
            refine Go_iload_n 4 rfl rfl dX5_take_52 ?_
            refine Go_lload 0 rfl dX5_take_53 ?_
            refine Go_M (M2 := gSet (gSet M 93 w) 92 f) (gSet_cm (by decide)) ?_
            refine Go_callV0 (q := vwCl[5]) (fX5_noteCost f c _) cwX5_40 imX5_noteCost rfl rfl ⟨Nat.le_of_ble_eq_true rfl, Nat.le_of_ble_eq_true rfl⟩ sh_92 rfl (Nat.le_of_ble_eq_true rfl) sh_rf dX5_take_55 ?_
            refine Go_aload_n 1 rfl rfl dX5_take_58 ?_
            refine Go_iload_n 4 rfl rfl dX5_take_59 ?_
            refine Go_lload 0 rfl dX5_take_60 ?_
            refine Go_M (M2 := gSet (gSet M 92 (ncF f (c : Int) (meS (M 2) (M 5) (M 6) (M 91) nv np c))) 93 w) (gSet_cm (by decide)) ?_
            have hf2 : ncF f (c : Int) (meS (M 2) (M 5) (M 6) (M 91) nv np c) 9 = M 92 9 := (ncF_9 _ _ _).trans hf
            refine Go_callV0 (q := vwCl[5]) (fX5_noteLosses (CS_sv hC hf2).1 w c (by omega) _) cwX5_44 imX5_noteLosses rfl rfl ⟨Nat.le_of_ble_eq_true rfl, Nat.le_of_ble_eq_true rfl⟩ sh_92 rfl (Nat.le_of_ble_eq_true rfl) sh_rf dX5_take_62 ?_
            refine Go_aload_n 1 rfl rfl dX5_take_65 ?_
            refine Go_iload_n 4 rfl rfl dX5_take_66 ?_
            refine Go_aload_n 2 rfl rfl dX5_take_67 ?_
            refine Go_iload_n 4 rfl rfl dX5_take_68 ?_
            refine Go_callVI (q := vwCl[3]) (fX3_farthestOfAll (CS_row (CS_sv hC hf2) rfl) c (by omega)) cwX5_47 imX3_farthestOfAll rfl rfl ⟨Nat.le_of_ble_eq_true rfl, Nat.le_of_ble_eq_true rfl⟩ sh_90 rfl (Nat.le_of_ble_eq_true rfl) sh_rf dX5_take_69 ?_
            refine Go_topI (v := fwS (M 2) (M 91) np c nv) rfl ?_
            refine Go_M (M2 := gSet (gSet M 93 (nlS c (meS (M 2) (M 5) (M 6) (M 91) nv np c) w 10)) 92 (ncF f (c : Int) (meS (M 2) (M 5) (M 6) (M 91) nv np c))) (gSet_cm (by decide)) ?_
            refine Go_callV0 (q := vwCl[5]) (fX5_noteFar (ncF f (c : Int) (meS (M 2) (M 5) (M 6) (M 91) nv np c)) c _) cwX5_51 imX5_noteFar rfl rfl ⟨Nat.le_of_ble_eq_true rfl, Nat.le_of_ble_eq_true rfl⟩ sh_92 rfl (Nat.le_of_ble_eq_true rfl) sh_rf dX5_take_72 ?_
            refine Go_M (M2 := gSet (gSet M 92 (nfF (ncF f (c : Int) (meS (M 2) (M 5) (M 6) (M 91) nv np c)) (c : Int) (fwS (M 2) (M 91) np c nv))) 93 (nlS c (meS (M 2) (M 5) (M 6) (M 91) nv np c) w 10)) (gSet_cm (by decide)) ?_
            refine Go_iincn c 1 rfl rfl (by omega) 4 (ls' := [(3, gI _), (4, gJ _), (0, gR 92), (1, gR 90), (2, gI _)]) rfl dX5_take_75 (by decide) rfl ?_
            refine Go_goto dX5_take_78 rfl ?_
            refine Go_pick [2, 3, 4, 0] (ls' := [(0, gR 92), (1, gR 90), (2, gI _), (3, gI _)]) rfl ?_
            exact ih_16 (c + 1) _ _ (by omega) (by simp only [tkS, hx]; rw [if_pos (by exact ⟨h26, h48⟩)]) ((nfF_9 _ _ _).trans hf2)
  refine Go_aload_n 0 rfl rfl dX5_take_0 ?_
  refine Go_callV0 (q := vwCl[5]) (fX5_forget hC.1) cwX5_15 imX5_forget rfl rfl ⟨Nat.le_of_ble_eq_true rfl, Nat.le_of_ble_eq_true rfl⟩ sh_92 rfl (Nat.le_of_ble_eq_true rfl) sh_rf dX5_take_1 ?_
  refine Go_iconst (by unfold in32; omega) dX5_take_4 ?_
  refine Go_aload_n 1 rfl rfl dX5_take_5 ?_
  refine Go_getR (c' := 1) faX5_18 sh_90 (pt_90_0 (M := M) hC.1) dX5_take_6 ?_
  refine Go_getIv (v := (np : Int)) hC.2.2.2.1 faX5_24 sh_1 dX5_take_9 ?_
  refine Go_ishl dX5_take_12 ?_
  refine Go_topI (v := ((2 ^ np : Nat) : Int)) (sh1 hn10) ?_
  refine Go_istore_n (ls' := [(2, gI _), (0, gR 92), (1, gR 90)]) rfl dX5_take_13 (by decide) rfl ?_
  refine Go_iconst (by unfold in32; omega) dX5_take_14 ?_
  refine Go_istore_n (ls' := [(3, gI _), (2, gI _), (0, gR 92), (1, gR 90)]) rfl dX5_take_15 (by decide) rfl ?_
  refine Go_pick [2, 3, 1, 0] (ls' := [(0, gR 92), (1, gR 90), (2, gI _), (3, gI _)]) rfl ?_
  exact loop_16 (2 ^ np) 0 _ _ (by omega) rfl rfl
