theorem u8_22 (f : Nat → Int) (x22 x23 x24 x25 x26 x27 x28 x29 y : Int) : gUp (gUp (gUp (gUp (gUp (gUp (gUp (gUp (gUp f 22 (x22)) 23 (x23)) 24 (x24)) 25 (x25)) 26 (x26)) 27 (x27)) 28 (x28)) 29 (x29)) 22 y = gUp (gUp (gUp (gUp (gUp (gUp (gUp (gUp f 22 (y)) 23 (x23)) 24 (x24)) 25 (x25)) 26 (x26)) 27 (x27)) 28 (x28)) 29 (x29) := by
  rw [gUp_cm (i := 29) (j := 22) (by decide), gUp_cm (i := 28) (j := 22) (by decide), gUp_cm (i := 27) (j := 22) (by decide), gUp_cm (i := 26) (j := 22) (by decide), gUp_cm (i := 25) (j := 22) (by decide), gUp_cm (i := 24) (j := 22) (by decide), gUp_cm (i := 23) (j := 22) (by decide), gUp_uu]
theorem u8_23 (f : Nat → Int) (x22 x23 x24 x25 x26 x27 x28 x29 y : Int) : gUp (gUp (gUp (gUp (gUp (gUp (gUp (gUp (gUp f 22 (x22)) 23 (x23)) 24 (x24)) 25 (x25)) 26 (x26)) 27 (x27)) 28 (x28)) 29 (x29)) 23 y = gUp (gUp (gUp (gUp (gUp (gUp (gUp (gUp f 22 (x22)) 23 (y)) 24 (x24)) 25 (x25)) 26 (x26)) 27 (x27)) 28 (x28)) 29 (x29) := by
  rw [gUp_cm (i := 29) (j := 23) (by decide), gUp_cm (i := 28) (j := 23) (by decide), gUp_cm (i := 27) (j := 23) (by decide), gUp_cm (i := 26) (j := 23) (by decide), gUp_cm (i := 25) (j := 23) (by decide), gUp_cm (i := 24) (j := 23) (by decide), gUp_uu]
theorem u8_24 (f : Nat → Int) (x22 x23 x24 x25 x26 x27 x28 x29 y : Int) : gUp (gUp (gUp (gUp (gUp (gUp (gUp (gUp (gUp f 22 (x22)) 23 (x23)) 24 (x24)) 25 (x25)) 26 (x26)) 27 (x27)) 28 (x28)) 29 (x29)) 24 y = gUp (gUp (gUp (gUp (gUp (gUp (gUp (gUp f 22 (x22)) 23 (x23)) 24 (y)) 25 (x25)) 26 (x26)) 27 (x27)) 28 (x28)) 29 (x29) := by
  rw [gUp_cm (i := 29) (j := 24) (by decide), gUp_cm (i := 28) (j := 24) (by decide), gUp_cm (i := 27) (j := 24) (by decide), gUp_cm (i := 26) (j := 24) (by decide), gUp_cm (i := 25) (j := 24) (by decide), gUp_uu]
theorem u8_25 (f : Nat → Int) (x22 x23 x24 x25 x26 x27 x28 x29 y : Int) : gUp (gUp (gUp (gUp (gUp (gUp (gUp (gUp (gUp f 22 (x22)) 23 (x23)) 24 (x24)) 25 (x25)) 26 (x26)) 27 (x27)) 28 (x28)) 29 (x29)) 25 y = gUp (gUp (gUp (gUp (gUp (gUp (gUp (gUp f 22 (x22)) 23 (x23)) 24 (x24)) 25 (y)) 26 (x26)) 27 (x27)) 28 (x28)) 29 (x29) := by
  rw [gUp_cm (i := 29) (j := 25) (by decide), gUp_cm (i := 28) (j := 25) (by decide), gUp_cm (i := 27) (j := 25) (by decide), gUp_cm (i := 26) (j := 25) (by decide), gUp_uu]
theorem u8_26 (f : Nat → Int) (x22 x23 x24 x25 x26 x27 x28 x29 y : Int) : gUp (gUp (gUp (gUp (gUp (gUp (gUp (gUp (gUp f 22 (x22)) 23 (x23)) 24 (x24)) 25 (x25)) 26 (x26)) 27 (x27)) 28 (x28)) 29 (x29)) 26 y = gUp (gUp (gUp (gUp (gUp (gUp (gUp (gUp f 22 (x22)) 23 (x23)) 24 (x24)) 25 (x25)) 26 (y)) 27 (x27)) 28 (x28)) 29 (x29) := by
  rw [gUp_cm (i := 29) (j := 26) (by decide), gUp_cm (i := 28) (j := 26) (by decide), gUp_cm (i := 27) (j := 26) (by decide), gUp_uu]
theorem u8_27 (f : Nat → Int) (x22 x23 x24 x25 x26 x27 x28 x29 y : Int) : gUp (gUp (gUp (gUp (gUp (gUp (gUp (gUp (gUp f 22 (x22)) 23 (x23)) 24 (x24)) 25 (x25)) 26 (x26)) 27 (x27)) 28 (x28)) 29 (x29)) 27 y = gUp (gUp (gUp (gUp (gUp (gUp (gUp (gUp f 22 (x22)) 23 (x23)) 24 (x24)) 25 (x25)) 26 (x26)) 27 (y)) 28 (x28)) 29 (x29) := by
  rw [gUp_cm (i := 29) (j := 27) (by decide), gUp_cm (i := 28) (j := 27) (by decide), gUp_uu]
theorem u8_28 (f : Nat → Int) (x22 x23 x24 x25 x26 x27 x28 x29 y : Int) : gUp (gUp (gUp (gUp (gUp (gUp (gUp (gUp (gUp f 22 (x22)) 23 (x23)) 24 (x24)) 25 (x25)) 26 (x26)) 27 (x27)) 28 (x28)) 29 (x29)) 28 y = gUp (gUp (gUp (gUp (gUp (gUp (gUp (gUp f 22 (x22)) 23 (x23)) 24 (x24)) 25 (x25)) 26 (x26)) 27 (x27)) 28 (y)) 29 (x29) := by
  rw [gUp_cm (i := 29) (j := 28) (by decide), gUp_uu]
theorem u8_29 (f : Nat → Int) (x22 x23 x24 x25 x26 x27 x28 x29 y : Int) : gUp (gUp (gUp (gUp (gUp (gUp (gUp (gUp (gUp f 22 (x22)) 23 (x23)) 24 (x24)) 25 (x25)) 26 (x26)) 27 (x27)) 28 (x28)) 29 (x29)) 29 y = gUp (gUp (gUp (gUp (gUp (gUp (gUp (gUp f 22 (x22)) 23 (x23)) 24 (x24)) 25 (x25)) 26 (x26)) 27 (x27)) 28 (x28)) 29 (y) := by
  rw [gUp_uu]
theorem wh_8 (f : Nat → Int) (u q r b l g a y : Int) (z : T3) : whF (gUp (gUp (gUp (gUp (gUp (gUp (gUp (gUp f 22 (u)) 23 (q)) 24 (r)) 25 (b)) 26 (l)) 27 (g)) 28 (a)) 29 (y)) z = gUp (gUp (gUp (gUp (gUp (gUp (gUp (gUp f 22 (z.1)) 23 (z.2.1)) 24 (z.2.2)) 25 (b)) 26 (l)) 27 (g)) 28 (a)) 29 (y) := by
  unfold whF
  rw [u8_22, u8_23, u8_24]
theorem wh_id (f : Nat → Int) : gUp (gUp (gUp f 22 (f 22)) 23 (f 23)) 24 (f 24) = f := by
  rw [gUp_id]
  have e1 : gUp f 23 (f 23) = f := gUp_id f 23
  rw [e1, gUp_id]
def fyM (M : gMem) (nv : Nat) : gMem := gSet M 124 (wyF (M 109) (M 124) nv)
theorem MS_fy {M : gMem} {nv np : Nat} (hC : MS M nv np) : MS (fyM M nv) nv np := MS_row hC rfl
abbrev T5 : Type := Int × Int × Int × Int × Int
def fdN (y : T5) (c : Int) (w : T3) : T5 :=
  if w.1 = 0 then (if y.1 = -4 ∨ w.2.1 < y.2.1 then (c, w.2.1, w32 (0 + 1), a32 (-1) c, r32 0 c) else if w.2.1 = y.2.1 then (y.1, y.2.1, w32 (y.2.2.1 + 1), a32 y.2.2.2.1 c, r32 y.2.2.2.2 c) else y) else y
def fdS (sk : Nat → Bool) (wg : Nat → T3) (z : T3) : Nat → T3 × T5
  | 0 => (z, (-4, -4, 0, -1, 0))
  | c + 1 => if sk c = true then (wg c, fdN (fdS sk wg z c).2 (c : Int) (wg c)) else fdS sk wg z c
def r8 (f : Nat → Int) (s : T3 × T5) : Nat → Int := gUp (gUp (gUp (gUp (gUp (gUp (gUp (gUp f 22 (s.1.1)) 23 (s.1.2.1)) 24 (s.1.2.2)) 25 (s.2.1)) 26 (s.2.2.1)) 27 (s.2.2.2.1)) 28 (s.2.2.2.2.1)) 29 (s.2.2.2.2.2)
def skF (M : gMem) (np : Nat) (b w : Int) (c : Nat) : Bool := decide ((c : Int) ≠ b) && (decide (a32 (c : Int) w = 0) && alP (M 111) np (M 106 9) c)
theorem skF_t {M : gMem} {np : Nat} {b w : Int} {c : Nat} (h1 : (c : Int) ≠ b) (h2 : a32 (c : Int) w = 0) (h3 : alP (M 111) np (M 106 9) c = true) : skF M np b w c = true := by
  unfold skF
  rw [decide_eq_true h1, decide_eq_true h2, h3]; rfl
theorem skF_i {M : gMem} {np : Nat} {b w : Int} {c : Nat} (h : skF M np b w c = true) : (c : Int) ≠ b ∧ a32 (c : Int) w = 0 ∧ alP (M 111) np (M 106 9) c = true := by
  unfold skF at h
  rw [Bool.and_eq_true, Bool.and_eq_true, decide_eq_true_eq, decide_eq_true_eq] at h
  exact h
def fdM (M : gMem) (nv np : Nat) (b w : Int) : T3 × T5 := fdS (skF M np b w) (wgM (fyM M nv) nv np) (M 106 22, M 106 23, M 106 24) (2 ^ np)
set_option maxHeartbeats 4000000 in
set_option maxRecDepth 100000 in
theorem fX9_find {D : va_G} {ca : Nat → ClassId} {M : gMem} {nv np : Nat} (hC : MS M nv np) (hH : ∀ p, p < np → ∃ z : Nat, z < 12 ∧ M 110 p = (z : Int)) (bt wt : Int) : Fn D ca mX9_find [gR 106, gI bt, gI wt] SH M [] SH (gSet (fyM M nv) 106 (r8 (M 106) (fdM M nv np bt wt))) := by
  refine Fn_of okX9_find (Nat.le_of_ble_eq_true rfl) (Or.inl ⟨rfl, rfl⟩) (Nat.le_refl _) (Nat.le_refl _) ?_
  refine Go_ls2 (ls' := [(0, gR 106), (1, gI _), (2, gI _)]) rfl ?_
  have hv12 := hC.2.2.1
  have hn10 := hC.2.2.2.2
  have hpw := p10 hn10
  have loop_34 : ∀ (k : Nat) (c : Nat) (u q r b l g a y : Int), c + k = 2 ^ np → fdS (skF M np bt wt) (wgM (fyM M nv) nv np) (M 106 22, M 106 23, M 106 24) c = ((u, q, r), (b, l, g, a, y)) → Go D ca none (gRm mX9_find (SH.length - SH.length) (gSz SH - gSz SH)) mX9_find 34 [(0, gR 106), (1, gI bt), (2, gI wt), (3, gI (c : Int))] [] SH (gSet (fyM M nv) 106 (gUp (gUp (gUp (gUp (gUp (gUp (gUp (gUp ((M 106)) 22 (u)) 23 (q)) 24 (r)) 25 (b)) 26 (l)) 27 (g)) 28 (a)) 29 (y))) [] SH (gSet (fyM M nv) 106 (r8 (M 106) (fdM M nv np bt wt))) := by
    intro k
    induction k with
    | zero =>
      intro c u q r b l g a y he hx
      have ec : c = 2 ^ np := by omega
      subst ec
      refine Go_iload_n 3 rfl rfl dX9_find_34 ?_
      refine Go_iconst (by unfold in32; omega) dX9_find_35 ?_
      refine Go_aload_n 0 rfl rfl dX9_find_36 ?_
      refine Go_getIv (j := 4) (v := (np : Int)) hC.2.2.2.1 faX9_78 sh_106 dX9_find_37 ?_
      refine Go_ishl dX9_find_40 ?_
      refine Go_topI (v := ((2 ^ np : Nat) : Int)) (sh1 hn10) ?_
      refine Go_icmp_ge dX9_find_41 rfl (fun h41 => ?_) (fun h41 => ?_)
      · skip
        rw [show fdM M nv np bt wt = _ from hx]
        exact Go_ret rfl dX9_find_172
      · skip
        exact absurd h41 (by omega)
    | succ k ih_34 =>
      intro c u q r b l g a y he hx
      refine Go_iload_n 3 rfl rfl dX9_find_34 ?_
      refine Go_iconst (by unfold in32; omega) dX9_find_35 ?_
      refine Go_aload_n 0 rfl rfl dX9_find_36 ?_
      refine Go_getIv (j := 4) (v := (np : Int)) hC.2.2.2.1 faX9_78 sh_106 dX9_find_37 ?_
      refine Go_ishl dX9_find_40 ?_
      refine Go_topI (v := ((2 ^ np : Nat) : Int)) (sh1 hn10) ?_
      refine Go_icmp_ge dX9_find_41 rfl (fun h41 => ?_) (fun h41 => ?_)
      · skip
        exact absurd h41 (by omega)
      · skip
        refine Go_iload_n 3 rfl rfl dX9_find_44 ?_
        refine Go_iload_n 1 rfl rfl dX9_find_45 ?_
        refine Go_icmp_eq dX9_find_46 rfl (fun h46 => ?_) (fun h46 => ?_)
        · skip
          refine Go_iincn c 1 rfl rfl (by omega) 3 (ls' := [(3, gI _), (0, gR 106), (1, gI _), (2, gI _)]) rfl dX9_find_166 (by decide) rfl ?_
          refine Go_goto dX9_find_169 rfl ?_
          refine Go_pick [1, 2, 3, 0] (ls' := [(0, gR 106), (1, gI _), (2, gI _), (3, gI _)]) rfl ?_
          exact ih_34 (c + 1) _ _ _ _ _ _ _ _ (by omega) (by simp only [fdS, hx]; rw [if_neg (by exact fun q => (skF_i q).1 h46)]; try rfl)
        · skip
          refine Go_iload_n 3 rfl rfl dX9_find_49 ?_
          refine Go_iload_n 2 rfl rfl dX9_find_50 ?_
          refine Go_iand dX9_find_51 ?_
          refine Go_if_ne dX9_find_52 rfl (fun h52 => ?_) (fun h52 => ?_)
          · skip
            refine Go_iincn c 1 rfl rfl (by omega) 3 (ls' := [(3, gI _), (0, gR 106), (1, gI _), (2, gI _)]) rfl dX9_find_166 (by decide) rfl ?_
            refine Go_goto dX9_find_169 rfl ?_
            refine Go_pick [1, 2, 3, 0] (ls' := [(0, gR 106), (1, gI _), (2, gI _), (3, gI _)]) rfl ?_
            exact ih_34 (c + 1) _ _ _ _ _ _ _ _ (by omega) (by simp only [fdS, hx]; rw [if_neg (by exact fun q => h52 (skF_i q).2.1)]; try rfl)
          · skip
            refine Go_aload_n 0 rfl rfl dX9_find_55 ?_
            refine Go_iload_n 3 rfl rfl dX9_find_56 ?_
            refine Go_callVI (q := vwCl[9]) (fX9_isAllowed (MS_ob (MS_fy hC) (agM_up (agM_up (agM_up (agM_up (agM_up (agM_up (agM_up (agM_up (agM_rf _) (by decide)) (by decide)) (by decide)) (by decide)) (by decide)) (by decide)) (by decide)) (by decide))) c (by omega)) cwX9_139 imX9_isAllowed rfl rfl ⟨Nat.le_of_ble_eq_true rfl, Nat.le_of_ble_eq_true rfl⟩ sh_106 rfl (Nat.le_of_ble_eq_true rfl) sh_rf dX9_find_57 ?_
            refine Go_if_eq dX9_find_60 rfl (fun h60 => ?_) (fun h60 => ?_)
            · skip
              replace h60 := bI_0.mp h60
              refine Go_iincn c 1 rfl rfl (by omega) 3 (ls' := [(3, gI _), (0, gR 106), (1, gI _), (2, gI _)]) rfl dX9_find_166 (by decide) rfl ?_
              refine Go_goto dX9_find_169 rfl ?_
              refine Go_pick [1, 2, 3, 0] (ls' := [(0, gR 106), (1, gI _), (2, gI _), (3, gI _)]) rfl ?_
              exact ih_34 (c + 1) _ _ _ _ _ _ _ _ (by omega) (by simp only [fdS, hx]; rw [if_neg (by exact fun q => h60 (skF_i q).2.2)]; try rfl)
            · skip
              replace h60 := bI_n.mp h60
              refine Go_aload_n 0 rfl rfl dX9_find_63 ?_
              refine Go_iload_n 3 rfl rfl dX9_find_64 ?_
              refine Go_callV0 (q := vwCl[9]) (fX9_weigh (MS_fy hC) hH (gUp (gUp (gUp (gUp (gUp (gUp (gUp (gUp ((M 106)) 22 (u)) 23 (q)) 24 (r)) 25 (b)) 26 (l)) 27 (g)) 28 (a)) 29 (y)) (agM_up (agM_up (agM_up (agM_up (agM_up (agM_up (agM_up (agM_up (agM_rf _) (by decide)) (by decide)) (by decide)) (by decide)) (by decide)) (by decide)) (by decide)) (by decide)) c (by omega)) cwX9_144 imX9_weigh rfl rfl ⟨Nat.le_of_ble_eq_true rfl, Nat.le_of_ble_eq_true rfl⟩ sh_106 rfl (Nat.le_of_ble_eq_true rfl) sh_rf dX9_find_65 ?_
              refine Go_M (congrArg (gSet (fyM M nv) 106) (wh_8 _ _ _ _ _ _ _ _ _ _)) ?_
              refine Go_aload_n 0 rfl rfl dX9_find_68 ?_
              refine Go_getIv (j := 22) (v := (wgM (fyM M nv) nv np c).1) rfl faX9_119 sh_106 dX9_find_69 ?_
              refine Go_if_ne dX9_find_72 rfl (fun h72 => ?_) (fun h72 => ?_)
              · skip
                refine Go_iincn c 1 rfl rfl (by omega) 3 (ls' := [(3, gI _), (0, gR 106), (1, gI _), (2, gI _)]) rfl dX9_find_166 (by decide) rfl ?_
                refine Go_goto dX9_find_169 rfl ?_
                refine Go_pick [1, 2, 3, 0] (ls' := [(0, gR 106), (1, gI _), (2, gI _), (3, gI _)]) rfl ?_
                exact ih_34 (c + 1) _ _ _ _ _ _ _ _ (by omega) (by simp only [fdS, hx]; rw [if_pos (by exact skF_t h46 h52 h60)]; unfold fdN; rw [if_neg (by exact h72)]; try rfl)
              · skip
                refine Go_aload_n 0 rfl rfl dX9_find_75 ?_
                refine Go_getIv (j := 25) (v := b) rfl faX9_150 sh_106 dX9_find_76 ?_
                refine Go_bipush ⟨by decide, by unfold in32; omega⟩ dX9_find_79 ?_
                refine Go_icmp_eq dX9_find_81 rfl (fun h81 => ?_) (fun h81 => ?_)
                · skip
                  refine Go_aload_n 0 rfl rfl dX9_find_96 ?_
                  refine Go_iload_n 3 rfl rfl dX9_find_97 ?_
                  refine Go_putIS fpX9_150 sh_106 dX9_find_98 ?_
                  refine Go_M (congrArg (gSet ((fyM M nv)) 106) (u8_25 _ _ _ _ _ _ _ _ _ _)) ?_
                  refine Go_aload_n 0 rfl rfl dX9_find_101 ?_
                  refine Go_aload_n 0 rfl rfl dX9_find_102 ?_
                  refine Go_getJv (j := 23) (v := (wgM (fyM M nv) nv np c).2.1) rfl faX9_122 sh_106 dX9_find_103 ?_
                  refine Go_putJS fpX9_153 sh_106 dX9_find_106 ?_
                  refine Go_M (congrArg (gSet ((fyM M nv)) 106) (u8_26 _ _ _ _ _ _ _ _ _ _)) ?_
                  refine Go_aload_n 0 rfl rfl dX9_find_109 ?_
                  refine Go_iconst (by unfold in32; omega) dX9_find_110 ?_
                  refine Go_putIS fpX9_156 sh_106 dX9_find_111 ?_
                  refine Go_M (congrArg (gSet ((fyM M nv)) 106) (u8_27 _ _ _ _ _ _ _ _ _ _)) ?_
                  refine Go_aload_n 0 rfl rfl dX9_find_114 ?_
                  refine Go_iconst (by unfold in32; omega) dX9_find_115 ?_
                  refine Go_putIS fpX9_159 sh_106 dX9_find_116 ?_
                  refine Go_M (congrArg (gSet ((fyM M nv)) 106) (u8_28 _ _ _ _ _ _ _ _ _ _)) ?_
                  refine Go_aload_n 0 rfl rfl dX9_find_119 ?_
                  refine Go_iconst (by unfold in32; omega) dX9_find_120 ?_
                  refine Go_putIS fpX9_162 sh_106 dX9_find_121 ?_
                  refine Go_M (congrArg (gSet ((fyM M nv)) 106) (u8_29 _ _ _ _ _ _ _ _ _ _)) ?_
                  refine Go_aload_n 0 rfl rfl dX9_find_124 ?_
                  refine Go_getJv (j := 23) (v := (wgM (fyM M nv) nv np c).2.1) rfl faX9_122 sh_106 dX9_find_125 ?_
                  refine Go_aload_n 0 rfl rfl dX9_find_128 ?_
                  refine Go_getJ faX9_153 sh_106 dX9_find_129 ?_
                  refine Go_lcmp dX9_find_132 ?_
                  refine Go_if_ne dX9_find_133 rfl (fun h133 => ?_) (fun h133 => ?_)
                  · skip
                    replace h133 := cmp_ne.mp h133
                    exact absurd rfl h133
                  · skip
                    replace h133 := cmp_eq.mp h133
                    refine Go_aload_n 0 rfl rfl dX9_find_136 ?_
                    refine Go_dupR dX9_find_137 ?_
                    refine Go_getI faX9_156 sh_106 dX9_find_138 ?_
                    refine Go_iconst (by unfold in32; omega) dX9_find_141 ?_
                    refine Go_iadd dX9_find_142 ?_
                    refine Go_putIS fpX9_156 sh_106 dX9_find_143 ?_
                    refine Go_M (congrArg (gSet ((fyM M nv)) 106) (u8_27 _ _ _ _ _ _ _ _ _ _)) ?_
                    refine Go_aload_n 0 rfl rfl dX9_find_146 ?_
                    refine Go_aload_n 0 rfl rfl dX9_find_147 ?_
                    refine Go_getI faX9_159 sh_106 dX9_find_148 ?_
                    refine Go_iload_n 3 rfl rfl dX9_find_151 ?_
                    refine Go_iand dX9_find_152 ?_
                    refine Go_putIS fpX9_159 sh_106 dX9_find_153 ?_
                    refine Go_M (congrArg (gSet ((fyM M nv)) 106) (u8_28 _ _ _ _ _ _ _ _ _ _)) ?_
                    refine Go_aload_n 0 rfl rfl dX9_find_156 ?_
                    refine Go_aload_n 0 rfl rfl dX9_find_157 ?_
                    refine Go_getI faX9_162 sh_106 dX9_find_158 ?_
                    refine Go_iload_n 3 rfl rfl dX9_find_161 ?_
                    refine Go_ior dX9_find_162 ?_
                    refine Go_putIS fpX9_162 sh_106 dX9_find_163 ?_
                    refine Go_M (congrArg (gSet ((fyM M nv)) 106) (u8_29 _ _ _ _ _ _ _ _ _ _)) ?_
                    refine Go_iincn c 1 rfl rfl (by omega) 3 (ls' := [(3, gI _), (0, gR 106), (1, gI _), (2, gI _)]) rfl dX9_find_166 (by decide) rfl ?_
                    refine Go_goto dX9_find_169 rfl ?_
                    refine Go_pick [1, 2, 3, 0] (ls' := [(0, gR 106), (1, gI _), (2, gI _), (3, gI _)]) rfl ?_
                    exact ih_34 (c + 1) _ _ _ _ _ _ _ _ (by omega) (by simp only [fdS, hx]; rw [if_pos (by exact skF_t h46 h52 h60)]; unfold fdN; rw [if_pos (by exact h72), if_pos (by exact Or.inl h81)]; try rfl)
                · skip
                  refine Go_aload_n 0 rfl rfl dX9_find_84 ?_
                  refine Go_getJv (j := 23) (v := (wgM (fyM M nv) nv np c).2.1) rfl faX9_122 sh_106 dX9_find_85 ?_
                  refine Go_aload_n 0 rfl rfl dX9_find_88 ?_
                  refine Go_getJv (j := 26) (v := l) rfl faX9_153 sh_106 dX9_find_89 ?_
                  refine Go_lcmp dX9_find_92 ?_
                  refine Go_if_ge dX9_find_93 rfl (fun h93 => ?_) (fun h93 => ?_)
                  · skip
                    replace h93 := cmp_ge.mp h93
                    refine Go_aload_n 0 rfl rfl dX9_find_124 ?_
                    refine Go_getJv (j := 23) (v := (wgM (fyM M nv) nv np c).2.1) rfl faX9_122 sh_106 dX9_find_125 ?_
                    refine Go_aload_n 0 rfl rfl dX9_find_128 ?_
                    refine Go_getJ faX9_153 sh_106 dX9_find_129 ?_
                    refine Go_lcmp dX9_find_132 ?_
                    refine Go_if_ne dX9_find_133 rfl (fun h133 => ?_) (fun h133 => ?_)
                    · skip
                      replace h133 := cmp_ne.mp h133
                      refine Go_iincn c 1 rfl rfl (by omega) 3 (ls' := [(3, gI _), (0, gR 106), (1, gI _), (2, gI _)]) rfl dX9_find_166 (by decide) rfl ?_
                      refine Go_goto dX9_find_169 rfl ?_
                      refine Go_pick [1, 2, 3, 0] (ls' := [(0, gR 106), (1, gI _), (2, gI _), (3, gI _)]) rfl ?_
                      exact ih_34 (c + 1) _ _ _ _ _ _ _ _ (by omega) (by simp only [fdS, hx]; rw [if_pos (by exact skF_t h46 h52 h60)]; unfold fdN; rw [if_pos (by exact h72), if_neg (by exact fun q => q.elim h81 (fun w => absurd w (Int.not_lt.mpr h93))), if_neg (by exact h133)]; try rfl)
                    · skip
                      replace h133 := cmp_eq.mp h133
                      refine Go_aload_n 0 rfl rfl dX9_find_136 ?_
                      refine Go_dupR dX9_find_137 ?_
                      refine Go_getI faX9_156 sh_106 dX9_find_138 ?_
                      refine Go_iconst (by unfold in32; omega) dX9_find_141 ?_
                      refine Go_iadd dX9_find_142 ?_
                      refine Go_putIS fpX9_156 sh_106 dX9_find_143 ?_
                      refine Go_M (congrArg (gSet ((fyM M nv)) 106) (u8_27 _ _ _ _ _ _ _ _ _ _)) ?_
                      refine Go_aload_n 0 rfl rfl dX9_find_146 ?_
                      refine Go_aload_n 0 rfl rfl dX9_find_147 ?_
                      refine Go_getI faX9_159 sh_106 dX9_find_148 ?_
                      refine Go_iload_n 3 rfl rfl dX9_find_151 ?_
                      refine Go_iand dX9_find_152 ?_
                      refine Go_putIS fpX9_159 sh_106 dX9_find_153 ?_
                      refine Go_M (congrArg (gSet ((fyM M nv)) 106) (u8_28 _ _ _ _ _ _ _ _ _ _)) ?_
                      refine Go_aload_n 0 rfl rfl dX9_find_156 ?_
                      refine Go_aload_n 0 rfl rfl dX9_find_157 ?_
                      refine Go_getI faX9_162 sh_106 dX9_find_158 ?_
                      refine Go_iload_n 3 rfl rfl dX9_find_161 ?_
                      refine Go_ior dX9_find_162 ?_
                      refine Go_putIS fpX9_162 sh_106 dX9_find_163 ?_
                      refine Go_M (congrArg (gSet ((fyM M nv)) 106) (u8_29 _ _ _ _ _ _ _ _ _ _)) ?_
                      refine Go_iincn c 1 rfl rfl (by omega) 3 (ls' := [(3, gI _), (0, gR 106), (1, gI _), (2, gI _)]) rfl dX9_find_166 (by decide) rfl ?_
                      refine Go_goto dX9_find_169 rfl ?_
                      refine Go_pick [1, 2, 3, 0] (ls' := [(0, gR 106), (1, gI _), (2, gI _), (3, gI _)]) rfl ?_
                      exact ih_34 (c + 1) _ _ _ _ _ _ _ _ (by omega) (by simp only [fdS, hx]; rw [if_pos (by exact skF_t h46 h52 h60)]; unfold fdN; rw [if_pos (by exact h72), if_neg (by exact fun q => q.elim h81 (fun w => absurd w (Int.not_lt.mpr h93))), if_pos (by exact h133)]; try rfl)
                  · skip
                    replace h93 := cmp_lt.mp h93
                    refine Go_aload_n 0 rfl rfl dX9_find_96 ?_
                    refine Go_iload_n 3 rfl rfl dX9_find_97 ?_
                    refine Go_putIS fpX9_150 sh_106 dX9_find_98 ?_
                    refine Go_M (congrArg (gSet ((fyM M nv)) 106) (u8_25 _ _ _ _ _ _ _ _ _ _)) ?_
                    refine Go_aload_n 0 rfl rfl dX9_find_101 ?_
                    refine Go_aload_n 0 rfl rfl dX9_find_102 ?_
                    refine Go_getJv (j := 23) (v := (wgM (fyM M nv) nv np c).2.1) rfl faX9_122 sh_106 dX9_find_103 ?_
                    refine Go_putJS fpX9_153 sh_106 dX9_find_106 ?_
                    refine Go_M (congrArg (gSet ((fyM M nv)) 106) (u8_26 _ _ _ _ _ _ _ _ _ _)) ?_
                    refine Go_aload_n 0 rfl rfl dX9_find_109 ?_
                    refine Go_iconst (by unfold in32; omega) dX9_find_110 ?_
                    refine Go_putIS fpX9_156 sh_106 dX9_find_111 ?_
                    refine Go_M (congrArg (gSet ((fyM M nv)) 106) (u8_27 _ _ _ _ _ _ _ _ _ _)) ?_
                    refine Go_aload_n 0 rfl rfl dX9_find_114 ?_
                    refine Go_iconst (by unfold in32; omega) dX9_find_115 ?_
                    refine Go_putIS fpX9_159 sh_106 dX9_find_116 ?_
                    refine Go_M (congrArg (gSet ((fyM M nv)) 106) (u8_28 _ _ _ _ _ _ _ _ _ _)) ?_
                    refine Go_aload_n 0 rfl rfl dX9_find_119 ?_
                    refine Go_iconst (by unfold in32; omega) dX9_find_120 ?_
                    refine Go_putIS fpX9_162 sh_106 dX9_find_121 ?_
                    refine Go_M (congrArg (gSet ((fyM M nv)) 106) (u8_29 _ _ _ _ _ _ _ _ _ _)) ?_
                    refine Go_aload_n 0 rfl rfl dX9_find_124 ?_
                    refine Go_getJv (j := 23) (v := (wgM (fyM M nv) nv np c).2.1) rfl faX9_122 sh_106 dX9_find_125 ?_
                    refine Go_aload_n 0 rfl rfl dX9_find_128 ?_
                    refine Go_getJ faX9_153 sh_106 dX9_find_129 ?_
                    refine Go_lcmp dX9_find_132 ?_
                    refine Go_if_ne dX9_find_133 rfl (fun h133 => ?_) (fun h133 => ?_)
                    · skip
                      replace h133 := cmp_ne.mp h133
                      exact absurd rfl h133
                    · skip
                      replace h133 := cmp_eq.mp h133
                      refine Go_aload_n 0 rfl rfl dX9_find_136 ?_
                      refine Go_dupR dX9_find_137 ?_
                      refine Go_getI faX9_156 sh_106 dX9_find_138 ?_
                      refine Go_iconst (by unfold in32; omega) dX9_find_141 ?_
                      refine Go_iadd dX9_find_142 ?_
                      refine Go_putIS fpX9_156 sh_106 dX9_find_143 ?_
                      refine Go_M (congrArg (gSet ((fyM M nv)) 106) (u8_27 _ _ _ _ _ _ _ _ _ _)) ?_
                      refine Go_aload_n 0 rfl rfl dX9_find_146 ?_
                      refine Go_aload_n 0 rfl rfl dX9_find_147 ?_
                      refine Go_getI faX9_159 sh_106 dX9_find_148 ?_
                      refine Go_iload_n 3 rfl rfl dX9_find_151 ?_
                      refine Go_iand dX9_find_152 ?_
                      refine Go_putIS fpX9_159 sh_106 dX9_find_153 ?_
                      refine Go_M (congrArg (gSet ((fyM M nv)) 106) (u8_28 _ _ _ _ _ _ _ _ _ _)) ?_
                      refine Go_aload_n 0 rfl rfl dX9_find_156 ?_
                      refine Go_aload_n 0 rfl rfl dX9_find_157 ?_
                      refine Go_getI faX9_162 sh_106 dX9_find_158 ?_
                      refine Go_iload_n 3 rfl rfl dX9_find_161 ?_
                      refine Go_ior dX9_find_162 ?_
                      refine Go_putIS fpX9_162 sh_106 dX9_find_163 ?_
                      refine Go_M (congrArg (gSet ((fyM M nv)) 106) (u8_29 _ _ _ _ _ _ _ _ _ _)) ?_
                      refine Go_iincn c 1 rfl rfl (by omega) 3 (ls' := [(3, gI _), (0, gR 106), (1, gI _), (2, gI _)]) rfl dX9_find_166 (by decide) rfl ?_
                      refine Go_goto dX9_find_169 rfl ?_
                      refine Go_pick [1, 2, 3, 0] (ls' := [(0, gR 106), (1, gI _), (2, gI _), (3, gI _)]) rfl ?_
                      exact ih_34 (c + 1) _ _ _ _ _ _ _ _ (by omega) (by simp only [fdS, hx]; rw [if_pos (by exact skF_t h46 h52 h60)]; unfold fdN; rw [if_pos (by exact h72), if_pos (by exact Or.inr h93)]; try rfl)
  refine Go_aload_n 0 rfl rfl dX9_find_0 ?_
  refine Go_callV0 (q := vwCl[9]) (fX9_findWays hC) cwX9_112 imX9_findWays rfl rfl ⟨Nat.le_of_ble_eq_true rfl, Nat.le_of_ble_eq_true rfl⟩ sh_106 rfl (Nat.le_of_ble_eq_true rfl) sh_rf dX9_find_1 ?_
  refine Go_M (M2 := fyM M nv) rfl ?_
  refine Go_o 106 ?_
  refine Go_aload_n 0 rfl rfl dX9_find_4 ?_
  refine Go_bipush ⟨by decide, by unfold in32; omega⟩ dX9_find_5 ?_
  refine Go_putIS fpX9_150 sh_106 dX9_find_7 ?_
  refine Go_aload_n 0 rfl rfl dX9_find_10 ?_
  refine Go_ldc2 klX9_148 (by unfold in64; omega) dX9_find_11 ?_
  refine Go_putJS fpX9_153 sh_106 dX9_find_14 ?_
  refine Go_aload_n 0 rfl rfl dX9_find_17 ?_
  refine Go_iconst (by unfold in32; omega) dX9_find_18 ?_
  refine Go_putIS fpX9_156 sh_106 dX9_find_19 ?_
  refine Go_aload_n 0 rfl rfl dX9_find_22 ?_
  refine Go_iconst (by unfold in32; omega) dX9_find_23 ?_
  refine Go_putIS fpX9_159 sh_106 dX9_find_24 ?_
  refine Go_aload_n 0 rfl rfl dX9_find_27 ?_
  refine Go_iconst (by unfold in32; omega) dX9_find_28 ?_
  refine Go_putIS fpX9_162 sh_106 dX9_find_29 ?_
  refine Go_M (M2 := gSet (fyM M nv) 106 (gUp (gUp (gUp (gUp (gUp (gUp (gUp (gUp ((M 106)) 22 (M 106 22)) 23 (M 106 23)) 24 (M 106 24)) 25 (-4)) 26 (-4)) 27 (0)) 28 (-1)) 29 (0))) (by rw [wh_id]; rfl) ?_
  refine Go_iconst (by unfold in32; omega) dX9_find_32 ?_
  refine Go_istore_n (ls' := [(3, gI _), (0, gR 106), (1, gI _), (2, gI _)]) rfl dX9_find_33 (by decide) rfl ?_
  refine Go_pick [1, 2, 3, 0] (ls' := [(0, gR 106), (1, gI _), (2, gI _), (3, gI _)]) rfl ?_
  exact loop_34 (2 ^ np) 0 _ _ _ _ _ _ _ _ (by omega) rfl
