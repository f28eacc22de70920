theorem u3_22 (f : Nat → Int) (x22 x23 x24 y : Int) : gUp (gUp (gUp (gUp f 22 (x22)) 23 (x23)) 24 (x24)) 22 y = gUp (gUp (gUp f 22 (y)) 23 (x23)) 24 (x24) := by
  rw [gUp_cm (i := 24) (j := 22) (by decide), gUp_cm (i := 23) (j := 22) (by decide), gUp_uu]
theorem u3_23 (f : Nat → Int) (x22 x23 x24 y : Int) : gUp (gUp (gUp (gUp f 22 (x22)) 23 (x23)) 24 (x24)) 23 y = gUp (gUp (gUp f 22 (x22)) 23 (y)) 24 (x24) := by
  rw [gUp_cm (i := 24) (j := 23) (by decide), gUp_uu]
theorem u3_24 (f : Nat → Int) (x22 x23 x24 y : Int) : gUp (gUp (gUp (gUp f 22 (x22)) 23 (x23)) 24 (x24)) 24 y = gUp (gUp (gUp f 22 (x22)) 23 (x23)) 24 (y) := by
  rw [gUp_uu]
abbrev T3 : Type := Int × Int × Int
def wgS (B sv : Nat → Int) (car : Nat → Nat → Int) (x : Int) : Nat → T3
  | 0 => (0, x, 0)
  | v + 1 => if 0 < B v then (if sv v = -4 then (w32 ((wgS B sv car x v).1 + 1), (wgS B sv car x v).2.1, (wgS B sv car x v).2.2) else ((wgS B sv car x v).1, w64 ((wgS B sv car x v).2.1 + w64 (B v * car (sv v).toNat v)), if (wgS B sv car x v).2.2 < car (sv v).toNat v then car (sv v).toNat v else (wgS B sv car x v).2.2)) else wgS B sv car x v
abbrev mcM (M : gMem) (p v : Nat) : Int := mcF (M 110) (M 111) (M 113) (M 124) p v
def svM9 (M : gMem) (np c v : Nat) : Int := svS (fun p => mcM M p v) c np
def wgM (M : gMem) (nv np c : Nat) : T3 := wgS (M 107) (svM9 M np c) (mcM M) (ocS (M 111) (M 112) c np) nv
def whF (f : Nat → Int) (z : T3) : Nat → Int := gUp (gUp (gUp f 22 z.1) 23 z.2.1) 24 z.2.2
set_option maxHeartbeats 4000000 in
set_option maxRecDepth 100000 in
theorem fX9_weigh {D : va_G} {ca : Nat → ClassId} {M : gMem} {nv np : Nat} (hC : MS M nv np) (hH : ∀ p, p < np → ∃ z : Nat, z < 12 ∧ M 110 p = (z : Int)) (f : Nat → Int) (hf : agM f (M 106)) (c : Nat) (hc : c < 1024) : Fn D ca mX9_weigh [gR 106, gI (c : Int)] SH (gSet M 106 f) [] SH (gSet M 106 (whF f (wgM M nv np c))) := by
  refine Fn_of okX9_weigh (Nat.le_of_ble_eq_true rfl) (Or.inl ⟨rfl, rfl⟩) (Nat.le_refl _) (Nat.le_refl _) ?_
  refine Go_ls2 (ls' := [(0, gR 106), (1, gI _)]) rfl ?_
  have hv12 := hC.2.2.1
  have hn10 := hC.2.2.2.2
  have loop_61 : ∀ (k : Nat) (v : Nat) (u q r : Int), v + k = nv → wgS (M 107) (svM9 M np c) (mcM M) (ocS (M 111) (M 112) c np) v = (u, q, r) → Go D ca none (gRm mX9_weigh (SH.length - SH.length) (gSz SH - gSz SH)) mX9_weigh 61 [(0, gR 106), (1, gI (c : Int)), (2, gI (v : Int))] [] SH (gSet M 106 (gUp (gUp (gUp f 22 (u)) 23 (q)) 24 (r))) [] SH (gSet M 106 (whF f (wgM M nv np c))) := by
    intro k
    induction k with
    | zero =>
      intro v u q r he hx
      obtain rfl : nv = v := by omega
      refine Go_iload_n 2 rfl rfl dX9_weigh_61 ?_
      refine Go_aload_n 0 rfl rfl dX9_weigh_62 ?_
      refine Go_getIv (j := 0) (v := (nv : Int)) ((hf 0 (by decide)).trans hC.2.1) faX9_75 sh_106 dX9_weigh_63 ?_
      refine Go_icmp_ge dX9_weigh_66 rfl (fun h66 => ?_) (fun h66 => ?_)
      · skip
        rw [show wgM M nv np c = (u, q, r) from hx]
        exact Go_ret rfl dX9_weigh_164
      · skip
        exact absurd h66 (by omega)
    | succ k ih_61 =>
      intro v u q r he hx
      refine Go_iload_n 2 rfl rfl dX9_weigh_61 ?_
      refine Go_aload_n 0 rfl rfl dX9_weigh_62 ?_
      refine Go_getIv (j := 0) (v := (nv : Int)) ((hf 0 (by decide)).trans hC.2.1) faX9_75 sh_106 dX9_weigh_63 ?_
      refine Go_icmp_ge dX9_weigh_66 rfl (fun h66 => ?_) (fun h66 => ?_)
      · skip
        exact absurd h66 (by omega)
      · skip
        refine Go_aload_n 0 rfl rfl dX9_weigh_69 ?_
        refine Go_getR (c' := 107) faX9_7 sh_106 ((hf 1 (by decide)).trans (pt_106_1 (M := M) hC.1)) dX9_weigh_70 ?_
        refine Go_iload_n 2 rfl rfl dX9_weigh_73 ?_
        refine Go_ialoadv v (v := M 107 (v)) rfl sh_107 rfl (by omega) dX9_weigh_74 ?_
        refine Go_if_le dX9_weigh_75 rfl (fun h75 => ?_) (fun h75 => ?_)
        · skip
          refine Go_iincn v 1 rfl rfl (by omega) 2 (ls' := [(2, gI _), (0, gR 106), (1, gI _)]) rfl dX9_weigh_158 (by decide) rfl ?_
          refine Go_goto dX9_weigh_161 rfl ?_
          refine Go_pick [1, 2, 0] (ls' := [(0, gR 106), (1, gI _), (2, gI _)]) rfl ?_
          exact ih_61 (v + 1) _ _ _ (by omega) (by simp only [wgS, hx]; first | rw [if_neg (show ¬ (0 < M 107 v) by omega)] | rw [if_pos (show 0 < M 107 v by omega), if_pos (by exact h88)] | rw [if_pos (show 0 < M 107 v by omega), show svM9 M np c v = (po : Int) from epo, if_neg (show ¬ ((po : Int) = -4) by omega), Int.toNat_natCast, if_pos (by exact h139)] | rw [if_pos (show 0 < M 107 v by omega), show svM9 M np c v = (po : Int) from epo, if_neg (show ¬ ((po : Int) = -4) by omega), Int.toNat_natCast, if_neg (by exact Int.not_lt.mpr h139)])
        · skip
          refine Go_aload_n 0 rfl rfl dX9_weigh_78 ?_
          refine Go_iload_n 1 rfl rfl dX9_weigh_79 ?_
          refine Go_iload_n 2 rfl rfl dX9_weigh_80 ?_
          refine Go_callVI (q := vwCl[9]) (fX9_servedBy (MS_ob hC (agM_up (agM_up (agM_up hf (by decide)) (by decide)) (by decide))) hH c v hc (by omega)) cwX9_133 imX9_servedBy rfl rfl ⟨Nat.le_of_ble_eq_true rfl, Nat.le_of_ble_eq_true rfl⟩ sh_106 rfl (Nat.le_of_ble_eq_true rfl) sh_rf dX9_weigh_81 ?_
          refine Go_topI (v := svM9 M np c v) rfl ?_
          refine Go_istore_n (ls' := [(3, gI _), (0, gR 106), (1, gI _), (2, gI _)]) rfl dX9_weigh_84 (by decide) rfl ?_
          refine Go_iload_n 0 rfl rfl dX9_weigh_85 ?_
          refine Go_bipush ⟨by decide, by unfold in32; omega⟩ dX9_weigh_86 ?_
          refine Go_icmp_ne dX9_weigh_88 rfl (fun h88 => ?_) (fun h88 => ?_)
          · skip
            obtain ⟨po, hpo, epo⟩ := svS_nat _ c np h88
            rw [show svM9 M np c v = (po : Int) from epo]
            obtain ⟨z, hz, ez⟩ := hH po hpo
            refine Go_aload_n 1 rfl rfl dX9_weigh_104 ?_
            refine Go_dupR dX9_weigh_105 ?_
            refine Go_getJv (j := 23) (v := q) rfl faX9_122 sh_106 dX9_weigh_106 ?_
            refine Go_aload_n 1 rfl rfl dX9_weigh_109 ?_
            refine Go_getR (c' := 107) faX9_7 sh_106 ((hf 1 (by decide)).trans (pt_106_1 (M := M) hC.1)) dX9_weigh_110 ?_
            refine Go_iload_n 3 rfl rfl dX9_weigh_113 ?_
            refine Go_ialoadv v (v := M 107 (v)) rfl sh_107 rfl (by omega) dX9_weigh_114 ?_
            refine Go_i2l dX9_weigh_115 ?_
            refine Go_aload_n 1 rfl rfl dX9_weigh_116 ?_
            refine Go_iload_n 0 rfl rfl dX9_weigh_117 ?_
            refine Go_iload_n 3 rfl rfl dX9_weigh_118 ?_
            refine Go_callVI (q := vwCl[9]) (fX9_carried (MS_ob hC (agM_up (agM_up (agM_up hf (by decide)) (by decide)) (by decide))).1 po v z (by omega) (by omega) ez hz) cwX9_115 imX9_carried rfl rfl ⟨Nat.le_of_ble_eq_true rfl, Nat.le_of_ble_eq_true rfl⟩ sh_106 rfl (Nat.le_of_ble_eq_true rfl) sh_rf dX9_weigh_119 ?_
            refine Go_topI (v := mcM M po v) rfl ?_
            refine Go_i2l dX9_weigh_122 ?_
            refine Go_lmul dX9_weigh_123 ?_
            refine Go_ladd dX9_weigh_124 ?_
            refine Go_putJS fpX9_122 sh_106 dX9_weigh_125 ?_
            refine Go_M (congrArg (gSet M 106) (u3_23 _ _ _ _ _)) ?_
            refine Go_aload_n 1 rfl rfl dX9_weigh_128 ?_
            refine Go_aload_n 1 rfl rfl dX9_weigh_129 ?_
            refine Go_iload_n 0 rfl rfl dX9_weigh_130 ?_
            refine Go_iload_n 3 rfl rfl dX9_weigh_131 ?_
            refine Go_callVI (q := vwCl[9]) (fX9_carried (MS_ob hC (agM_up (agM_up (agM_up hf (by decide)) (by decide)) (by decide))).1 po v z (by omega) (by omega) ez hz) cwX9_115 imX9_carried rfl rfl ⟨Nat.le_of_ble_eq_true rfl, Nat.le_of_ble_eq_true rfl⟩ sh_106 rfl (Nat.le_of_ble_eq_true rfl) sh_rf dX9_weigh_132 ?_
            refine Go_topI (v := mcM M po v) rfl ?_
            refine Go_aload_n 1 rfl rfl dX9_weigh_135 ?_
            refine Go_getIv (j := 24) (v := r) rfl faX9_126 sh_106 dX9_weigh_136 ?_
            refine Go_icmp_le dX9_weigh_139 rfl (fun h139 => ?_) (fun h139 => ?_)
            · skip
              refine Go_aload_n 1 rfl rfl dX9_weigh_151 ?_
              refine Go_getIv (j := 24) (v := r) rfl faX9_126 sh_106 dX9_weigh_152 ?_
              refine Go_putIS fpX9_126 sh_106 dX9_weigh_155 ?_
              refine Go_M (congrArg (gSet M 106) (u3_24 _ _ _ _ _)) ?_
              refine Go_iincn v 1 rfl rfl (by omega) 3 (ls' := [(2, gI _), (3, gI _), (0, gR 106), (1, gI _)]) rfl dX9_weigh_158 (by decide) rfl ?_
              refine Go_goto dX9_weigh_161 rfl ?_
              refine Go_pick [2, 3, 0] (ls' := [(0, gR 106), (1, gI _), (2, gI _)]) rfl ?_
              exact ih_61 (v + 1) _ _ _ (by omega) (by simp only [wgS, hx]; first | rw [if_neg (show ¬ (0 < M 107 v) by omega)] | rw [if_pos (show 0 < M 107 v by omega), if_pos (by exact h88)] | rw [if_pos (show 0 < M 107 v by omega), show svM9 M np c v = (po : Int) from epo, if_neg (show ¬ ((po : Int) = -4) by omega), Int.toNat_natCast, if_pos (by exact h139)] | rw [if_pos (show 0 < M 107 v by omega), show svM9 M np c v = (po : Int) from epo, if_neg (show ¬ ((po : Int) = -4) by omega), Int.toNat_natCast, if_neg (by exact Int.not_lt.mpr h139)])
            · skip
              refine Go_aload_n 1 rfl rfl dX9_weigh_142 ?_
              refine Go_iload_n 0 rfl rfl dX9_weigh_143 ?_
              refine Go_iload_n 3 rfl rfl dX9_weigh_144 ?_
              refine Go_callVI (q := vwCl[9]) (fX9_carried (MS_ob hC (agM_up (agM_up (agM_up hf (by decide)) (by decide)) (by decide))).1 po v z (by omega) (by omega) ez hz) cwX9_115 imX9_carried rfl rfl ⟨Nat.le_of_ble_eq_true rfl, Nat.le_of_ble_eq_true rfl⟩ sh_106 rfl (Nat.le_of_ble_eq_true rfl) sh_rf dX9_weigh_145 ?_
              refine Go_topI (v := mcM M po v) rfl ?_
              refine Go_goto dX9_weigh_148 rfl ?_
              refine Go_putIS fpX9_126 sh_106 dX9_weigh_155 ?_
              refine Go_M (congrArg (gSet M 106) (u3_24 _ _ _ _ _)) ?_
              refine Go_iincn v 1 rfl rfl (by omega) 3 (ls' := [(2, gI _), (3, gI _), (0, gR 106), (1, gI _)]) rfl dX9_weigh_158 (by decide) rfl ?_
              refine Go_goto dX9_weigh_161 rfl ?_
              refine Go_pick [2, 3, 0] (ls' := [(0, gR 106), (1, gI _), (2, gI _)]) rfl ?_
              exact ih_61 (v + 1) _ _ _ (by omega) (by simp only [wgS, hx]; first | rw [if_neg (show ¬ (0 < M 107 v) by omega)] | rw [if_pos (show 0 < M 107 v by omega), if_pos (by exact h88)] | rw [if_pos (show 0 < M 107 v by omega), show svM9 M np c v = (po : Int) from epo, if_neg (show ¬ ((po : Int) = -4) by omega), Int.toNat_natCast, if_pos (by exact h139)] | rw [if_pos (show 0 < M 107 v by omega), show svM9 M np c v = (po : Int) from epo, if_neg (show ¬ ((po : Int) = -4) by omega), Int.toNat_natCast, if_neg (by exact Int.not_lt.mpr h139)])
          · skip
            refine Go_aload_n 1 rfl rfl dX9_weigh_91 ?_
            refine Go_dupR dX9_weigh_92 ?_
            refine Go_getIv (j := 22) (v := u) rfl faX9_119 sh_106 dX9_weigh_93 ?_
            refine Go_iconst (by unfold in32; omega) dX9_weigh_96 ?_
            refine Go_iadd dX9_weigh_97 ?_
            refine Go_putIS fpX9_119 sh_106 dX9_weigh_98 ?_
            refine Go_M (congrArg (gSet M 106) (u3_22 _ _ _ _ _)) ?_
            refine Go_goto dX9_weigh_101 rfl ?_
            refine Go_iincn v 1 rfl rfl (by omega) 3 (ls' := [(2, gI _), (3, gI _), (0, gR 106), (1, gI _)]) rfl dX9_weigh_158 (by decide) rfl ?_
            refine Go_goto dX9_weigh_161 rfl ?_
            refine Go_pick [2, 3, 0] (ls' := [(0, gR 106), (1, gI _), (2, gI _)]) rfl ?_
            exact ih_61 (v + 1) _ _ _ (by omega) (by simp only [wgS, hx]; first | rw [if_neg (show ¬ (0 < M 107 v) by omega)] | rw [if_pos (show 0 < M 107 v by omega), if_pos (by exact h88)] | rw [if_pos (show 0 < M 107 v by omega), show svM9 M np c v = (po : Int) from epo, if_neg (show ¬ ((po : Int) = -4) by omega), Int.toNat_natCast, if_pos (by exact h139)] | rw [if_pos (show 0 < M 107 v by omega), show svM9 M np c v = (po : Int) from epo, if_neg (show ¬ ((po : Int) = -4) by omega), Int.toNat_natCast, if_neg (by exact Int.not_lt.mpr h139)])
  have loop_17 : ∀ (k : Nat) (p : Nat) (x : Int), p + k = np → ocS (M 111) (M 112) c p = x → Go D ca none (gRm mX9_weigh (SH.length - SH.length) (gSz SH - gSz SH)) mX9_weigh 17 [(0, gR 106), (1, gI (c : Int)), (2, gI (p : Int))] [] SH (gSet M 106 (gUp (gUp (gUp f 22 (0)) 23 (x)) 24 (0))) [] SH (gSet M 106 (whF f (wgM M nv np c))) := by
    intro k
    induction k with
    | zero =>
      intro p x he hx
      obtain rfl : np = p := by omega
      refine Go_iload_n 2 rfl rfl dX9_weigh_17 ?_
      refine Go_aload_n 0 rfl rfl dX9_weigh_18 ?_
      refine Go_getIv (j := 4) (v := (np : Int)) ((hf 4 (by decide)).trans hC.2.2.2.1) faX9_78 sh_106 dX9_weigh_19 ?_
      refine Go_icmp_ge dX9_weigh_22 rfl (fun h22 => ?_) (fun h22 => ?_)
      · skip
        refine Go_iconst (by unfold in32; omega) dX9_weigh_59 ?_
        refine Go_istore_n (ls' := [(2, gI _), (0, gR 106), (1, gI _)]) rfl dX9_weigh_60 (by decide) rfl ?_
        refine Go_pick [1, 2, 0] (ls' := [(0, gR 106), (1, gI _), (2, gI _)]) rfl ?_
        exact loop_61 nv 0 _ _ _ (by omega) (by rw [← hx]; rfl)
      · skip
        exact absurd h22 (by omega)
    | succ k ih_17 =>
      intro p x he hx
      refine Go_iload_n 2 rfl rfl dX9_weigh_17 ?_
      refine Go_aload_n 0 rfl rfl dX9_weigh_18 ?_
      refine Go_getIv (j := 4) (v := (np : Int)) ((hf 4 (by decide)).trans hC.2.2.2.1) faX9_78 sh_106 dX9_weigh_19 ?_
      refine Go_icmp_ge dX9_weigh_22 rfl (fun h22 => ?_) (fun h22 => ?_)
      · skip
        exact absurd h22 (by omega)
      · skip
        refine Go_aload_n 0 rfl rfl dX9_weigh_25 ?_
        refine Go_dupR dX9_weigh_26 ?_
        refine Go_getJv (j := 23) (v := x) rfl faX9_122 sh_106 dX9_weigh_27 ?_
        refine Go_iload_n 1 rfl rfl dX9_weigh_30 ?_
        refine Go_iload_n 2 rfl rfl dX9_weigh_31 ?_
        refine Go_ishr dX9_weigh_32 ?_
        refine Go_iconst (by unfold in32; omega) dX9_weigh_33 ?_
        refine Go_iand dX9_weigh_34 ?_
        refine Go_topI (v := bI (c.testBit p = true)) (bit_s (by omega) (by omega)) ?_
        refine Go_iconst (by unfold in32; omega) dX9_weigh_35 ?_
        refine Go_icmp_ne dX9_weigh_36 rfl (fun h36 => ?_) (fun h36 => ?_)
        · skip
          have hb : ¬ c.testBit p = true := fun q => h36 (bI_t q)
          refine Go_lconst (v := 0) ⟨rfl, by unfold in64; omega⟩ dX9_weigh_48 ?_
          refine Go_ladd dX9_weigh_49 ?_
          refine Go_putJS fpX9_122 sh_106 dX9_weigh_50 ?_
          refine Go_M (congrArg (gSet M 106) (u3_23 _ _ _ _ _)) ?_
          refine Go_iincn p 1 rfl rfl (by omega) 2 (ls' := [(2, gI _), (0, gR 106), (1, gI _)]) rfl dX9_weigh_53 (by decide) rfl ?_
          refine Go_goto dX9_weigh_56 rfl ?_
          refine Go_pick [1, 2, 0] (ls' := [(0, gR 106), (1, gI _), (2, gI _)]) rfl ?_
          exact ih_17 (p + 1) _ (by omega) (by simp only [ocS, hx]; first | rw [if_pos (by exact hb)] | rw [if_neg (by exact hb)])
        · skip
          have hb : c.testBit p = true := bI_n.mp (by rw [h36]; decide)
          refine Go_aload_n 0 rfl rfl dX9_weigh_39 ?_
          refine Go_iload_n 2 rfl rfl dX9_weigh_40 ?_
          refine Go_callVI (q := vwCl[9]) (fX9_ovenCost (MS_ob hC (agM_up (agM_up (agM_up hf (by decide)) (by decide)) (by decide))).1 p (by omega)) cwX9_129 imX9_ovenCost rfl rfl ⟨Nat.le_of_ble_eq_true rfl, Nat.le_of_ble_eq_true rfl⟩ sh_106 rfl (Nat.le_of_ble_eq_true rfl) sh_rf dX9_weigh_41 ?_
          refine Go_topI (v := ocF (M 111) (M 112) p) rfl ?_
          refine Go_i2l dX9_weigh_44 ?_
          refine Go_goto dX9_weigh_45 rfl ?_
          refine Go_ladd dX9_weigh_49 ?_
          refine Go_putJS fpX9_122 sh_106 dX9_weigh_50 ?_
          refine Go_M (congrArg (gSet M 106) (u3_23 _ _ _ _ _)) ?_
          refine Go_iincn p 1 rfl rfl (by omega) 2 (ls' := [(2, gI _), (0, gR 106), (1, gI _)]) rfl dX9_weigh_53 (by decide) rfl ?_
          refine Go_goto dX9_weigh_56 rfl ?_
          refine Go_pick [1, 2, 0] (ls' := [(0, gR 106), (1, gI _), (2, gI _)]) rfl ?_
          exact ih_17 (p + 1) _ (by omega) (by simp only [ocS, hx]; first | rw [if_pos (by exact hb)] | rw [if_neg (by exact hb)])
  refine Go_aload_n 0 rfl rfl dX9_weigh_0 ?_
  refine Go_iconst (by unfold in32; omega) dX9_weigh_1 ?_
  refine Go_putIS fpX9_119 sh_106 dX9_weigh_2 ?_
  refine Go_aload_n 0 rfl rfl dX9_weigh_5 ?_
  refine Go_lconst (v := 0) ⟨rfl, by unfold in64; omega⟩ dX9_weigh_6 ?_
  refine Go_putJS fpX9_122 sh_106 dX9_weigh_7 ?_
  refine Go_aload_n 0 rfl rfl dX9_weigh_10 ?_
  refine Go_iconst (by unfold in32; omega) dX9_weigh_11 ?_
  refine Go_putIS fpX9_126 sh_106 dX9_weigh_12 ?_
  refine Go_iconst (by unfold in32; omega) dX9_weigh_15 ?_
  refine Go_istore_n (ls' := [(2, gI _), (0, gR 106), (1, gI _)]) rfl dX9_weigh_16 (by decide) rfl ?_
  refine Go_pick [1, 2, 0] (ls' := [(0, gR 106), (1, gI _), (2, gI _)]) rfl ?_
  exact loop_17 np 0 _ (by omega) rfl
