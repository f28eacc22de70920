def wo9M (M : gMem) (nv np : Nat) : Nat → gMem
  | 0 => gSet (fyM M nv) 106 (r8 (M 106) (fdM M nv np (-4) 0))
  | p + 1 => if M 111 p = 3 then wo9M M nv np p else gSet (fyM (wo9M M nv np p) nv) 106 (r8 ((wo9M M nv np p) 106) (fdM (wo9M M nv np p) nv np (-4) (l32 1 (p : Int))))
theorem MS_ws {M : gMem} {nv np : Nat} (hC : MS M nv np) : ∀ p : Nat, MS (wo9M M nv np p) nv np
  | 0 => MS_fd hC _
  | p + 1 => by
    simp only [wo9M]
    split
    · exact MS_ws hC p
    · exact MS_fd (MS_ws hC p) _
theorem fd_o {M : gMem} {nv i : Nat} {s : T3 × T5} (h1 : i ≠ 106) (h2 : i ≠ 124) : gSet (fyM M nv) 106 (r8 (M 106) s) i = M i := by
  rw [gSet_n h1]
  unfold fyM
  rw [gSet_n h2]
theorem ws_o {M : gMem} {nv np i : Nat} (h1 : i ≠ 106) (h2 : i ≠ 124) : ∀ p : Nat, wo9M M nv np p i = M i
  | 0 => fd_o h1 h2
  | p + 1 => by
    simp only [wo9M]
    split
    · exact ws_o h1 h2 p
    · rw [fd_o h1 h2, ws_o h1 h2 p]
def wo9V (M : gMem) (nv np p : Nat) : Int := if (fdM (wo9M M nv np p) nv np (-4) (l32 1 (p : Int))).2.1 = -4 then 9223372036854775807 else (fdM (wo9M M nv np p) nv np (-4) (l32 1 (p : Int))).2.2.1
def wo9S (M : gMem) (nv np : Nat) : Nat → Int × Int
  | 0 => (-4, 0)
  | p + 1 => if M 111 p ≠ 3 ∧ ((wo9S M nv np p).1 = -4 ∨ (wo9S M nv np p).2 < wo9V M nv np p) then ((p : Int), wo9V M nv np p) else wo9S M nv np p
set_option maxHeartbeats 4000000 in
set_option maxRecDepth 100000 in
theorem pX9_worst_none {D : va_G} {ca : Nat → ClassId} {M : gMem} {nv np : Nat} (hC : MS M nv np) (hH : ∀ p, p < np → ∃ z : Nat, z < 12 ∧ M 110 p = (z : Int)) (h : (fdM M nv np (-4) 0).2.1 = -4) : Fn D ca mX9_worst [gR 106] SH M [gI (-4)] SH (gSet (fyM M nv) 106 (r8 (M 106) (fdM M nv np (-4) 0))) := by
  refine Fn_of okX9_worst (Nat.le_of_ble_eq_true rfl) (Or.inr (Or.inl ⟨_, rfl, rfl⟩)) (Nat.le_refl _) (Nat.le_refl _) ?_
  refine Go_ls2 (ls' := [(0, gR 106)]) rfl ?_
  have hv12 := hC.2.2.1
  have hn10 := hC.2.2.2.2
  refine Go_aload_n 0 rfl rfl dX9_worst_0 ?_
  refine Go_bipush ⟨by decide, by unfold in32; omega⟩ dX9_worst_1 ?_
  refine Go_iconst (by unfold in32; omega) dX9_worst_3 ?_
  refine Go_callV0 (q := vwCl[9]) (fX9_find hC hH (-4) 0) cwX9_165 imX9_find rfl rfl ⟨Nat.le_of_ble_eq_true rfl, Nat.le_of_ble_eq_true rfl⟩ sh_106 rfl (Nat.le_of_ble_eq_true rfl) sh_rf dX9_worst_4 ?_
  have hN := MS_fd hC (fdM M nv np (-4) 0)
  refine Go_aload_n 0 rfl rfl dX9_worst_7 ?_
  refine Go_getIv (v := (fdM M nv np (-4) 0).2.1) rfl faX9_150 sh_106 dX9_worst_8 ?_
  refine Go_bipush ⟨by decide, by unfold in32; omega⟩ dX9_worst_11 ?_
  refine Go_icmp_ne dX9_worst_13 rfl (fun h13 => ?_) (fun h13 => ?_)
  · skip
    exact absurd h h13
  · skip
    refine Go_bipush ⟨by decide, by unfold in32; omega⟩ dX9_worst_16 ?_
    exact Go_ret rfl dX9_worst_18
set_option maxHeartbeats 4000000 in
set_option maxRecDepth 100000 in
theorem pX9_worst {D : va_G} {ca : Nat → ClassId} {M : gMem} {nv np : Nat} (hC : MS M nv np) (hH : ∀ p, p < np → ∃ z : Nat, z < 12 ∧ M 110 p = (z : Int)) (h : (fdM M nv np (-4) 0).2.1 ≠ -4) : Fn D ca mX9_worst [gR 106] SH M [gI (wo9S M nv np np).1] SH (wo9M M nv np np) := by
  refine Fn_of okX9_worst (Nat.le_of_ble_eq_true rfl) (Or.inr (Or.inl ⟨_, rfl, rfl⟩)) (Nat.le_refl _) (Nat.le_refl _) ?_
  refine Go_ls2 (ls' := [(0, gR 106)]) rfl ?_
  have hv12 := hC.2.2.1
  have hn10 := hC.2.2.2.2
  have loop_27 : ∀ (k : Nat) (p : Nat) (x y : Int), p + k = np → wo9S M nv np p = (x, y) → Go D ca none (gRm mX9_worst (SH.length - SH.length) (gSz SH - gSz SH)) mX9_worst 27 [(0, gR 106), (1, gI x), (2, gJ y), (4, gI (p : Int))] [] SH ((wo9M M nv np p)) [gI (wo9S M nv np np).1] SH (wo9M M nv np np) := by
    intro k
    induction k with
    | zero =>
      intro p x y he hx
      have ep : p = np := by omega
      have hNp := MS_ws hC p
      refine Go_iload 3 rfl dX9_worst_27 ?_
      refine Go_aload_n 0 rfl rfl dX9_worst_29 ?_
      refine Go_getIv (v := (np : Int)) hNp.2.2.2.1 faX9_78 sh_106 dX9_worst_30 ?_
      refine Go_icmp_ge dX9_worst_33 rfl (fun h33 => ?_) (fun h33 => ?_)
      · skip
        refine Go_iload_n 1 rfl rfl dX9_worst_103 ?_
        subst ep
        exact Go_ret (by rw [hx]) dX9_worst_104
      · skip
        exact absurd h33 (by omega)
    | succ k ih_27 =>
      intro p x y he hx
      have hNp := MS_ws hC p
      have hHp : ∀ q, q < np → ∃ z : Nat, z < 12 ∧ wo9M M nv np p 110 q = (z : Int) := fun q hq => by rw [ws_o (by decide) (by decide)]; exact hH q hq
      refine Go_iload 3 rfl dX9_worst_27 ?_
      refine Go_aload_n 0 rfl rfl dX9_worst_29 ?_
      refine Go_getIv (v := (np : Int)) hNp.2.2.2.1 faX9_78 sh_106 dX9_worst_30 ?_
      refine Go_icmp_ge dX9_worst_33 rfl (fun h33 => ?_) (fun h33 => ?_)
      · skip
        exact absurd h33 (by omega)
      · skip
        refine Go_aload_n 0 rfl rfl dX9_worst_36 ?_
        refine Go_getR (c' := 111) faX9_23 sh_106 (pt_106_6 hNp.1) dX9_worst_37 ?_
        refine Go_iload 3 rfl dX9_worst_40 ?_
        refine Go_ialoadv p (v := M 111 (p)) (by rw [ws_o (by decide) (by decide)]) sh_111 rfl (by omega) dX9_worst_42 ?_
        refine Go_iconst (by unfold in32; omega) dX9_worst_43 ?_
        refine Go_icmp_eq dX9_worst_44 rfl (fun h44 => ?_) (fun h44 => ?_)
        · skip
          refine Go_iincn p 1 rfl rfl (by omega) 3 (ls' := [(4, gI _), (0, gR 106), (1, gI _), (2, gJ _)]) rfl dX9_worst_97 (by decide) rfl ?_
          refine Go_goto dX9_worst_100 rfl ?_
          refine Go_pick [1, 2, 3, 0] (ls' := [(0, gR 106), (1, gI _), (2, gJ _), (4, gI _)]) rfl ?_
          rw [show wo9M M nv np p = wo9M M nv np (p + 1) from ((if_pos h44 : wo9M M nv np (p + 1) = wo9M M nv np p)).symm]
          exact ih_27 (p + 1) _ _ (by omega) (by simp only [wo9S, hx]; rw [if_neg (by exact fun q => q.1 h44)])
        · skip
          refine Go_aload_n 0 rfl rfl dX9_worst_47 ?_
          refine Go_bipush ⟨by decide, by unfold in32; omega⟩ dX9_worst_48 ?_
          refine Go_iconst (by unfold in32; omega) dX9_worst_50 ?_
          refine Go_iload 3 rfl dX9_worst_51 ?_
          refine Go_ishl dX9_worst_53 ?_
          refine Go_callV0 (q := vwCl[9]) (fX9_find hNp hHp (-4) (l32 1 (p : Int))) cwX9_165 imX9_find rfl rfl ⟨Nat.le_of_ble_eq_true rfl, Nat.le_of_ble_eq_true rfl⟩ sh_106 rfl (Nat.le_of_ble_eq_true rfl) sh_rf dX9_worst_54 ?_
          refine Go_aload_n 0 rfl rfl dX9_worst_57 ?_
          refine Go_getIv (v := (fdM (wo9M M nv np p) nv np (-4) (l32 1 (p : Int))).2.1) rfl faX9_150 sh_106 dX9_worst_58 ?_
          refine Go_bipush ⟨by decide, by unfold in32; omega⟩ dX9_worst_61 ?_
          refine Go_icmp_ne dX9_worst_63 rfl (fun h63 => ?_) (fun h63 => ?_)
          · skip
            refine Go_aload_n 0 rfl rfl dX9_worst_72 ?_
            refine Go_getJv (v := (fdM (wo9M M nv np p) nv np (-4) (l32 1 (p : Int))).2.2.1) rfl faX9_153 sh_106 dX9_worst_73 ?_
            refine Go_topJ (v := wo9V M nv np p) (by unfold wo9V; first | rw [if_pos (by exact h63)] | rw [if_neg (by exact h63)]) ?_
            refine Go_lstore (ls' := [(5, gJ _), (0, gR 106), (1, gI _), (2, gJ _), (4, gI _)]) dX9_worst_76 (by decide) rfl ?_
            refine Go_iload_n 2 rfl rfl dX9_worst_78 ?_
            refine Go_bipush ⟨by decide, by unfold in32; omega⟩ dX9_worst_79 ?_
            refine Go_icmp_eq dX9_worst_81 rfl (fun h81 => ?_) (fun h81 => ?_)
            · skip
              refine Go_iload 4 rfl dX9_worst_91 ?_
              refine Go_istore_n (ls' := [(1, gI _), (5, gJ _), (0, gR 106), (2, gJ _), (4, gI _)]) rfl dX9_worst_93 (by decide) rfl ?_
              refine Go_lload 1 rfl dX9_worst_94 ?_
              refine Go_lstore_n (ls' := [(2, gJ _), (1, gI _), (5, gJ _), (0, gR 106), (4, gI _)]) rfl dX9_worst_96 (by decide) rfl ?_
              refine Go_iincn p 1 rfl rfl (by omega) 4 (ls' := [(4, gI _), (2, gJ _), (1, gI _), (5, gJ _), (0, gR 106)]) rfl dX9_worst_97 (by decide) rfl ?_
              refine Go_goto dX9_worst_100 rfl ?_
              refine Go_pick [4, 2, 1, 0] (ls' := [(0, gR 106), (1, gI _), (2, gJ _), (4, gI _)]) rfl ?_
              rw [show gSet (fyM (wo9M M nv np p) nv) 106 (r8 ((wo9M M nv np p) 106) (fdM (wo9M M nv np p) nv np (-4) (l32 1 (p : Int)))) = wo9M M nv np (p + 1) from (if_neg h44 : wo9M M nv np (p + 1) = _).symm]
              exact ih_27 (p + 1) _ _ (by omega) (by simp only [wo9S, hx]; rw [if_pos (by exact ⟨h44, Or.inl h81⟩)])
            · skip
              refine Go_lload 0 rfl dX9_worst_84 ?_
              refine Go_lload_n 3 rfl rfl dX9_worst_86 ?_
              refine Go_lcmp dX9_worst_87 ?_
              refine Go_if_le dX9_worst_88 rfl (fun h88 => ?_) (fun h88 => ?_)
              · skip
                replace h88 := cmp_le.mp h88
                refine Go_iincn p 1 rfl rfl (by omega) 4 (ls' := [(4, gI _), (5, gJ _), (0, gR 106), (1, gI _), (2, gJ _)]) rfl dX9_worst_97 (by decide) rfl ?_
                refine Go_goto dX9_worst_100 rfl ?_
                refine Go_pick [2, 3, 4, 0] (ls' := [(0, gR 106), (1, gI _), (2, gJ _), (4, gI _)]) rfl ?_
                rw [show gSet (fyM (wo9M M nv np p) nv) 106 (r8 ((wo9M M nv np p) 106) (fdM (wo9M M nv np p) nv np (-4) (l32 1 (p : Int)))) = wo9M M nv np (p + 1) from (if_neg h44 : wo9M M nv np (p + 1) = _).symm]
                exact ih_27 (p + 1) _ _ (by omega) (by simp only [wo9S, hx]; rw [if_neg (by exact fun q => q.2.elim h81 (fun w => absurd w (Int.not_lt.mpr h88)))])
              · skip
                replace h88 := cmp_gt.mp h88
                refine Go_iload 4 rfl dX9_worst_91 ?_
                refine Go_istore_n (ls' := [(1, gI _), (5, gJ _), (0, gR 106), (2, gJ _), (4, gI _)]) rfl dX9_worst_93 (by decide) rfl ?_
                refine Go_lload 1 rfl dX9_worst_94 ?_
                refine Go_lstore_n (ls' := [(2, gJ _), (1, gI _), (5, gJ _), (0, gR 106), (4, gI _)]) rfl dX9_worst_96 (by decide) rfl ?_
                refine Go_iincn p 1 rfl rfl (by omega) 4 (ls' := [(4, gI _), (2, gJ _), (1, gI _), (5, gJ _), (0, gR 106)]) rfl dX9_worst_97 (by decide) rfl ?_
                refine Go_goto dX9_worst_100 rfl ?_
                refine Go_pick [4, 2, 1, 0] (ls' := [(0, gR 106), (1, gI _), (2, gJ _), (4, gI _)]) rfl ?_
                rw [show gSet (fyM (wo9M M nv np p) nv) 106 (r8 ((wo9M M nv np p) 106) (fdM (wo9M M nv np p) nv np (-4) (l32 1 (p : Int)))) = wo9M M nv np (p + 1) from (if_neg h44 : wo9M M nv np (p + 1) = _).symm]
                exact ih_27 (p + 1) _ _ (by omega) (by simp only [wo9S, hx]; rw [if_pos (by exact ⟨h44, Or.inr h88⟩)])
          · skip
            refine Go_ldc2 klX9_171 (by unfold in64; omega) dX9_worst_66 ?_
            refine Go_goto dX9_worst_69 rfl ?_
            refine Go_topJ (v := wo9V M nv np p) (by unfold wo9V; first | rw [if_pos (by exact h63)] | rw [if_neg (by exact h63)]) ?_
            refine Go_lstore (ls' := [(5, gJ _), (0, gR 106), (1, gI _), (2, gJ _), (4, gI _)]) dX9_worst_76 (by decide) rfl ?_
            refine Go_iload_n 2 rfl rfl dX9_worst_78 ?_
            refine Go_bipush ⟨by decide, by unfold in32; omega⟩ dX9_worst_79 ?_
            refine Go_icmp_eq dX9_worst_81 rfl (fun h81 => ?_) (fun h81 => ?_)
            · skip
              refine Go_iload 4 rfl dX9_worst_91 ?_
              refine Go_istore_n (ls' := [(1, gI _), (5, gJ _), (0, gR 106), (2, gJ _), (4, gI _)]) rfl dX9_worst_93 (by decide) rfl ?_
              refine Go_lload 1 rfl dX9_worst_94 ?_
              refine Go_lstore_n (ls' := [(2, gJ _), (1, gI _), (5, gJ _), (0, gR 106), (4, gI _)]) rfl dX9_worst_96 (by decide) rfl ?_
              refine Go_iincn p 1 rfl rfl (by omega) 4 (ls' := [(4, gI _), (2, gJ _), (1, gI _), (5, gJ _), (0, gR 106)]) rfl dX9_worst_97 (by decide) rfl ?_
              refine Go_goto dX9_worst_100 rfl ?_
              refine Go_pick [4, 2, 1, 0] (ls' := [(0, gR 106), (1, gI _), (2, gJ _), (4, gI _)]) rfl ?_
              rw [show gSet (fyM (wo9M M nv np p) nv) 106 (r8 ((wo9M M nv np p) 106) (fdM (wo9M M nv np p) nv np (-4) (l32 1 (p : Int)))) = wo9M M nv np (p + 1) from (if_neg h44 : wo9M M nv np (p + 1) = _).symm]
              exact ih_27 (p + 1) _ _ (by omega) (by simp only [wo9S, hx]; rw [if_pos (by exact ⟨h44, Or.inl h81⟩)])
            · skip
              refine Go_lload 0 rfl dX9_worst_84 ?_
              refine Go_lload_n 3 rfl rfl dX9_worst_86 ?_
              refine Go_lcmp dX9_worst_87 ?_
              refine Go_if_le dX9_worst_88 rfl (fun h88 => ?_) (fun h88 => ?_)
              · skip
                replace h88 := cmp_le.mp h88
                refine Go_iincn p 1 rfl rfl (by omega) 4 (ls' := [(4, gI _), (5, gJ _), (0, gR 106), (1, gI _), (2, gJ _)]) rfl dX9_worst_97 (by decide) rfl ?_
                refine Go_goto dX9_worst_100 rfl ?_
                refine Go_pick [2, 3, 4, 0] (ls' := [(0, gR 106), (1, gI _), (2, gJ _), (4, gI _)]) rfl ?_
                rw [show gSet (fyM (wo9M M nv np p) nv) 106 (r8 ((wo9M M nv np p) 106) (fdM (wo9M M nv np p) nv np (-4) (l32 1 (p : Int)))) = wo9M M nv np (p + 1) from (if_neg h44 : wo9M M nv np (p + 1) = _).symm]
                exact ih_27 (p + 1) _ _ (by omega) (by simp only [wo9S, hx]; rw [if_neg (by exact fun q => q.2.elim h81 (fun w => absurd w (Int.not_lt.mpr h88)))])
              · skip
                replace h88 := cmp_gt.mp h88
                refine Go_iload 4 rfl dX9_worst_91 ?_
                refine Go_istore_n (ls' := [(1, gI _), (5, gJ _), (0, gR 106), (2, gJ _), (4, gI _)]) rfl dX9_worst_93 (by decide) rfl ?_
                refine Go_lload 1 rfl dX9_worst_94 ?_
                refine Go_lstore_n (ls' := [(2, gJ _), (1, gI _), (5, gJ _), (0, gR 106), (4, gI _)]) rfl dX9_worst_96 (by decide) rfl ?_
                refine Go_iincn p 1 rfl rfl (by omega) 4 (ls' := [(4, gI _), (2, gJ _), (1, gI _), (5, gJ _), (0, gR 106)]) rfl dX9_worst_97 (by decide) rfl ?_
                refine Go_goto dX9_worst_100 rfl ?_
                refine Go_pick [4, 2, 1, 0] (ls' := [(0, gR 106), (1, gI _), (2, gJ _), (4, gI _)]) rfl ?_
                rw [show gSet (fyM (wo9M M nv np p) nv) 106 (r8 ((wo9M M nv np p) 106) (fdM (wo9M M nv np p) nv np (-4) (l32 1 (p : Int)))) = wo9M M nv np (p + 1) from (if_neg h44 : wo9M M nv np (p + 1) = _).symm]
                exact ih_27 (p + 1) _ _ (by omega) (by simp only [wo9S, hx]; rw [if_pos (by exact ⟨h44, Or.inr h88⟩)])
  refine Go_aload_n 0 rfl rfl dX9_worst_0 ?_
  refine Go_bipush ⟨by decide, by unfold in32; omega⟩ dX9_worst_1 ?_
  refine Go_iconst (by unfold in32; omega) dX9_worst_3 ?_
  refine Go_callV0 (q := vwCl[9]) (fX9_find hC hH (-4) 0) cwX9_165 imX9_find rfl rfl ⟨Nat.le_of_ble_eq_true rfl, Nat.le_of_ble_eq_true rfl⟩ sh_106 rfl (Nat.le_of_ble_eq_true rfl) sh_rf dX9_worst_4 ?_
  refine Go_M (M2 := wo9M M nv np 0) rfl ?_
  refine Go_aload_n 0 rfl rfl dX9_worst_7 ?_
  refine Go_getIv (v := (fdM M nv np (-4) 0).2.1) rfl faX9_150 sh_106 dX9_worst_8 ?_
  refine Go_bipush ⟨by decide, by unfold in32; omega⟩ dX9_worst_11 ?_
  refine Go_icmp_ne dX9_worst_13 rfl (fun h13 => ?_) (fun h13 => ?_)
  · skip
    refine Go_bipush ⟨by decide, by unfold in32; omega⟩ dX9_worst_19 ?_
    refine Go_istore_n (ls' := [(1, gI _), (0, gR 106)]) rfl dX9_worst_21 (by decide) rfl ?_
    refine Go_lconst (v := 0) ⟨rfl, by unfold in64; omega⟩ dX9_worst_22 ?_
    refine Go_lstore_n (ls' := [(2, gJ _), (1, gI _), (0, gR 106)]) rfl dX9_worst_23 (by decide) rfl ?_
    refine Go_iconst (by unfold in32; omega) dX9_worst_24 ?_
    refine Go_istore (ls' := [(4, gI _), (2, gJ _), (1, gI _), (0, gR 106)]) dX9_worst_25 (by decide) rfl ?_
    refine Go_pick [3, 2, 1, 0] (ls' := [(0, gR 106), (1, gI _), (2, gJ _), (4, gI _)]) rfl ?_
    exact loop_27 np 0 _ _ (by omega) rfl
  · skip
    exact absurd h13 h
def nx9 (R Y : Nat → Int) (h t : Nat) : Nat → Nat → Int
  | 0, _ => -4
  | k + 1, w => if R (12 * h + w) = 0 ∨ Y (12 * w + t) = -4 ∨ w32 (R (12 * h + w) + Y (12 * w + t)) ≠ Y (12 * h + t) then nx9 R Y h t k (w + 1) else (w : Int)
def wa9 (R Y : Nat → Int) (nv t : Nat) : Nat → Nat → Int
  | 0, h => (h : Int)
  | k + 1, h => if h = t then -4 else wa9 R Y nv t k (nx9 R Y h t nv 0).toNat
set_option maxHeartbeats 4000000 in
set_option maxRecDepth 100000 in
theorem pX9_way_bad {D : va_G} {ca : Nat → ClassId} {M : gMem} {nv np : Nat} (hC : MS M nv np) (a b i : Int) (h : ¬ ((0 ≤ a ∧ a ≤ (nv : Int) - 1) ∧ (0 ≤ b ∧ b ≤ (nv : Int) - 1) ∧ 0 ≤ i)) : Fn D ca mX9_way [gR 106, gI a, gI b, gI i] SH M [gI (-1)] SH (M) := by
  refine Fn_of okX9_way (Nat.le_of_ble_eq_true rfl) (Or.inr (Or.inl ⟨_, rfl, rfl⟩)) (Nat.le_refl _) (Nat.le_refl _) ?_
  refine Go_ls2 (ls' := [(0, gR 106), (1, gI _), (2, gI _), (3, gI _)]) rfl ?_
  have hv12 := hC.2.2.1
  have hn10 := hC.2.2.2.2
  refine Go_aload_n 0 rfl rfl dX9_way_0 ?_
  refine Go_iload_n 1 rfl rfl dX9_way_1 ?_
  refine Go_callVI (q := vwCl[9]) (fX9_isVillage hC _) cwX9_90 imX9_isVillage rfl rfl ⟨Nat.le_of_ble_eq_true rfl, Nat.le_of_ble_eq_true rfl⟩ sh_106 rfl (Nat.le_of_ble_eq_true rfl) sh_rf dX9_way_2 ?_
  refine Go_if_eq dX9_way_5 rfl (fun h5 => ?_) (fun h5 => ?_)
  · skip
    replace h5 := bI_0.mp h5
    refine Go_iconst (by unfold in32; omega) dX9_way_20 ?_
    exact Go_ret rfl dX9_way_21
  · skip
    replace h5 := bI_n.mp h5
    refine Go_aload_n 0 rfl rfl dX9_way_8 ?_
    refine Go_iload_n 2 rfl rfl dX9_way_9 ?_
    refine Go_callVI (q := vwCl[9]) (fX9_isVillage hC _) cwX9_90 imX9_isVillage rfl rfl ⟨Nat.le_of_ble_eq_true rfl, Nat.le_of_ble_eq_true rfl⟩ sh_106 rfl (Nat.le_of_ble_eq_true rfl) sh_rf dX9_way_10 ?_
    refine Go_if_eq dX9_way_13 rfl (fun h13 => ?_) (fun h13 => ?_)
    · skip
      replace h13 := bI_0.mp h13
      refine Go_iconst (by unfold in32; omega) dX9_way_20 ?_
      exact Go_ret rfl dX9_way_21
    · skip
      replace h13 := bI_n.mp h13
      refine Go_iload_n 3 rfl rfl dX9_way_16 ?_
      refine Go_if_ge dX9_way_17 rfl (fun h17 => ?_) (fun h17 => ?_)
      · skip
        exact absurd ⟨h5, h13, h17⟩ h
      · skip
        refine Go_iconst (by unfold in32; omega) dX9_way_20 ?_
        exact Go_ret rfl dX9_way_21
set_option maxHeartbeats 4000000 in
set_option maxRecDepth 100000 in
theorem pX9_way_no {D : va_G} {ca : Nat → ClassId} {M : gMem} {nv np : Nat} (hC : MS M nv np) (a b i : Nat) (ha : a < nv) (hb : b < nv) (h : (fyM M nv) 124 (12 * a + b) = -4) : Fn D ca mX9_way [gR 106, gI (a : Int), gI (b : Int), gI (i : Int)] SH M [gI (-4)] SH (fyM M nv) := by
  refine Fn_of okX9_way (Nat.le_of_ble_eq_true rfl) (Or.inr (Or.inl ⟨_, rfl, rfl⟩)) (Nat.le_refl _) (Nat.le_refl _) ?_
  refine Go_ls2 (ls' := [(0, gR 106), (1, gI _), (2, gI _), (3, gI _)]) rfl ?_
  have hv12 := hC.2.2.1
  have hn10 := hC.2.2.2.2
  have hN := MS_fy hC
  refine Go_aload_n 0 rfl rfl dX9_way_0 ?_
  refine Go_iload_n 1 rfl rfl dX9_way_1 ?_
  refine Go_callVI (q := vwCl[9]) (fX9_isVillage hC _) cwX9_90 imX9_isVillage rfl rfl ⟨Nat.le_of_ble_eq_true rfl, Nat.le_of_ble_eq_true rfl⟩ sh_106 rfl (Nat.le_of_ble_eq_true rfl) sh_rf dX9_way_2 ?_
  refine Go_if_eq dX9_way_5 rfl (fun h5 => ?_) (fun h5 => ?_)
  · skip
    replace h5 := bI_0.mp h5
    exfalso; omega
  · skip
    replace h5 := bI_n.mp h5
    refine Go_aload_n 0 rfl rfl dX9_way_8 ?_
    refine Go_iload_n 2 rfl rfl dX9_way_9 ?_
    refine Go_callVI (q := vwCl[9]) (fX9_isVillage hC _) cwX9_90 imX9_isVillage rfl rfl ⟨Nat.le_of_ble_eq_true rfl, Nat.le_of_ble_eq_true rfl⟩ sh_106 rfl (Nat.le_of_ble_eq_true rfl) sh_rf dX9_way_10 ?_
    refine Go_if_eq dX9_way_13 rfl (fun h13 => ?_) (fun h13 => ?_)
    · skip
      replace h13 := bI_0.mp h13
      exfalso; omega
    · skip
      replace h13 := bI_n.mp h13
      refine Go_iload_n 3 rfl rfl dX9_way_16 ?_
      refine Go_if_ge dX9_way_17 rfl (fun h17 => ?_) (fun h17 => ?_)
      · skip
        refine Go_aload_n 0 rfl rfl dX9_way_22 ?_
        refine Go_callV0 (q := vwCl[9]) (fX9_findWays hC) cwX9_112 imX9_findWays rfl rfl ⟨Nat.le_of_ble_eq_true rfl, Nat.le_of_ble_eq_true rfl⟩ sh_106 rfl (Nat.le_of_ble_eq_true rfl) sh_rf dX9_way_23 ?_
        refine Go_M (M2 := fyM M nv) rfl ?_
        generalize hNe : fyM M nv = N at hN h ⊢
        refine Go_aload_n 0 rfl rfl dX9_way_26 ?_
        refine Go_getR (c' := 124) faX9_66 sh_106 (pt_106_21 (M := N) hN.1) dX9_way_27 ?_
        refine Go_bipush ⟨by decide, by unfold in32; omega⟩ dX9_way_30 ?_
        refine Go_iload_n 1 rfl rfl dX9_way_32 ?_
        refine Go_imuln 12 a rfl rfl (by omega) dX9_way_33 ?_
        refine Go_iload_n 2 rfl rfl dX9_way_34 ?_
        refine Go_iaddn (12 * a) b rfl rfl (by omega) dX9_way_35 ?_
        refine Go_ialoadv ((12 * a) + b) (v := N 124 ((12 * a) + b)) rfl sh_124 rfl (by omega) dX9_way_36 ?_
        refine Go_bipush ⟨by decide, by unfold in32; omega⟩ dX9_way_37 ?_
        refine Go_icmp_ne dX9_way_39 rfl (fun h39 => ?_) (fun h39 => ?_)
        · skip
          exact absurd h h39
        · skip
          refine Go_bipush ⟨by decide, by unfold in32; omega⟩ dX9_way_42 ?_
          exact Go_ret rfl dX9_way_44
      · skip
        exfalso; omega
set_option maxHeartbeats 4000000 in
set_option maxRecDepth 100000 in
theorem wayI {D : va_G} {ca : Nat → ClassId} {N : gMem} {nv np : Nat} (hN : MS N nv np) (b i v z t : Nat) (x : Int) (hb : b < nv) (hv : v < nv) (hi : i < 2147483648) (hz : z < i) (hc : Go D ca none (gRm mX9_way (SH.length - SH.length) (gSz SH - gSz SH)) mX9_way 51 [(0, gR 106), (2, gI (b : Int)), (3, gI (i : Int)), (4, gI (t : Int)), (5, gI ((z + 1 : Nat) : Int))] [] SH N [gI x] SH (N)) : ∀ (k w : Nat), w + k = nv → nx9 (N 109) (N 124) v b k w = (t : Int) → Go D ca none (gRm mX9_way (SH.length - SH.length) (gSz SH - gSz SH)) mX9_way 69 [(0, gR 106), (2, gI (b : Int)), (3, gI (i : Int)), (4, gI (v : Int)), (5, gI (z : Int)), (6, gI (w : Int))] [] SH N [gI x] SH (N) := by
  have hv12 := hN.2.2.1
  intro k
  induction k with
  | zero =>
    intro w hw hq
    simp only [nx9] at hq
    omega
  | succ k ih =>
    intro w hw hq
    refine Go_aload_n 0 rfl rfl dX9_way_69 ?_
    refine Go_getR (c' := 109) faX9_17 sh_106 (pt_106_3 (M := N) hN.1) dX9_way_70 ?_
    refine Go_bipush ⟨by decide, by unfold in32; omega⟩ dX9_way_73 ?_
    refine Go_iload 3 rfl dX9_way_75 ?_
    refine Go_imuln 12 v rfl rfl (by omega) dX9_way_77 ?_
    refine Go_iload 5 rfl dX9_way_78 ?_
    refine Go_iaddn (12 * v) w rfl rfl (by omega) dX9_way_80 ?_
    refine Go_ialoadv ((12 * v) + w) (v := N 109 ((12 * v) + w)) rfl sh_109 rfl (by omega) dX9_way_81 ?_
    refine Go_if_eq dX9_way_82 rfl (fun h82 => ?_) (fun h82 => ?_)
    · skip
      refine Go_iincn w 1 rfl rfl (by omega) 5 (ls' := [(6, gI _), (0, gR 106), (2, gI _), (3, gI _), (4, gI _), (5, gI _)]) rfl dX9_way_143 (by decide) rfl ?_
      refine Go_goto dX9_way_146 rfl ?_
      refine Go_pick [1, 2, 3, 4, 5, 0] (ls' := [(0, gR 106), (2, gI _), (3, gI _), (4, gI _), (5, gI _), (6, gI _)]) rfl ?_
      exact ih (w + 1) (by omega) (by rw [← hq]; simp only [nx9]; rw [if_pos (by first | exact Or.inl h82 | exact Or.inr (Or.inl h99) | exact Or.inr (Or.inr h140))])
    · skip
      refine Go_aload_n 0 rfl rfl dX9_way_85 ?_
      refine Go_getR (c' := 124) faX9_66 sh_106 (pt_106_21 (M := N) hN.1) dX9_way_86 ?_
      refine Go_bipush ⟨by decide, by unfold in32; omega⟩ dX9_way_89 ?_
      refine Go_iload 5 rfl dX9_way_91 ?_
      refine Go_imuln 12 w rfl rfl (by omega) dX9_way_93 ?_
      refine Go_iload_n 1 rfl rfl dX9_way_94 ?_
      refine Go_iaddn (12 * w) b rfl rfl (by omega) dX9_way_95 ?_
      refine Go_ialoadv ((12 * w) + b) (v := N 124 ((12 * w) + b)) rfl sh_124 rfl (by omega) dX9_way_96 ?_
      refine Go_bipush ⟨by decide, by unfold in32; omega⟩ dX9_way_97 ?_
      refine Go_icmp_eq dX9_way_99 rfl (fun h99 => ?_) (fun h99 => ?_)
      · skip
        refine Go_iincn w 1 rfl rfl (by omega) 5 (ls' := [(6, gI _), (0, gR 106), (2, gI _), (3, gI _), (4, gI _), (5, gI _)]) rfl dX9_way_143 (by decide) rfl ?_
        refine Go_goto dX9_way_146 rfl ?_
        refine Go_pick [1, 2, 3, 4, 5, 0] (ls' := [(0, gR 106), (2, gI _), (3, gI _), (4, gI _), (5, gI _), (6, gI _)]) rfl ?_
        exact ih (w + 1) (by omega) (by rw [← hq]; simp only [nx9]; rw [if_pos (by first | exact Or.inl h82 | exact Or.inr (Or.inl h99) | exact Or.inr (Or.inr h140))])
      · skip
        refine Go_aload_n 0 rfl rfl dX9_way_102 ?_
        refine Go_getR (c' := 109) faX9_17 sh_106 (pt_106_3 (M := N) hN.1) dX9_way_103 ?_
        refine Go_bipush ⟨by decide, by unfold in32; omega⟩ dX9_way_106 ?_
        refine Go_iload 3 rfl dX9_way_108 ?_
        refine Go_imuln 12 v rfl rfl (by omega) dX9_way_110 ?_
        refine Go_iload 5 rfl dX9_way_111 ?_
        refine Go_iaddn (12 * v) w rfl rfl (by omega) dX9_way_113 ?_
        refine Go_ialoadv ((12 * v) + w) (v := N 109 ((12 * v) + w)) rfl sh_109 rfl (by omega) dX9_way_114 ?_
        refine Go_aload_n 0 rfl rfl dX9_way_115 ?_
        refine Go_getR (c' := 124) faX9_66 sh_106 (pt_106_21 (M := N) hN.1) dX9_way_116 ?_
        refine Go_bipush ⟨by decide, by unfold in32; omega⟩ dX9_way_119 ?_
        refine Go_iload 5 rfl dX9_way_121 ?_
        refine Go_imuln 12 w rfl rfl (by omega) dX9_way_123 ?_
        refine Go_iload_n 1 rfl rfl dX9_way_124 ?_
        refine Go_iaddn (12 * w) b rfl rfl (by omega) dX9_way_125 ?_
        refine Go_ialoadv ((12 * w) + b) (v := N 124 ((12 * w) + b)) rfl sh_124 rfl (by omega) dX9_way_126 ?_
        refine Go_iadd dX9_way_127 ?_
        refine Go_aload_n 0 rfl rfl dX9_way_128 ?_
        refine Go_getR (c' := 124) faX9_66 sh_106 (pt_106_21 (M := N) hN.1) dX9_way_129 ?_
        refine Go_bipush ⟨by decide, by unfold in32; omega⟩ dX9_way_132 ?_
        refine Go_iload 3 rfl dX9_way_134 ?_
        refine Go_imuln 12 v rfl rfl (by omega) dX9_way_136 ?_
        refine Go_iload_n 1 rfl rfl dX9_way_137 ?_
        refine Go_iaddn (12 * v) b rfl rfl (by omega) dX9_way_138 ?_
        refine Go_ialoadv ((12 * v) + b) (v := N 124 ((12 * v) + b)) rfl sh_124 rfl (by omega) dX9_way_139 ?_
        refine Go_icmp_eq dX9_way_140 rfl (fun h140 => ?_) (fun h140 => ?_)
        · skip
          refine Go_iload 5 rfl dX9_way_149 ?_
          refine Go_istore (ls' := [(4, gI _), (0, gR 106), (2, gI _), (3, gI _), (5, gI _), (6, gI _)]) dX9_way_151 (by decide) rfl ?_
          refine Go_iincn z 1 rfl rfl (by omega) 4 (ls' := [(5, gI _), (4, gI _), (0, gR 106), (2, gI _), (3, gI _), (6, gI _)]) rfl dX9_way_153 (by decide) rfl ?_
          refine Go_goto dX9_way_156 rfl ?_
          refine Go_pick [2, 3, 4, 1, 0] (ls' := [(0, gR 106), (2, gI _), (3, gI _), (4, gI _), (5, gI _)]) rfl ?_
          have ew : w = t := by
            have e1 : nx9 (N 109) (N 124) v b (k + 1) w = (w : Int) := by simp only [nx9]; rw [if_neg (by exact fun q => q.elim h82 (fun q => q.elim h99 (fun q => q h140)))]
            rw [hq] at e1
            omega
          subst ew
          exact hc
        · skip
          refine Go_iincn w 1 rfl rfl (by omega) 5 (ls' := [(6, gI _), (0, gR 106), (2, gI _), (3, gI _), (4, gI _), (5, gI _)]) rfl dX9_way_143 (by decide) rfl ?_
          refine Go_goto dX9_way_146 rfl ?_
          refine Go_pick [1, 2, 3, 4, 5, 0] (ls' := [(0, gR 106), (2, gI _), (3, gI _), (4, gI _), (5, gI _), (6, gI _)]) rfl ?_
          exact ih (w + 1) (by omega) (by rw [← hq]; simp only [nx9]; rw [if_pos (by first | exact Or.inl h82 | exact Or.inr (Or.inl h99) | exact Or.inr (Or.inr h140))])
set_option maxHeartbeats 4000000 in
set_option maxRecDepth 100000 in
theorem wayT {D : va_G} {ca : Nat → ClassId} {N : gMem} {nv np : Nat} (hN : MS N nv np) (b i : Nat) (hb : b < nv) (hi : i < 2147483648) (hnx : ∀ v, v < nv → ¬ v = b → N 124 (12 * v + b) ≠ -4 → ∃ t : Nat, nx9 (N 109) (N 124) v b nv 0 = (t : Int) ∧ t < nv ∧ N 124 (12 * t + b) ≠ -4) (x : Int) : ∀ (k z v : Nat), z + k = i → v < nv → N 124 (12 * v + b) ≠ -4 → wa9 (N 109) (N 124) nv b k v = x → Go D ca none (gRm mX9_way (SH.length - SH.length) (gSz SH - gSz SH)) mX9_way 51 [(0, gR 106), (2, gI (b : Int)), (3, gI (i : Int)), (4, gI (v : Int)), (5, gI (z : Int))] [] SH N [gI x] SH (N) := by
  have hv12 := hN.2.2.1
  intro k
  induction k with
  | zero =>
    intro z v he hv hg hx
    have ez : z = i := by omega
    subst ez
    refine Go_iload 4 rfl dX9_way_51 ?_
    refine Go_iload_n 2 rfl rfl dX9_way_53 ?_
    refine Go_icmp_ge dX9_way_54 rfl (fun h54 => ?_) (fun h54 => ?_)
    · skip
      refine Go_iload 3 rfl dX9_way_159 ?_
      exact Go_ret (by rw [← hx]; rfl) dX9_way_161
    · skip
      exact absurd h54 (by omega)
  | succ k ih =>
    intro z v he hv hg hx
    refine Go_iload 4 rfl dX9_way_51 ?_
    refine Go_iload_n 2 rfl rfl dX9_way_53 ?_
    refine Go_icmp_ge dX9_way_54 rfl (fun h54 => ?_) (fun h54 => ?_)
    · skip
      exact absurd h54 (by omega)
    · skip
      refine Go_iload 3 rfl dX9_way_57 ?_
      refine Go_iload_n 1 rfl rfl dX9_way_59 ?_
      refine Go_icmp_ne dX9_way_60 rfl (fun h60 => ?_) (fun h60 => ?_)
      · skip
        have h60n : ¬ v = b := by omega
        obtain ⟨t, ht, ht2, ht3⟩ := hnx v hv h60n hg
        refine Go_iconst (by unfold in32; omega) dX9_way_66 ?_
        refine Go_istore (ls' := [(6, gI _), (0, gR 106), (2, gI _), (3, gI _), (4, gI _), (5, gI _)]) dX9_way_67 (by decide) rfl ?_
        refine Go_pick [1, 2, 3, 4, 5, 0] (ls' := [(0, gR 106), (2, gI _), (3, gI _), (4, gI _), (5, gI _), (6, gI _)]) rfl ?_
        exact wayI hN b i v z t x hb hv hi (by omega) (ih (z + 1) t (by omega) ht2 ht3 (by rw [← hx]; simp only [wa9]; rw [if_neg (by exact h60n), ht, Int.toNat_natCast])) nv 0 (by omega) ht
      · skip
        refine Go_bipush ⟨by decide, by unfold in32; omega⟩ dX9_way_63 ?_
        exact Go_ret (by rw [← hx]; simp only [wa9]; rw [if_pos (by omega)]) dX9_way_65
set_option maxHeartbeats 4000000 in
set_option maxRecDepth 100000 in
theorem pX9_way {D : va_G} {ca : Nat → ClassId} {M : gMem} {nv np : Nat} (hC : MS M nv np) (a b i : Nat) (ha : a < nv) (hb : b < nv) (hi : i < 2147483648) (h : (fyM M nv) 124 (12 * a + b) ≠ -4) (hnx : ∀ v, v < nv → ¬ v = b → (fyM M nv) 124 (12 * v + b) ≠ -4 → ∃ t : Nat, nx9 ((fyM M nv) 109) ((fyM M nv) 124) v b nv 0 = (t : Int) ∧ t < nv ∧ (fyM M nv) 124 (12 * t + b) ≠ -4) : Fn D ca mX9_way [gR 106, gI (a : Int), gI (b : Int), gI (i : Int)] SH M [gI (wa9 ((fyM M nv) 109) ((fyM M nv) 124) nv b i a)] SH (fyM M nv) := by
  refine Fn_of okX9_way (Nat.le_of_ble_eq_true rfl) (Or.inr (Or.inl ⟨_, rfl, rfl⟩)) (Nat.le_refl _) (Nat.le_refl _) ?_
  refine Go_ls2 (ls' := [(0, gR 106), (1, gI _), (2, gI _), (3, gI _)]) rfl ?_
  have hv12 := hC.2.2.1
  have hn10 := hC.2.2.2.2
  have hN := MS_fy hC
  refine Go_aload_n 0 rfl rfl dX9_way_0 ?_
  refine Go_iload_n 1 rfl rfl dX9_way_1 ?_
  refine Go_callVI (q := vwCl[9]) (fX9_isVillage hC _) cwX9_90 imX9_isVillage rfl rfl ⟨Nat.le_of_ble_eq_true rfl, Nat.le_of_ble_eq_true rfl⟩ sh_106 rfl (Nat.le_of_ble_eq_true rfl) sh_rf dX9_way_2 ?_
  refine Go_if_eq dX9_way_5 rfl (fun h5 => ?_) (fun h5 => ?_)
  · skip
    replace h5 := bI_0.mp h5
    exfalso; omega
  · skip
    replace h5 := bI_n.mp h5
    refine Go_aload_n 0 rfl rfl dX9_way_8 ?_
    refine Go_iload_n 2 rfl rfl dX9_way_9 ?_
    refine Go_callVI (q := vwCl[9]) (fX9_isVillage hC _) cwX9_90 imX9_isVillage rfl rfl ⟨Nat.le_of_ble_eq_true rfl, Nat.le_of_ble_eq_true rfl⟩ sh_106 rfl (Nat.le_of_ble_eq_true rfl) sh_rf dX9_way_10 ?_
    refine Go_if_eq dX9_way_13 rfl (fun h13 => ?_) (fun h13 => ?_)
    · skip
      replace h13 := bI_0.mp h13
      exfalso; omega
    · skip
      replace h13 := bI_n.mp h13
      refine Go_iload_n 3 rfl rfl dX9_way_16 ?_
      refine Go_if_ge dX9_way_17 rfl (fun h17 => ?_) (fun h17 => ?_)
      · skip
        refine Go_aload_n 0 rfl rfl dX9_way_22 ?_
        refine Go_callV0 (q := vwCl[9]) (fX9_findWays hC) cwX9_112 imX9_findWays rfl rfl ⟨Nat.le_of_ble_eq_true rfl, Nat.le_of_ble_eq_true rfl⟩ sh_106 rfl (Nat.le_of_ble_eq_true rfl) sh_rf dX9_way_23 ?_
        refine Go_M (M2 := fyM M nv) rfl ?_
        generalize hNe : fyM M nv = N at hN h hnx ⊢
        refine Go_aload_n 0 rfl rfl dX9_way_26 ?_
        refine Go_getR (c' := 124) faX9_66 sh_106 (pt_106_21 (M := N) hN.1) dX9_way_27 ?_
        refine Go_bipush ⟨by decide, by unfold in32; omega⟩ dX9_way_30 ?_
        refine Go_iload_n 1 rfl rfl dX9_way_32 ?_
        refine Go_imuln 12 a rfl rfl (by omega) dX9_way_33 ?_
        refine Go_iload_n 2 rfl rfl dX9_way_34 ?_
        refine Go_iaddn (12 * a) b rfl rfl (by omega) dX9_way_35 ?_
        refine Go_ialoadv ((12 * a) + b) (v := N 124 ((12 * a) + b)) rfl sh_124 rfl (by omega) dX9_way_36 ?_
        refine Go_bipush ⟨by decide, by unfold in32; omega⟩ dX9_way_37 ?_
        refine Go_icmp_ne dX9_way_39 rfl (fun h39 => ?_) (fun h39 => ?_)
        · skip
          refine Go_iload_n 1 rfl rfl dX9_way_45 ?_
          refine Go_istore (ls' := [(4, gI _), (0, gR 106), (1, gI _), (2, gI _), (3, gI _)]) dX9_way_46 (by decide) rfl ?_
          refine Go_iconst (by unfold in32; omega) dX9_way_48 ?_
          refine Go_istore (ls' := [(5, gI _), (4, gI _), (0, gR 106), (1, gI _), (2, gI _), (3, gI _)]) dX9_way_49 (by decide) rfl ?_
          refine Go_pick [2, 4, 5, 1, 0] (ls' := [(0, gR 106), (2, gI _), (3, gI _), (4, gI _), (5, gI _)]) rfl ?_
          exact wayT hN b i hb hi hnx _ i 0 a (by omega) ha h rfl
        · skip
          exact absurd h39 h
      · skip
        exfalso; omega
