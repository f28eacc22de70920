def fiS (R Y : Nat → Int) : Nat → (Nat → Int)
  | 0 => Y
  | i + 1 => gUp (fiS R Y i) i (if i / 12 = i % 12 then 0 else if 0 < R i then R i else -4)
def byF (Y : Nat → Int) (a m b : Nat) : Int := if Y (12 * a + m) = -4 ∨ Y (12 * m + b) = -4 then -4 else w32 (Y (12 * a + m) + Y (12 * m + b))
def fsF (Y : Nat → Int) (m a b : Nat) : Nat → Int := if byF Y a m b ≠ -4 ∧ (Y (12 * a + b) = -4 ∨ byF Y a m b < Y (12 * a + b)) then gUp Y (12 * a + b) (byF Y a m b) else Y
theorem fs_n {Y : Nat → Int} {m a b : Nat} (h : byF Y a m b = -4) : fsF Y m a b = Y := if_neg (fun q => q.1 h)
theorem fs_o {Y : Nat → Int} {m a b : Nat} {x : Int} (h : byF Y a m b = x) (h1 : Y (12 * a + b) ≠ -4) (h2 : Y (12 * a + b) ≤ x) : fsF Y m a b = Y := if_neg (fun q => q.2.elim h1 (fun w => by rw [h] at w; omega))
theorem fs_y {Y : Nat → Int} {m a b : Nat} {x : Int} (h : byF Y a m b = x) (h0 : x ≠ -4) (h1 : Y (12 * a + b) = -4 ∨ x < Y (12 * a + b)) : fsF Y m a b = gUp Y (12 * a + b) x := by
  subst h
  exact if_pos ⟨h0, h1⟩
def fwB (m a : Nat) (Y : Nat → Int) : Nat → (Nat → Int)
  | 0 => Y
  | b + 1 => fsF (fwB m a Y b) m a b
def fwA (m nv : Nat) (Y : Nat → Int) : Nat → (Nat → Int)
  | 0 => Y
  | a + 1 => fwB m a (fwA m nv Y a) nv
def fwO (nv : Nat) (Y : Nat → Int) : Nat → (Nat → Int)
  | 0 => Y
  | m + 1 => fwA m nv (fwO nv Y m) nv
def wyF (R Y : Nat → Int) (nv : Nat) : Nat → Int := fwO nv (fiS R Y 144) nv
set_option maxHeartbeats 4000000 in
set_option maxRecDepth 100000 in
theorem fX9_findWays {D : va_G} {ca : Nat → ClassId} {M : gMem} {nv np : Nat} (hC : MS M nv np) : Fn D ca mX9_findWays [gR 106] SH M [] SH (gSet M 124 (wyF (M 109) (M 124) nv)) := by
  refine Fn_of okX9_findWays (Nat.le_of_ble_eq_true rfl) (Or.inl ⟨rfl, rfl⟩) (Nat.le_refl _) (Nat.le_refl _) ?_
  refine Go_ls2 (ls' := [(0, gR 106)]) rfl ?_
  have hv12 := hC.2.2.1
  have hn10 := hC.2.2.2.2
  refine Go_o 124 ?_
  have loop_58 : ∀ (k : Nat) (w : Nat) (r : Nat → Int), w + k = nv → fwO nv (fiS (M 109) (M 124) 144) w = r → Go D ca none (gRm mX9_findWays (SH.length - SH.length) (gSz SH - gSz SH)) mX9_findWays 58 [(0, gR 106), (1, gI (w : Int))] [] SH (gSet M 124 r) [] SH (gSet M 124 (wyF (M 109) (M 124) nv)) := by
    intro k
    induction k with
    | zero =>
      intro w r hw hr
      obtain rfl : nv = w := by omega
      refine Go_iload_n 1 rfl rfl dX9_findWays_58 ?_
      refine Go_aload_n 0 rfl rfl dX9_findWays_59 ?_
      refine Go_getIv (v := (nv : Int)) hC.2.1 faX9_75 sh_106 dX9_findWays_60 ?_
      refine Go_icmp_ge dX9_findWays_63 rfl (fun h63 => ?_) (fun h63 => ?_)
      · skip
        subst hr
        exact Go_ret rfl dX9_findWays_218
      · skip
        exact absurd h63 (by omega)
    | succ k ih_58 =>
      intro w r hw hr
      have loop_68 : ∀ (k : Nat) (a : Nat) (q : Nat → Int), a + k = nv → fwA w nv r a = q → Go D ca none (gRm mX9_findWays (SH.length - SH.length) (gSz SH - gSz SH)) mX9_findWays 68 [(0, gR 106), (1, gI (w : Int)), (2, gI (a : Int))] [] SH (gSet M 124 q) [] SH (gSet M 124 (wyF (M 109) (M 124) nv)) := by
        intro k
        induction k with
        | zero =>
          intro a q ha hq
          obtain rfl : nv = a := by omega
          refine Go_iload_n 2 rfl rfl dX9_findWays_68 ?_
          refine Go_aload_n 0 rfl rfl dX9_findWays_69 ?_
          refine Go_getIv (v := (nv : Int)) hC.2.1 faX9_75 sh_106 dX9_findWays_70 ?_
          refine Go_icmp_ge dX9_findWays_73 rfl (fun h73 => ?_) (fun h73 => ?_)
          · skip
            refine Go_iincn w 1 rfl rfl (by omega) 1 (ls' := [(1, gI _), (0, gR 106), (2, gI _)]) rfl dX9_findWays_212 (by decide) rfl ?_
            refine Go_goto dX9_findWays_215 rfl ?_
            refine Go_pick [1, 0] (ls' := [(0, gR 106), (1, gI _)]) rfl ?_
            exact ih_58 (w + 1) _ (by omega) (by simp only [fwO, hr, hq])
          · skip
            exact absurd h73 (by omega)
        | succ k ih_68 =>
          intro a q ha hq
          have loop_78 : ∀ (k : Nat) (b : Nat) (z : Nat → Int), b + k = nv → fwB w a q b = z → Go D ca none (gRm mX9_findWays (SH.length - SH.length) (gSz SH - gSz SH)) mX9_findWays 78 [(0, gR 106), (1, gI (w : Int)), (2, gI (a : Int)), (3, gI (b : Int))] [] SH (gSet M 124 z) [] SH (gSet M 124 (wyF (M 109) (M 124) nv)) := by
            intro k
            induction k with
            | zero =>
              intro b z hb hz
              obtain rfl : nv = b := by omega
              refine Go_iload_n 3 rfl rfl dX9_findWays_78 ?_
              refine Go_aload_n 0 rfl rfl dX9_findWays_79 ?_
              refine Go_getIv (v := (nv : Int)) hC.2.1 faX9_75 sh_106 dX9_findWays_80 ?_
              refine Go_icmp_ge dX9_findWays_83 rfl (fun h83 => ?_) (fun h83 => ?_)
              · skip
                refine Go_iincn a 1 rfl rfl (by omega) 2 (ls' := [(2, gI _), (0, gR 106), (1, gI _), (3, gI _)]) rfl dX9_findWays_206 (by decide) rfl ?_
                refine Go_goto dX9_findWays_209 rfl ?_
                refine Go_pick [1, 2, 0] (ls' := [(0, gR 106), (1, gI _), (2, gI _)]) rfl ?_
                exact ih_68 (a + 1) _ (by omega) (by simp only [fwA, hq, hz])
              · skip
                exact absurd h83 (by omega)
            | succ k ih_78 =>
              intro b z hb hz
              refine Go_iload_n 3 rfl rfl dX9_findWays_78 ?_
              refine Go_aload_n 0 rfl rfl dX9_findWays_79 ?_
              refine Go_getIv (v := (nv : Int)) hC.2.1 faX9_75 sh_106 dX9_findWays_80 ?_
              refine Go_icmp_ge dX9_findWays_83 rfl (fun h83 => ?_) (fun h83 => ?_)
              · skip
                exact absurd h83 (by omega)
              · skip
                refine Go_aload_n 0 rfl rfl dX9_findWays_86 ?_
                refine Go_getR (c' := 124) faX9_66 sh_106 (pt_106_21 (M := M) hC.1) dX9_findWays_87 ?_
                refine Go_bipush ⟨by decide, by unfold in32; omega⟩ dX9_findWays_90 ?_
                refine Go_iload_n 2 rfl rfl dX9_findWays_92 ?_
                refine Go_imuln 12 a rfl rfl (by omega) dX9_findWays_93 ?_
                refine Go_iload_n 1 rfl rfl dX9_findWays_94 ?_
                refine Go_iaddn (12 * a) w rfl rfl (by omega) dX9_findWays_95 ?_
                refine Go_ialoadv ((12 * a) + w) (v := z ((12 * a) + w)) rfl sh_124 rfl (by omega) dX9_findWays_96 ?_
                refine Go_bipush ⟨by decide, by unfold in32; omega⟩ dX9_findWays_97 ?_
                refine Go_icmp_eq dX9_findWays_99 rfl (fun h99 => ?_) (fun h99 => ?_)
                · skip
                  refine Go_bipush ⟨by decide, by unfold in32; omega⟩ dX9_findWays_118 ?_
                  refine Go_goto dX9_findWays_120 rfl ?_
                  refine Go_istore (ls' := [(4, gI _), (0, gR 106), (1, gI _), (2, gI _), (3, gI _)]) dX9_findWays_146 (by decide) rfl ?_
                  refine Go_iload 0 rfl dX9_findWays_148 ?_
                  refine Go_bipush ⟨by decide, by unfold in32; omega⟩ dX9_findWays_150 ?_
                  refine Go_icmp_eq dX9_findWays_152 rfl (fun h152 => ?_) (fun h152 => ?_)
                  · skip
                    refine Go_iincn b 1 rfl rfl (by omega) 4 (ls' := [(3, gI _), (4, gI _), (0, gR 106), (1, gI _), (2, gI _)]) rfl dX9_findWays_200 (by decide) rfl ?_
                    refine Go_goto dX9_findWays_203 rfl ?_
                    refine Go_pick [2, 3, 4, 0] (ls' := [(0, gR 106), (1, gI _), (2, gI _), (3, gI _)]) rfl ?_
                    exact ih_78 (b + 1) _ (by omega) (by simp only [fwB, hz]; exact fs_n (if_pos (Or.inl h99)))
                  · skip
                    exact absurd rfl h152
                · skip
                  refine Go_aload_n 0 rfl rfl dX9_findWays_102 ?_
                  refine Go_getR (c' := 124) faX9_66 sh_106 (pt_106_21 (M := M) hC.1) dX9_findWays_103 ?_
                  refine Go_bipush ⟨by decide, by unfold in32; omega⟩ dX9_findWays_106 ?_
                  refine Go_iload_n 1 rfl rfl dX9_findWays_108 ?_
                  refine Go_imuln 12 w rfl rfl (by omega) dX9_findWays_109 ?_
                  refine Go_iload_n 3 rfl rfl dX9_findWays_110 ?_
                  refine Go_iaddn (12 * w) b rfl rfl (by omega) dX9_findWays_111 ?_
                  refine Go_ialoadv ((12 * w) + b) (v := z ((12 * w) + b)) rfl sh_124 rfl (by omega) dX9_findWays_112 ?_
                  refine Go_bipush ⟨by decide, by unfold in32; omega⟩ dX9_findWays_113 ?_
                  refine Go_icmp_ne dX9_findWays_115 rfl (fun h115 => ?_) (fun h115 => ?_)
                  · skip
                    refine Go_aload_n 0 rfl rfl dX9_findWays_123 ?_
                    refine Go_getR (c' := 124) faX9_66 sh_106 (pt_106_21 (M := M) hC.1) dX9_findWays_124 ?_
                    refine Go_bipush ⟨by decide, by unfold in32; omega⟩ dX9_findWays_127 ?_
                    refine Go_iload_n 2 rfl rfl dX9_findWays_129 ?_
                    refine Go_imuln 12 a rfl rfl (by omega) dX9_findWays_130 ?_
                    refine Go_iload_n 1 rfl rfl dX9_findWays_131 ?_
                    refine Go_iaddn (12 * a) w rfl rfl (by omega) dX9_findWays_132 ?_
                    refine Go_ialoadv ((12 * a) + w) (v := z ((12 * a) + w)) rfl sh_124 rfl (by omega) dX9_findWays_133 ?_
                    refine Go_aload_n 0 rfl rfl dX9_findWays_134 ?_
                    refine Go_getR (c' := 124) faX9_66 sh_106 (pt_106_21 (M := M) hC.1) dX9_findWays_135 ?_
                    refine Go_bipush ⟨by decide, by unfold in32; omega⟩ dX9_findWays_138 ?_
                    refine Go_iload_n 1 rfl rfl dX9_findWays_140 ?_
                    refine Go_imuln 12 w rfl rfl (by omega) dX9_findWays_141 ?_
                    refine Go_iload_n 3 rfl rfl dX9_findWays_142 ?_
                    refine Go_iaddn (12 * w) b rfl rfl (by omega) dX9_findWays_143 ?_
                    refine Go_ialoadv ((12 * w) + b) (v := z ((12 * w) + b)) rfl sh_124 rfl (by omega) dX9_findWays_144 ?_
                    refine Go_iadd dX9_findWays_145 ?_
                    refine Go_istore (ls' := [(4, gI _), (0, gR 106), (1, gI _), (2, gI _), (3, gI _)]) dX9_findWays_146 (by decide) rfl ?_
                    refine Go_iload 0 rfl dX9_findWays_148 ?_
                    refine Go_bipush ⟨by decide, by unfold in32; omega⟩ dX9_findWays_150 ?_
                    refine Go_icmp_eq dX9_findWays_152 rfl (fun h152 => ?_) (fun h152 => ?_)
                    · skip
                      refine Go_iincn b 1 rfl rfl (by omega) 4 (ls' := [(3, gI _), (4, gI _), (0, gR 106), (1, gI _), (2, gI _)]) rfl dX9_findWays_200 (by decide) rfl ?_
                      refine Go_goto dX9_findWays_203 rfl ?_
                      refine Go_pick [2, 3, 4, 0] (ls' := [(0, gR 106), (1, gI _), (2, gI _), (3, gI _)]) rfl ?_
                      exact ih_78 (b + 1) _ (by omega) (by simp only [fwB, hz]; exact fs_n ((if_neg (fun q => q.elim h99 h115) : byF z a w b = _).trans h152))
                    · skip
                      refine Go_aload_n 1 rfl rfl dX9_findWays_155 ?_
                      refine Go_getR (c' := 124) faX9_66 sh_106 (pt_106_21 (M := M) hC.1) dX9_findWays_156 ?_
                      refine Go_bipush ⟨by decide, by unfold in32; omega⟩ dX9_findWays_159 ?_
                      refine Go_iload_n 3 rfl rfl dX9_findWays_161 ?_
                      refine Go_imuln 12 a rfl rfl (by omega) dX9_findWays_162 ?_
                      refine Go_iload_n 4 rfl rfl dX9_findWays_163 ?_
                      refine Go_iaddn (12 * a) b rfl rfl (by omega) dX9_findWays_164 ?_
                      refine Go_ialoadv ((12 * a) + b) (v := z ((12 * a) + b)) rfl sh_124 rfl (by omega) dX9_findWays_165 ?_
                      refine Go_bipush ⟨by decide, by unfold in32; omega⟩ dX9_findWays_166 ?_
                      refine Go_icmp_eq dX9_findWays_168 rfl (fun h168 => ?_) (fun h168 => ?_)
                      · skip
                        refine Go_aload_n 1 rfl rfl dX9_findWays_187 ?_
                        refine Go_getR (c' := 124) faX9_66 sh_106 (pt_106_21 (M := M) hC.1) dX9_findWays_188 ?_
                        refine Go_bipush ⟨by decide, by unfold in32; omega⟩ dX9_findWays_191 ?_
                        refine Go_iload_n 3 rfl rfl dX9_findWays_193 ?_
                        refine Go_imuln 12 a rfl rfl (by omega) dX9_findWays_194 ?_
                        refine Go_iload_n 4 rfl rfl dX9_findWays_195 ?_
                        refine Go_iaddn (12 * a) b rfl rfl (by omega) dX9_findWays_196 ?_
                        refine Go_iload 0 rfl dX9_findWays_197 ?_
                        refine Go_iastoreS ((12 * a) + b) sh_124 rfl (by omega) dX9_findWays_199 ?_
                        refine Go_iincn b 1 rfl rfl (by omega) 4 (ls' := [(3, gI _), (4, gI _), (0, gR 106), (1, gI _), (2, gI _)]) rfl dX9_findWays_200 (by decide) rfl ?_
                        refine Go_goto dX9_findWays_203 rfl ?_
                        refine Go_pick [2, 3, 4, 0] (ls' := [(0, gR 106), (1, gI _), (2, gI _), (3, gI _)]) rfl ?_
                        exact ih_78 (b + 1) _ (by omega) (by simp only [fwB, hz]; exact fs_y (if_neg (fun q => q.elim h99 h115) : byF z a w b = _) h152 (Or.inl h168))
                      · skip
                        refine Go_iload 0 rfl dX9_findWays_171 ?_
                        refine Go_aload_n 1 rfl rfl dX9_findWays_173 ?_
                        refine Go_getR (c' := 124) faX9_66 sh_106 (pt_106_21 (M := M) hC.1) dX9_findWays_174 ?_
                        refine Go_bipush ⟨by decide, by unfold in32; omega⟩ dX9_findWays_177 ?_
                        refine Go_iload_n 3 rfl rfl dX9_findWays_179 ?_
                        refine Go_imuln 12 a rfl rfl (by omega) dX9_findWays_180 ?_
                        refine Go_iload_n 4 rfl rfl dX9_findWays_181 ?_
                        refine Go_iaddn (12 * a) b rfl rfl (by omega) dX9_findWays_182 ?_
                        refine Go_ialoadv ((12 * a) + b) (v := z ((12 * a) + b)) rfl sh_124 rfl (by omega) dX9_findWays_183 ?_
                        refine Go_icmp_ge dX9_findWays_184 rfl (fun h184 => ?_) (fun h184 => ?_)
                        · skip
                          refine Go_iincn b 1 rfl rfl (by omega) 4 (ls' := [(3, gI _), (4, gI _), (0, gR 106), (1, gI _), (2, gI _)]) rfl dX9_findWays_200 (by decide) rfl ?_
                          refine Go_goto dX9_findWays_203 rfl ?_
                          refine Go_pick [2, 3, 4, 0] (ls' := [(0, gR 106), (1, gI _), (2, gI _), (3, gI _)]) rfl ?_
                          exact ih_78 (b + 1) _ (by omega) (by simp only [fwB, hz]; exact fs_o (if_neg (fun q => q.elim h99 h115) : byF z a w b = _) h168 h184)
                        · skip
                          refine Go_aload_n 1 rfl rfl dX9_findWays_187 ?_
                          refine Go_getR (c' := 124) faX9_66 sh_106 (pt_106_21 (M := M) hC.1) dX9_findWays_188 ?_
                          refine Go_bipush ⟨by decide, by unfold in32; omega⟩ dX9_findWays_191 ?_
                          refine Go_iload_n 3 rfl rfl dX9_findWays_193 ?_
                          refine Go_imuln 12 a rfl rfl (by omega) dX9_findWays_194 ?_
                          refine Go_iload_n 4 rfl rfl dX9_findWays_195 ?_
                          refine Go_iaddn (12 * a) b rfl rfl (by omega) dX9_findWays_196 ?_
                          refine Go_iload 0 rfl dX9_findWays_197 ?_
                          refine Go_iastoreS ((12 * a) + b) sh_124 rfl (by omega) dX9_findWays_199 ?_
                          refine Go_iincn b 1 rfl rfl (by omega) 4 (ls' := [(3, gI _), (4, gI _), (0, gR 106), (1, gI _), (2, gI _)]) rfl dX9_findWays_200 (by decide) rfl ?_
                          refine Go_goto dX9_findWays_203 rfl ?_
                          refine Go_pick [2, 3, 4, 0] (ls' := [(0, gR 106), (1, gI _), (2, gI _), (3, gI _)]) rfl ?_
                          exact ih_78 (b + 1) _ (by omega) (by simp only [fwB, hz]; exact fs_y (if_neg (fun q => q.elim h99 h115) : byF z a w b = _) h152 (Or.inr h184))
                  · skip
                    refine Go_bipush ⟨by decide, by unfold in32; omega⟩ dX9_findWays_118 ?_
                    refine Go_goto dX9_findWays_120 rfl ?_
                    refine Go_istore (ls' := [(4, gI _), (0, gR 106), (1, gI _), (2, gI _), (3, gI _)]) dX9_findWays_146 (by decide) rfl ?_
                    refine Go_iload 0 rfl dX9_findWays_148 ?_
                    refine Go_bipush ⟨by decide, by unfold in32; omega⟩ dX9_findWays_150 ?_
                    refine Go_icmp_eq dX9_findWays_152 rfl (fun h152 => ?_) (fun h152 => ?_)
                    · skip
                      refine Go_iincn b 1 rfl rfl (by omega) 4 (ls' := [(3, gI _), (4, gI _), (0, gR 106), (1, gI _), (2, gI _)]) rfl dX9_findWays_200 (by decide) rfl ?_
                      refine Go_goto dX9_findWays_203 rfl ?_
                      refine Go_pick [2, 3, 4, 0] (ls' := [(0, gR 106), (1, gI _), (2, gI _), (3, gI _)]) rfl ?_
                      exact ih_78 (b + 1) _ (by omega) (by simp only [fwB, hz]; exact fs_n (if_pos (Or.inr h115)))
                    · skip
                      exact absurd rfl h152
          refine Go_iload_n 2 rfl rfl dX9_findWays_68 ?_
          refine Go_aload_n 0 rfl rfl dX9_findWays_69 ?_
          refine Go_getIv (v := (nv : Int)) hC.2.1 faX9_75 sh_106 dX9_findWays_70 ?_
          refine Go_icmp_ge dX9_findWays_73 rfl (fun h73 => ?_) (fun h73 => ?_)
          · skip
            exact absurd h73 (by omega)
          · skip
            refine Go_iconst (by unfold in32; omega) dX9_findWays_76 ?_
            refine Go_istore_n (ls' := [(3, gI _), (0, gR 106), (1, gI _), (2, gI _)]) rfl dX9_findWays_77 (by decide) rfl ?_
            refine Go_pick [1, 2, 3, 0] (ls' := [(0, gR 106), (1, gI _), (2, gI _), (3, gI _)]) rfl ?_
            exact loop_78 nv 0 _ (by omega) rfl
      refine Go_iload_n 1 rfl rfl dX9_findWays_58 ?_
      refine Go_aload_n 0 rfl rfl dX9_findWays_59 ?_
      refine Go_getIv (v := (nv : Int)) hC.2.1 faX9_75 sh_106 dX9_findWays_60 ?_
      refine Go_icmp_ge dX9_findWays_63 rfl (fun h63 => ?_) (fun h63 => ?_)
      · skip
        exact absurd h63 (by omega)
      · skip
        refine Go_iconst (by unfold in32; omega) dX9_findWays_66 ?_
        refine Go_istore_n (ls' := [(2, gI _), (0, gR 106), (1, gI _)]) rfl dX9_findWays_67 (by decide) rfl ?_
        refine Go_pick [1, 2, 0] (ls' := [(0, gR 106), (1, gI _), (2, gI _)]) rfl ?_
        exact loop_68 nv 0 _ (by omega) rfl
  have loop_2 : ∀ (k : Nat) (i : Nat) (y : Nat → Int), i + k = 144 → fiS (M 109) (M 124) i = y → Go D ca none (gRm mX9_findWays (SH.length - SH.length) (gSz SH - gSz SH)) mX9_findWays 2 [(0, gR 106), (1, gI (i : Int))] [] SH (gSet M 124 y) [] SH (gSet M 124 (wyF (M 109) (M 124) nv)) := by
    intro k
    induction k with
    | zero =>
      intro i y he hx
      have ei : i = 144 := by omega
      subst ei
      refine Go_iload_n 1 rfl rfl dX9_findWays_2 ?_
      refine Go_sipush ⟨by decide, by unfold in32; omega⟩ dX9_findWays_3 ?_
      refine Go_icmp_ge dX9_findWays_6 rfl (fun h6 => ?_) (fun h6 => ?_)
      · skip
        refine Go_iconst (by unfold in32; omega) dX9_findWays_56 ?_
        refine Go_istore_n (ls' := [(1, gI _), (0, gR 106)]) rfl dX9_findWays_57 (by decide) rfl ?_
        refine Go_pick [1, 0] (ls' := [(0, gR 106), (1, gI _)]) rfl ?_
        exact loop_58 nv 0 _ (by omega) (by rw [← hx]; rfl)
      · skip
        exact absurd h6 (by omega)
    | succ k ih_2 =>
      intro i y he hx
      refine Go_iload_n 1 rfl rfl dX9_findWays_2 ?_
      refine Go_sipush ⟨by decide, by unfold in32; omega⟩ dX9_findWays_3 ?_
      refine Go_icmp_ge dX9_findWays_6 rfl (fun h6 => ?_) (fun h6 => ?_)
      · skip
        exact absurd h6 (by omega)
      · skip
        refine Go_aload_n 0 rfl rfl dX9_findWays_9 ?_
        refine Go_getR (c' := 124) faX9_66 sh_106 (pt_106_21 (M := M) hC.1) dX9_findWays_10 ?_
        refine Go_iload_n 1 rfl rfl dX9_findWays_13 ?_
        refine Go_iload_n 1 rfl rfl dX9_findWays_14 ?_
        refine Go_bipush ⟨by decide, by unfold in32; omega⟩ dX9_findWays_15 ?_
        refine Go_idiv (by omega) dX9_findWays_17 ?_
        refine Go_topI (v := ((i / 12 : Nat) : Int)) (d32n (a := i) (b := 12) (by omega) (by omega) (by omega)) ?_
        refine Go_iload_n 1 rfl rfl dX9_findWays_18 ?_
        refine Go_bipush ⟨by decide, by unfold in32; omega⟩ dX9_findWays_19 ?_
        refine Go_irem (by omega) dX9_findWays_21 ?_
        refine Go_topI (v := ((i % 12 : Nat) : Int)) (m32n (a := i) (b := 12) (by omega) (by omega) (by omega)) ?_
        refine Go_icmp_ne dX9_findWays_22 rfl (fun h22 => ?_) (fun h22 => ?_)
        · skip
          refine Go_aload_n 0 rfl rfl dX9_findWays_29 ?_
          refine Go_getR (c' := 109) faX9_17 sh_106 (pt_106_3 (M := M) hC.1) dX9_findWays_30 ?_
          refine Go_iload_n 1 rfl rfl dX9_findWays_33 ?_
          refine Go_ialoadv i (v := M 109 (i)) rfl sh_109 rfl (by omega) dX9_findWays_34 ?_
          refine Go_if_le dX9_findWays_35 rfl (fun h35 => ?_) (fun h35 => ?_)
          · skip
            refine Go_bipush ⟨by decide, by unfold in32; omega⟩ dX9_findWays_47 ?_
            refine Go_iastoreS i sh_124 rfl (by omega) dX9_findWays_49 ?_
            refine Go_iincn i 1 rfl rfl (by omega) 1 (ls' := [(1, gI _), (0, gR 106)]) rfl dX9_findWays_50 (by decide) rfl ?_
            refine Go_goto dX9_findWays_53 rfl ?_
            refine Go_pick [1, 0] (ls' := [(0, gR 106), (1, gI _)]) rfl ?_
            exact ih_2 (i + 1) _ (by omega) (by simp only [fiS, hx]; first | rw [if_pos (by omega)] | rw [if_neg (by omega), if_pos (by omega)] | rw [if_neg (by omega), if_neg (by omega)])
          · skip
            refine Go_aload_n 0 rfl rfl dX9_findWays_38 ?_
            refine Go_getR (c' := 109) faX9_17 sh_106 (pt_106_3 (M := M) hC.1) dX9_findWays_39 ?_
            refine Go_iload_n 1 rfl rfl dX9_findWays_42 ?_
            refine Go_ialoadv i (v := M 109 (i)) rfl sh_109 rfl (by omega) dX9_findWays_43 ?_
            refine Go_goto dX9_findWays_44 rfl ?_
            refine Go_iastoreS i sh_124 rfl (by omega) dX9_findWays_49 ?_
            refine Go_iincn i 1 rfl rfl (by omega) 1 (ls' := [(1, gI _), (0, gR 106)]) rfl dX9_findWays_50 (by decide) rfl ?_
            refine Go_goto dX9_findWays_53 rfl ?_
            refine Go_pick [1, 0] (ls' := [(0, gR 106), (1, gI _)]) rfl ?_
            exact ih_2 (i + 1) _ (by omega) (by simp only [fiS, hx]; first | rw [if_pos (by omega)] | rw [if_neg (by omega), if_pos (by omega)] | rw [if_neg (by omega), if_neg (by omega)])
        · skip
          refine Go_iconst (by unfold in32; omega) dX9_findWays_25 ?_
          refine Go_goto dX9_findWays_26 rfl ?_
          refine Go_iastoreS i sh_124 rfl (by omega) dX9_findWays_49 ?_
          refine Go_iincn i 1 rfl rfl (by omega) 1 (ls' := [(1, gI _), (0, gR 106)]) rfl dX9_findWays_50 (by decide) rfl ?_
          refine Go_goto dX9_findWays_53 rfl ?_
          refine Go_pick [1, 0] (ls' := [(0, gR 106), (1, gI _)]) rfl ?_
          exact ih_2 (i + 1) _ (by omega) (by simp only [fiS, hx]; first | rw [if_pos (by omega)] | rw [if_neg (by omega), if_pos (by omega)] | rw [if_neg (by omega), if_neg (by omega)])
  refine Go_iconst (by unfold in32; omega) dX9_findWays_0 ?_
  refine Go_istore_n (ls' := [(1, gI _), (0, gR 106)]) rfl dX9_findWays_1 (by decide) rfl ?_
  refine Go_pick [1, 0] (ls' := [(0, gR 106), (1, gI _)]) rfl ?_
  exact loop_2 144 0 _ (by omega) rfl
def svS (car : Nat → Int) (c : Nat) : Nat → Int
  | 0 => -4
  | p + 1 => if c.testBit p = true ∧ car p ≠ -4 ∧ (svS car c p = -4 ∨ car p < car (svS car c p).toNat) then (p : Int) else svS car c p
theorem svS_nat (car : Nat → Int) (c : Nat) : ∀ n : Nat, svS car c n ≠ -4 → ∃ p : Nat, p < n ∧ svS car c n = (p : Int)
  | 0, h => absurd rfl h
  | n + 1, h => by
    simp only [svS] at h ⊢
    split
    · exact ⟨n, by omega, rfl⟩
    · rename_i h1
      rw [if_neg h1] at h
      obtain ⟨p, h2, h3⟩ := svS_nat car c n h
      exact ⟨p, by omega, h3⟩
set_option maxHeartbeats 4000000 in
set_option maxRecDepth 100000 in
theorem fX9_servedBy {D : va_G} {ca : Nat → ClassId} {M : gMem} {nv np : Nat} (hC : MS M nv np) (hH : ∀ p, p < np → ∃ z : Nat, z < 12 ∧ M 110 p = (z : Int)) (c v : Nat) (hc : c < 1024) (hv : v < 12) : Fn D ca mX9_servedBy [gR 106, gI (c : Int), gI (v : Int)] SH M [gI (svS (fun p => mcF (M 110) (M 111) (M 113) (M 124) p v) c np)] SH (M) := by
  refine Fn_of okX9_servedBy (Nat.le_of_ble_eq_true rfl) (Or.inr (Or.inl ⟨_, rfl, rfl⟩)) (Nat.le_refl _) (Nat.le_refl _) ?_
  refine Go_ls2 (ls' := [(0, gR 106), (1, gI _), (2, gI _)]) rfl ?_
  have hv12 := hC.2.2.1
  have hn10 := hC.2.2.2.2
  have loop_6 : ∀ (k : Nat) (p : Nat) (x : Int), p + k = np → svS (fun p => mcF (M 110) (M 111) (M 113) (M 124) p v) c p = x → Go D ca none (gRm mX9_servedBy (SH.length - SH.length) (gSz SH - gSz SH)) mX9_servedBy 6 [(0, gR 106), (1, gI (c : Int)), (2, gI (v : Int)), (3, gI x), (4, gI (p : Int))] [] SH M [gI (svS (fun p => mcF (M 110) (M 111) (M 113) (M 124) p v) c np)] SH (M) := by
    intro k
    induction k with
    | zero =>
      intro p x he hx
      obtain rfl : np = p := by omega
      refine Go_iload 4 rfl dX9_servedBy_6 ?_
      refine Go_aload_n 0 rfl rfl dX9_servedBy_8 ?_
      refine Go_getIv (v := (np : Int)) hC.2.2.2.1 faX9_78 sh_106 dX9_servedBy_9 ?_
      refine Go_icmp_ge dX9_servedBy_12 rfl (fun h12 => ?_) (fun h12 => ?_)
      · skip
        refine Go_iload_n 3 rfl rfl dX9_servedBy_68 ?_
        exact Go_ret (by rw [← hx]) dX9_servedBy_69
      · skip
        exact absurd h12 (by omega)
    | succ k ih_6 =>
      intro p x he hx
      obtain ⟨z, hz, ez⟩ := hH p (by omega)
      refine Go_iload 4 rfl dX9_servedBy_6 ?_
      refine Go_aload_n 0 rfl rfl dX9_servedBy_8 ?_
      refine Go_getIv (v := (np : Int)) hC.2.2.2.1 faX9_78 sh_106 dX9_servedBy_9 ?_
      refine Go_icmp_ge dX9_servedBy_12 rfl (fun h12 => ?_) (fun h12 => ?_)
      · skip
        exact absurd h12 (by omega)
      · skip
        refine Go_iload_n 1 rfl rfl dX9_servedBy_15 ?_
        refine Go_iload 4 rfl dX9_servedBy_16 ?_
        refine Go_ishr dX9_servedBy_18 ?_
        refine Go_iconst (by unfold in32; omega) dX9_servedBy_19 ?_
        refine Go_iand dX9_servedBy_20 ?_
        refine Go_topI (v := bI (c.testBit p = true)) (bit_s (by omega) (by omega)) ?_
        refine Go_iconst (by unfold in32; omega) dX9_servedBy_21 ?_
        refine Go_icmp_ne dX9_servedBy_22 rfl (fun h22 => ?_) (fun h22 => ?_)
        · skip
          have hb : ¬ c.testBit p = true := fun q => h22 (bI_t q)
          refine Go_iincn p 1 rfl rfl (by omega) 4 (ls' := [(4, gI _), (0, gR 106), (1, gI _), (2, gI _), (3, gI _)]) rfl dX9_servedBy_62 (by decide) rfl ?_
          refine Go_goto dX9_servedBy_65 rfl ?_
          refine Go_pick [1, 2, 3, 4, 0] (ls' := [(0, gR 106), (1, gI _), (2, gI _), (3, gI _), (4, gI _)]) rfl ?_
          exact ih_6 (p + 1) _ (by omega) (by simp only [svS, hx]; first | rw [if_neg (by exact fun q => hb q.1)] | rw [if_neg (by exact fun q => q.2.1 h34)] | rw [if_pos (by exact ⟨hb, h34, Or.inl h40⟩)] | rw [if_pos (by exact ⟨hb, h34, Or.inr h56⟩)] | rw [if_neg (by exact fun q => q.2.2.elim h40 (fun w => absurd w (Int.not_lt.mpr h56)))])
        · skip
          have hb : c.testBit p = true := bI_n.mp (by rw [h22]; decide)
          refine Go_aload_n 0 rfl rfl dX9_servedBy_25 ?_
          refine Go_iload 4 rfl dX9_servedBy_26 ?_
          refine Go_iload_n 2 rfl rfl dX9_servedBy_28 ?_
          refine Go_callVI (q := vwCl[9]) (fX9_carried hC.1 p v z (by omega) (by omega) ez hz) cwX9_115 imX9_carried rfl rfl ⟨Nat.le_of_ble_eq_true rfl, Nat.le_of_ble_eq_true rfl⟩ sh_106 rfl (Nat.le_of_ble_eq_true rfl) sh_rf dX9_servedBy_29 ?_
          refine Go_bipush ⟨by decide, by unfold in32; omega⟩ dX9_servedBy_32 ?_
          refine Go_icmp_eq dX9_servedBy_34 rfl (fun h34 => ?_) (fun h34 => ?_)
          · skip
            refine Go_iincn p 1 rfl rfl (by omega) 4 (ls' := [(4, gI _), (0, gR 106), (1, gI _), (2, gI _), (3, gI _)]) rfl dX9_servedBy_62 (by decide) rfl ?_
            refine Go_goto dX9_servedBy_65 rfl ?_
            refine Go_pick [1, 2, 3, 4, 0] (ls' := [(0, gR 106), (1, gI _), (2, gI _), (3, gI _), (4, gI _)]) rfl ?_
            exact ih_6 (p + 1) _ (by omega) (by simp only [svS, hx]; first | rw [if_neg (by exact fun q => hb q.1)] | rw [if_neg (by exact fun q => q.2.1 h34)] | rw [if_pos (by exact ⟨hb, h34, Or.inl h40⟩)] | rw [if_pos (by exact ⟨hb, h34, Or.inr h56⟩)] | rw [if_neg (by exact fun q => q.2.2.elim h40 (fun w => absurd w (Int.not_lt.mpr h56)))])
          · skip
            refine Go_iload_n 3 rfl rfl dX9_servedBy_37 ?_
            refine Go_bipush ⟨by decide, by unfold in32; omega⟩ dX9_servedBy_38 ?_
            refine Go_icmp_eq dX9_servedBy_40 rfl (fun h40 => ?_) (fun h40 => ?_)
            · skip
              refine Go_iload 4 rfl dX9_servedBy_59 ?_
              refine Go_istore_n (ls' := [(3, gI _), (0, gR 106), (1, gI _), (2, gI _), (4, gI _)]) rfl dX9_servedBy_61 (by decide) rfl ?_
              refine Go_iincn p 1 rfl rfl (by omega) 4 (ls' := [(4, gI _), (3, gI _), (0, gR 106), (1, gI _), (2, gI _)]) rfl dX9_servedBy_62 (by decide) rfl ?_
              refine Go_goto dX9_servedBy_65 rfl ?_
              refine Go_pick [2, 3, 4, 1, 0] (ls' := [(0, gR 106), (1, gI _), (2, gI _), (3, gI _), (4, gI _)]) rfl ?_
              exact ih_6 (p + 1) _ (by omega) (by simp only [svS, hx]; first | rw [if_neg (by exact fun q => hb q.1)] | rw [if_neg (by exact fun q => q.2.1 h34)] | rw [if_pos (by exact ⟨hb, h34, Or.inl h40⟩)] | rw [if_pos (by exact ⟨hb, h34, Or.inr h56⟩)] | rw [if_neg (by exact fun q => q.2.2.elim h40 (fun w => absurd w (Int.not_lt.mpr h56)))])
            · skip
              obtain ⟨b, hb2, eb⟩ := svS_nat (fun p => mcF (M 110) (M 111) (M 113) (M 124) p v) c p (by rw [hx]; exact h40)
              rw [hx] at eb
              subst eb
              obtain ⟨y, hy, ey⟩ := hH b (by omega)
              refine Go_aload_n 0 rfl rfl dX9_servedBy_43 ?_
              refine Go_iload 4 rfl dX9_servedBy_44 ?_
              refine Go_iload_n 2 rfl rfl dX9_servedBy_46 ?_
              refine Go_callVI (q := vwCl[9]) (fX9_carried hC.1 p v z (by omega) (by omega) ez hz) cwX9_115 imX9_carried rfl rfl ⟨Nat.le_of_ble_eq_true rfl, Nat.le_of_ble_eq_true rfl⟩ sh_106 rfl (Nat.le_of_ble_eq_true rfl) sh_rf dX9_servedBy_47 ?_
              refine Go_aload_n 0 rfl rfl dX9_servedBy_50 ?_
              refine Go_iload_n 3 rfl rfl dX9_servedBy_51 ?_
              refine Go_iload_n 2 rfl rfl dX9_servedBy_52 ?_
              refine Go_callVI (q := vwCl[9]) (fX9_carried hC.1 b v y (by omega) (by omega) ey hy) cwX9_115 imX9_carried rfl rfl ⟨Nat.le_of_ble_eq_true rfl, Nat.le_of_ble_eq_true rfl⟩ sh_106 rfl (Nat.le_of_ble_eq_true rfl) sh_rf dX9_servedBy_53 ?_
              refine Go_icmp_ge dX9_servedBy_56 rfl (fun h56 => ?_) (fun h56 => ?_)
              · skip
                refine Go_iincn p 1 rfl rfl (by omega) 4 (ls' := [(4, gI _), (0, gR 106), (1, gI _), (2, gI _), (3, gI _)]) rfl dX9_servedBy_62 (by decide) rfl ?_
                refine Go_goto dX9_servedBy_65 rfl ?_
                refine Go_pick [1, 2, 3, 4, 0] (ls' := [(0, gR 106), (1, gI _), (2, gI _), (3, gI _), (4, gI _)]) rfl ?_
                exact ih_6 (p + 1) _ (by omega) (by simp only [svS, hx]; first | rw [if_neg (by exact fun q => hb q.1)] | rw [if_neg (by exact fun q => q.2.1 h34)] | rw [if_pos (by exact ⟨hb, h34, Or.inl h40⟩)] | rw [if_pos (by exact ⟨hb, h34, Or.inr h56⟩)] | rw [if_neg (by exact fun q => q.2.2.elim h40 (fun w => absurd w (Int.not_lt.mpr h56)))])
              · skip
                refine Go_iload 4 rfl dX9_servedBy_59 ?_
                refine Go_istore_n (ls' := [(3, gI _), (0, gR 106), (1, gI _), (2, gI _), (4, gI _)]) rfl dX9_servedBy_61 (by decide) rfl ?_
                refine Go_iincn p 1 rfl rfl (by omega) 4 (ls' := [(4, gI _), (3, gI _), (0, gR 106), (1, gI _), (2, gI _)]) rfl dX9_servedBy_62 (by decide) rfl ?_
                refine Go_goto dX9_servedBy_65 rfl ?_
                refine Go_pick [2, 3, 4, 1, 0] (ls' := [(0, gR 106), (1, gI _), (2, gI _), (3, gI _), (4, gI _)]) rfl ?_
                exact ih_6 (p + 1) _ (by omega) (by simp only [svS, hx]; first | rw [if_neg (by exact fun q => hb q.1)] | rw [if_neg (by exact fun q => q.2.1 h34)] | rw [if_pos (by exact ⟨hb, h34, Or.inl h40⟩)] | rw [if_pos (by exact ⟨hb, h34, Or.inr h56⟩)] | rw [if_neg (by exact fun q => q.2.2.elim h40 (fun w => absurd w (Int.not_lt.mpr h56)))])
  refine Go_bipush ⟨by decide, by unfold in32; omega⟩ dX9_servedBy_0 ?_
  refine Go_istore_n (ls' := [(3, gI _), (0, gR 106), (1, gI _), (2, gI _)]) rfl dX9_servedBy_2 (by decide) rfl ?_
  refine Go_iconst (by unfold in32; omega) dX9_servedBy_3 ?_
  refine Go_istore (ls' := [(4, gI _), (3, gI _), (0, gR 106), (1, gI _), (2, gI _)]) dX9_servedBy_4 (by decide) rfl ?_
  refine Go_pick [2, 3, 4, 1, 0] (ls' := [(0, gR 106), (1, gI _), (2, gI _), (3, gI _), (4, gI _)]) rfl ?_
  exact loop_6 np 0 _ (by omega) rfl
