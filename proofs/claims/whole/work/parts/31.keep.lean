def shS9 (d : Nat) (r : Nat → Int) : Nat → (Nat → Int)
  | 0 => r
  | i + 1 => gUp (shS9 d r i) i (shS9 d r i (i + d))
def ptS (s : Nat → Int) (b : Nat) (r : Nat → Int) : Nat → (Nat → Int)
  | 0 => r
  | i + 1 => gUp (ptS s b r i) (b + i) (s i)
def gtS (s : Nat → Int) (b : Nat) (r : Nat → Int) : Nat → (Nat → Int)
  | 0 => r
  | i + 1 => gUp (gtS s b r i) i (s (b + i))
theorem st3_1 {N : gMem} {a b c : Nat} {x y z x' : Nat → Int} (h1 : a ≠ b) (h2 : a ≠ c) : gSet (gSet (gSet (gSet N a x) b y) c z) a x' = gSet (gSet (gSet N a x') b y) c z := by
  rw [gSet_cm (fun e0 => h2 e0.symm), gSet_cm (fun e0 => h1 e0.symm), gSet_ss]
theorem st3_2 {N : gMem} {b c : Nat} {y z y' : Nat → Int} (h1 : b ≠ c) : gSet (gSet (gSet N b y) c z) b y' = gSet (gSet N b y') c z := by
  rw [gSet_cm (fun e0 => h1 e0.symm), gSet_ss]
def shM9 (M : gMem) : gMem := gSet (gSet (gSet (gSet (gSet (gSet (gSet M 119 (shS9 144 (M 119) 1296)) 118 (shS9 12 (M 118) 108)) 121 (shS9 10 (M 121) 90)) 117 (shS9 1 (M 117) 9)) 120 (shS9 1 (M 120) 9)) 122 (shS9 1 (M 122) 9)) 106 (gUp (M 106) 13 9)
def kpW (M : gMem) (k : Nat) : gMem := gSet (gSet (gSet (gSet (gSet (gSet (gSet M 119 (ptS (M 109) (144 * k) (M 119) 144)) 118 (ptS (M 107) (12 * k) (M 118) 12)) 121 (ptS (M 113) (10 * k) (M 121) 10)) 117 (gUp (M 117) k (M 106 0))) 120 (gUp (M 120) k (M 106 4))) 122 (gUp (M 122) k (M 106 9))) 106 (gUp (M 106) 13 ((k + 1 : Nat) : Int))
def kpM (M : gMem) (k : Nat) : gMem := if k = 10 then kpW (shM9 M) 9 else kpW M k
set_option maxHeartbeats 4000000 in
set_option maxRecDepth 100000 in
theorem kpTail {D : va_G} {ca : Nat → ClassId} {M : gMem} {nv np : Nat} (hC : MS M nv np) (k : Nat) (hk : M 106 13 = (k : Int)) (hk2 : k < 10) : Go D ca none (gRm mX9_keep (SH.length - SH.length) (gSz SH - gSz SH)) mX9_keep 164 [(0, gR 106)] [] SH M [] SH (kpW M k) := by
  have hv12 := hC.2.2.1
  have hn10 := hC.2.2.2.2
  have loop_236 : ∀ (n : Nat) (i : Nat) (r : Nat → Int), i + n = 10 → ptS (M 113) (10 * k) (M 121) i = r → Go D ca none (gRm mX9_keep (SH.length - SH.length) (gSz SH - gSz SH)) mX9_keep 236 [(0, gR 106), (1, gI (i : Int))] [] SH (gSet (gSet (gSet M 119 (ptS (M 109) (144 * k) (M 119) 144)) 118 (ptS (M 107) (12 * k) (M 118) 12)) 121 r) [] SH (kpW M k) := by
    intro n
    induction n with
    | zero =>
      intro i r he hx
      have ei : i = 10 := by omega
      subst ei
      subst hx
      refine Go_iload_n 1 rfl rfl dX9_keep_236 ?_
      refine Go_bipush ⟨by decide, by unfold in32; omega⟩ dX9_keep_237 ?_
      refine Go_icmp_ge dX9_keep_239 rfl (fun h239 => ?_) (fun h239 => ?_)
      · skip
        refine Go_aload_n 0 rfl rfl dX9_keep_268 ?_
        refine Go_getR (c' := 117) faX9_45 sh_106 (pt_106_14 (M := M) hC.1) dX9_keep_269 ?_
        refine Go_aload_n 0 rfl rfl dX9_keep_272 ?_
        refine Go_getIv (v := (k : Int)) hk faX9_72 sh_106 dX9_keep_273 ?_
        refine Go_aload_n 0 rfl rfl dX9_keep_276 ?_
        refine Go_getIv (v := M 106 0) rfl faX9_75 sh_106 dX9_keep_277 ?_
        refine Go_iastore k sh_117 rfl (by omega) dX9_keep_280 ?_
        refine Go_aload_n 0 rfl rfl dX9_keep_281 ?_
        refine Go_getR (c' := 120) faX9_54 sh_106 (pt_106_17 (M := M) hC.1) dX9_keep_282 ?_
        refine Go_aload_n 0 rfl rfl dX9_keep_285 ?_
        refine Go_getIv (v := (k : Int)) hk faX9_72 sh_106 dX9_keep_286 ?_
        refine Go_aload_n 0 rfl rfl dX9_keep_289 ?_
        refine Go_getIv (v := M 106 4) rfl faX9_78 sh_106 dX9_keep_290 ?_
        refine Go_iastore k sh_120 rfl (by omega) dX9_keep_293 ?_
        refine Go_aload_n 0 rfl rfl dX9_keep_294 ?_
        refine Go_getR (c' := 122) faX9_60 sh_106 (pt_106_19 (M := M) hC.1) dX9_keep_295 ?_
        refine Go_aload_n 0 rfl rfl dX9_keep_298 ?_
        refine Go_getIv (v := (k : Int)) hk faX9_72 sh_106 dX9_keep_299 ?_
        refine Go_aload_n 0 rfl rfl dX9_keep_302 ?_
        refine Go_getIv (v := M 106 9) rfl faX9_32 sh_106 dX9_keep_303 ?_
        refine Go_iastore k sh_122 rfl (by omega) dX9_keep_306 ?_
        refine Go_aload_n 0 rfl rfl dX9_keep_307 ?_
        refine Go_dupR dX9_keep_308 ?_
        refine Go_getIv (v := (k : Int)) hk faX9_72 sh_106 dX9_keep_309 ?_
        refine Go_iconst (by unfold in32; omega) dX9_keep_312 ?_
        refine Go_iaddn k 1 rfl rfl (by omega) dX9_keep_313 ?_
        refine Go_putI fpX9_72 sh_106 dX9_keep_314 ?_
        exact Go_ret rfl dX9_keep_317
      · skip
        exact absurd h239 (by omega)
    | succ n ih_236 =>
      intro i r he hx
      refine Go_iload_n 1 rfl rfl dX9_keep_236 ?_
      refine Go_bipush ⟨by decide, by unfold in32; omega⟩ dX9_keep_237 ?_
      refine Go_icmp_ge dX9_keep_239 rfl (fun h239 => ?_) (fun h239 => ?_)
      · skip
        exact absurd h239 (by omega)
      · skip
        refine Go_aload_n 0 rfl rfl dX9_keep_242 ?_
        refine Go_getR (c' := 121) faX9_57 sh_106 (pt_106_18 (M := M) hC.1) dX9_keep_243 ?_
        refine Go_bipush ⟨by decide, by unfold in32; omega⟩ dX9_keep_246 ?_
        refine Go_aload_n 0 rfl rfl dX9_keep_248 ?_
        refine Go_getIv (v := (k : Int)) hk faX9_72 sh_106 dX9_keep_249 ?_
        refine Go_imuln 10 k rfl rfl (by omega) dX9_keep_252 ?_
        refine Go_iload_n 1 rfl rfl dX9_keep_253 ?_
        refine Go_iaddn (10 * k) i rfl rfl (by omega) dX9_keep_254 ?_
        refine Go_aload_n 0 rfl rfl dX9_keep_255 ?_
        refine Go_getR (c' := 113) faX9_29 sh_106 (pt_106_8 (M := M) hC.1) dX9_keep_256 ?_
        refine Go_iload_n 1 rfl rfl dX9_keep_259 ?_
        refine Go_ialoadv i (v := M 113 (i)) rfl sh_113 rfl (by omega) dX9_keep_260 ?_
        refine Go_iastoreS ((10 * k) + i) sh_121 rfl (by omega) dX9_keep_261 ?_
        refine Go_iincn i 1 rfl rfl (by omega) 1 (ls' := [(1, gI _), (0, gR 106)]) rfl dX9_keep_262 (by decide) rfl ?_
        refine Go_goto dX9_keep_265 rfl ?_
        refine Go_pick [1, 0] (ls' := [(0, gR 106), (1, gI _)]) rfl ?_
        exact ih_236 (i + 1) _ (by omega) (by simp only [ptS, hx])
  have loop_202 : ∀ (n : Nat) (i : Nat) (r : Nat → Int), i + n = 12 → ptS (M 107) (12 * k) (M 118) i = r → Go D ca none (gRm mX9_keep (SH.length - SH.length) (gSz SH - gSz SH)) mX9_keep 202 [(0, gR 106), (1, gI (i : Int))] [] SH (gSet (gSet M 119 (ptS (M 109) (144 * k) (M 119) 144)) 118 r) [] SH (kpW M k) := by
    intro n
    induction n with
    | zero =>
      intro i r he hx
      have ei : i = 12 := by omega
      subst ei
      subst hx
      refine Go_iload_n 1 rfl rfl dX9_keep_202 ?_
      refine Go_bipush ⟨by decide, by unfold in32; omega⟩ dX9_keep_203 ?_
      refine Go_icmp_ge dX9_keep_205 rfl (fun h205 => ?_) (fun h205 => ?_)
      · skip
        refine Go_o 121 ?_
        refine Go_iconst (by unfold in32; omega) dX9_keep_234 ?_
        refine Go_istore_n (ls' := [(1, gI _), (0, gR 106)]) rfl dX9_keep_235 (by decide) rfl ?_
        refine Go_pick [1, 0] (ls' := [(0, gR 106), (1, gI _)]) rfl ?_
        exact loop_236 10 0 _ (by omega) rfl
      · skip
        exact absurd h205 (by omega)
    | succ n ih_202 =>
      intro i r he hx
      refine Go_iload_n 1 rfl rfl dX9_keep_202 ?_
      refine Go_bipush ⟨by decide, by unfold in32; omega⟩ dX9_keep_203 ?_
      refine Go_icmp_ge dX9_keep_205 rfl (fun h205 => ?_) (fun h205 => ?_)
      · skip
        exact absurd h205 (by omega)
      · skip
        refine Go_aload_n 0 rfl rfl dX9_keep_208 ?_
        refine Go_getR (c' := 118) faX9_48 sh_106 (pt_106_15 (M := M) hC.1) dX9_keep_209 ?_
        refine Go_bipush ⟨by decide, by unfold in32; omega⟩ dX9_keep_212 ?_
        refine Go_aload_n 0 rfl rfl dX9_keep_214 ?_
        refine Go_getIv (v := (k : Int)) hk faX9_72 sh_106 dX9_keep_215 ?_
        refine Go_imuln 12 k rfl rfl (by omega) dX9_keep_218 ?_
        refine Go_iload_n 1 rfl rfl dX9_keep_219 ?_
        refine Go_iaddn (12 * k) i rfl rfl (by omega) dX9_keep_220 ?_
        refine Go_aload_n 0 rfl rfl dX9_keep_221 ?_
        refine Go_getR (c' := 107) faX9_7 sh_106 (pt_106_1 (M := M) hC.1) dX9_keep_222 ?_
        refine Go_iload_n 1 rfl rfl dX9_keep_225 ?_
        refine Go_ialoadv i (v := M 107 (i)) rfl sh_107 rfl (by omega) dX9_keep_226 ?_
        refine Go_iastoreS ((12 * k) + i) sh_118 rfl (by omega) dX9_keep_227 ?_
        refine Go_iincn i 1 rfl rfl (by omega) 1 (ls' := [(1, gI _), (0, gR 106)]) rfl dX9_keep_228 (by decide) rfl ?_
        refine Go_goto dX9_keep_231 rfl ?_
        refine Go_pick [1, 0] (ls' := [(0, gR 106), (1, gI _)]) rfl ?_
        exact ih_202 (i + 1) _ (by omega) (by simp only [ptS, hx])
  have loop_166 : ∀ (n : Nat) (i : Nat) (r : Nat → Int), i + n = 144 → ptS (M 109) (144 * k) (M 119) i = r → Go D ca none (gRm mX9_keep (SH.length - SH.length) (gSz SH - gSz SH)) mX9_keep 166 [(0, gR 106), (1, gI (i : Int))] [] SH (gSet (M) 119 r) [] SH (kpW M k) := by
    intro n
    induction n with
    | zero =>
      intro i r he hx
      have ei : i = 144 := by omega
      subst ei
      subst hx
      refine Go_iload_n 1 rfl rfl dX9_keep_166 ?_
      refine Go_sipush ⟨by decide, by unfold in32; omega⟩ dX9_keep_167 ?_
      refine Go_icmp_ge dX9_keep_170 rfl (fun h170 => ?_) (fun h170 => ?_)
      · skip
        refine Go_o 118 ?_
        refine Go_iconst (by unfold in32; omega) dX9_keep_200 ?_
        refine Go_istore_n (ls' := [(1, gI _), (0, gR 106)]) rfl dX9_keep_201 (by decide) rfl ?_
        refine Go_pick [1, 0] (ls' := [(0, gR 106), (1, gI _)]) rfl ?_
        exact loop_202 12 0 _ (by omega) rfl
      · skip
        exact absurd h170 (by omega)
    | succ n ih_166 =>
      intro i r he hx
      refine Go_iload_n 1 rfl rfl dX9_keep_166 ?_
      refine Go_sipush ⟨by decide, by unfold in32; omega⟩ dX9_keep_167 ?_
      refine Go_icmp_ge dX9_keep_170 rfl (fun h170 => ?_) (fun h170 => ?_)
      · skip
        exact absurd h170 (by omega)
      · skip
        refine Go_aload_n 0 rfl rfl dX9_keep_173 ?_
        refine Go_getR (c' := 119) faX9_51 sh_106 (pt_106_16 (M := M) hC.1) dX9_keep_174 ?_
        refine Go_sipush ⟨by decide, by unfold in32; omega⟩ dX9_keep_177 ?_
        refine Go_aload_n 0 rfl rfl dX9_keep_180 ?_
        refine Go_getIv (v := (k : Int)) hk faX9_72 sh_106 dX9_keep_181 ?_
        refine Go_imuln 144 k rfl rfl (by omega) dX9_keep_184 ?_
        refine Go_iload_n 1 rfl rfl dX9_keep_185 ?_
        refine Go_iaddn (144 * k) i rfl rfl (by omega) dX9_keep_186 ?_
        refine Go_aload_n 0 rfl rfl dX9_keep_187 ?_
        refine Go_getR (c' := 109) faX9_17 sh_106 (pt_106_3 (M := M) hC.1) dX9_keep_188 ?_
        refine Go_iload_n 1 rfl rfl dX9_keep_191 ?_
        refine Go_ialoadv i (v := M 109 (i)) rfl sh_109 rfl (by omega) dX9_keep_192 ?_
        refine Go_iastoreS ((144 * k) + i) sh_119 rfl (by omega) dX9_keep_193 ?_
        refine Go_iincn i 1 rfl rfl (by omega) 1 (ls' := [(1, gI _), (0, gR 106)]) rfl dX9_keep_194 (by decide) rfl ?_
        refine Go_goto dX9_keep_197 rfl ?_
        refine Go_pick [1, 0] (ls' := [(0, gR 106), (1, gI _)]) rfl ?_
        exact ih_166 (i + 1) _ (by omega) (by simp only [ptS, hx])
  refine Go_o 119 ?_
  refine Go_iconst (by unfold in32; omega) dX9_keep_164 ?_
  refine Go_istore_n (ls' := [(1, gI _), (0, gR 106)]) rfl dX9_keep_165 (by decide) rfl ?_
  refine Go_pick [1, 0] (ls' := [(0, gR 106), (1, gI _)]) rfl ?_
  exact loop_166 144 0 _ (by omega) rfl
theorem MS_sh {M : gMem} {nv np : Nat} (hC : MS M nv np) : MS (shM9 M) nv np := by
  refine ⟨?_, hC.2.1, hC.2.2.1, hC.2.2.2.1, hC.2.2.2.2⟩
  exact gPtr_up (i := 106) (j := 13) (x := 9) (gPtr_row (i := 122) (r := shS9 1 (M 122) 9) (gPtr_row (i := 120) (r := shS9 1 (M 120) 9) (gPtr_row (i := 117) (r := shS9 1 (M 117) 9) (gPtr_row (i := 121) (r := shS9 10 (M 121) 90) (gPtr_row (i := 118) (r := shS9 12 (M 118) 108) (gPtr_row (i := 119) (r := shS9 144 (M 119) 1296) hC.1 rfl) rfl) rfl) rfl) rfl) rfl) rfl
set_option maxHeartbeats 4000000 in
set_option maxRecDepth 100000 in
theorem fX9_keep {D : va_G} {ca : Nat → ClassId} {M : gMem} {nv np : Nat} (hC : MS M nv np) (k : Nat) (hk : M 106 13 = (k : Int)) (hk2 : k ≤ 10) : Fn D ca mX9_keep [gR 106] SH M [] SH (kpM M k) := by
  refine Fn_of okX9_keep (Nat.le_of_ble_eq_true rfl) (Or.inl ⟨rfl, rfl⟩) (Nat.le_refl _) (Nat.le_refl _) ?_
  refine Go_ls2 (ls' := [(0, gR 106)]) rfl ?_
  have hv12 := hC.2.2.1
  have loop_100 : k = 10 → ∀ (n : Nat) (i : Nat) (a b c : Nat → Int), i + n = 9 → shS9 1 (M 117) i = a → shS9 1 (M 120) i = b → shS9 1 (M 122) i = c → Go D ca none (gRm mX9_keep (SH.length - SH.length) (gSz SH - gSz SH)) mX9_keep 100 [(0, gR 106), (1, gI (i : Int))] [] SH (gSet (gSet (gSet (gSet (gSet (gSet M 119 (shS9 144 (M 119) 1296)) 118 (shS9 12 (M 118) 108)) 121 (shS9 10 (M 121) 90)) 117 a) 120 b) 122 c) [] SH (kpM M k) := by
    intro hk10 n
    induction n with
    | zero =>
      intro i a b c he ha hb hc
      have ei : i = 9 := by omega
      subst ei
      subst ha
      subst hb
      subst hc
      refine Go_iload_n 1 rfl rfl dX9_keep_100 ?_
      refine Go_bipush ⟨by decide, by unfold in32; omega⟩ dX9_keep_101 ?_
      refine Go_icmp_ge dX9_keep_103 rfl (fun h103 => ?_) (fun h103 => ?_)
      · skip
        refine Go_aload_n 0 rfl rfl dX9_keep_154 ?_
        refine Go_dupR dX9_keep_155 ?_
        refine Go_getIv (v := (k : Int)) hk faX9_72 sh_106 dX9_keep_156 ?_
        refine Go_iconst (by unfold in32; omega) dX9_keep_159 ?_
        refine Go_isubn k 1 rfl rfl (by omega) dX9_keep_160 ?_
        refine Go_putI fpX9_72 sh_106 dX9_keep_161 ?_
        refine Go_M (M2 := shM9 M) (by rw [hk10]; rfl) ?_
        rw [show kpM M k = kpW (shM9 M) 9 from if_pos hk10]
        refine Go_pick [0] (ls' := [(0, gR 106)]) rfl ?_
        exact kpTail (MS_sh hC) 9 rfl (by decide)
      · skip
        exact absurd h103 (by omega)
    | succ n ih_100 =>
      intro i a b c he ha hb hc
      refine Go_iload_n 1 rfl rfl dX9_keep_100 ?_
      refine Go_bipush ⟨by decide, by unfold in32; omega⟩ dX9_keep_101 ?_
      refine Go_icmp_ge dX9_keep_103 rfl (fun h103 => ?_) (fun h103 => ?_)
      · skip
        exact absurd h103 (by omega)
      · skip
        refine Go_aload_n 0 rfl rfl dX9_keep_106 ?_
        refine Go_getR (c' := 117) faX9_45 sh_106 (pt_106_14 (M := M) hC.1) dX9_keep_107 ?_
        refine Go_iload_n 1 rfl rfl dX9_keep_110 ?_
        refine Go_aload_n 0 rfl rfl dX9_keep_111 ?_
        refine Go_getR (c' := 117) faX9_45 sh_106 (pt_106_14 (M := M) hC.1) dX9_keep_112 ?_
        refine Go_iload_n 1 rfl rfl dX9_keep_115 ?_
        refine Go_iconst (by unfold in32; omega) dX9_keep_116 ?_
        refine Go_iaddn i 1 rfl rfl (by omega) dX9_keep_117 ?_
        refine Go_ialoadv (i + 1) (v := a (i + 1)) rfl sh_117 rfl (by omega) dX9_keep_118 ?_
        refine Go_iastore i sh_117 rfl (by omega) dX9_keep_119 ?_
        refine Go_M (M2 := gSet (gSet (gSet (gSet (gSet (gSet M 119 (shS9 144 (M 119) 1296)) 118 (shS9 12 (M 118) 108)) 121 (shS9 10 (M 121) 90)) 117 (gUp a i (a (i + 1)))) 120 b) 122 c) (st3_1 (by decide) (by decide)) ?_
        refine Go_aload_n 0 rfl rfl dX9_keep_120 ?_
        refine Go_getR (c' := 120) faX9_54 sh_106 (pt_106_17 (M := M) hC.1) dX9_keep_121 ?_
        refine Go_iload_n 1 rfl rfl dX9_keep_124 ?_
        refine Go_aload_n 0 rfl rfl dX9_keep_125 ?_
        refine Go_getR (c' := 120) faX9_54 sh_106 (pt_106_17 (M := M) hC.1) dX9_keep_126 ?_
        refine Go_iload_n 1 rfl rfl dX9_keep_129 ?_
        refine Go_iconst (by unfold in32; omega) dX9_keep_130 ?_
        refine Go_iaddn i 1 rfl rfl (by omega) dX9_keep_131 ?_
        refine Go_ialoadv (i + 1) (v := b (i + 1)) rfl sh_120 rfl (by omega) dX9_keep_132 ?_
        refine Go_iastore i sh_120 rfl (by omega) dX9_keep_133 ?_
        refine Go_M (M2 := gSet (gSet (gSet (gSet (gSet (gSet M 119 (shS9 144 (M 119) 1296)) 118 (shS9 12 (M 118) 108)) 121 (shS9 10 (M 121) 90)) 117 (gUp a i (a (i + 1)))) 120 (gUp b i (b (i + 1)))) 122 c) (st3_2 (by decide)) ?_
        refine Go_aload_n 0 rfl rfl dX9_keep_134 ?_
        refine Go_getR (c' := 122) faX9_60 sh_106 (pt_106_19 (M := M) hC.1) dX9_keep_135 ?_
        refine Go_iload_n 1 rfl rfl dX9_keep_138 ?_
        refine Go_aload_n 0 rfl rfl dX9_keep_139 ?_
        refine Go_getR (c' := 122) faX9_60 sh_106 (pt_106_19 (M := M) hC.1) dX9_keep_140 ?_
        refine Go_iload_n 1 rfl rfl dX9_keep_143 ?_
        refine Go_iconst (by unfold in32; omega) dX9_keep_144 ?_
        refine Go_iaddn i 1 rfl rfl (by omega) dX9_keep_145 ?_
        refine Go_ialoadv (i + 1) (v := c (i + 1)) rfl sh_122 rfl (by omega) dX9_keep_146 ?_
        refine Go_iastore i sh_122 rfl (by omega) dX9_keep_147 ?_
        refine Go_M (M2 := gSet (gSet (gSet (gSet (gSet (gSet M 119 (shS9 144 (M 119) 1296)) 118 (shS9 12 (M 118) 108)) 121 (shS9 10 (M 121) 90)) 117 (gUp a i (a (i + 1)))) 120 (gUp b i (b (i + 1)))) 122 (gUp c i (c (i + 1)))) (gSet_ss _ _ _ _) ?_
        refine Go_iincn i 1 rfl rfl (by omega) 1 (ls' := [(1, gI _), (0, gR 106)]) rfl dX9_keep_148 (by decide) rfl ?_
        refine Go_goto dX9_keep_151 rfl ?_
        refine Go_pick [1, 0] (ls' := [(0, gR 106), (1, gI _)]) rfl ?_
        exact ih_100 (i + 1) _ _ _ (by omega) (by simp only [shS9, ha]) (by simp only [shS9, hb]) (by simp only [shS9, hc])
  have loop_71 : k = 10 → ∀ (n : Nat) (i : Nat) (r : Nat → Int), i + n = 90 → shS9 10 (M 121) i = r → Go D ca none (gRm mX9_keep (SH.length - SH.length) (gSz SH - gSz SH)) mX9_keep 71 [(0, gR 106), (1, gI (i : Int))] [] SH (gSet (gSet (gSet M 119 (shS9 144 (M 119) 1296)) 118 (shS9 12 (M 118) 108)) 121 r) [] SH (kpM M k) := by
    intro hk10 n
    induction n with
    | zero =>
      intro i r he hx
      have ei : i = 90 := by omega
      subst ei
      subst hx
      refine Go_iload_n 1 rfl rfl dX9_keep_71 ?_
      refine Go_bipush ⟨by decide, by unfold in32; omega⟩ dX9_keep_72 ?_
      refine Go_icmp_ge dX9_keep_74 rfl (fun h74 => ?_) (fun h74 => ?_)
      · skip
        refine Go_o 117 ?_
        refine Go_o 120 ?_
        refine Go_o 122 ?_
        refine Go_iconst (by unfold in32; omega) dX9_keep_98 ?_
        refine Go_istore_n (ls' := [(1, gI _), (0, gR 106)]) rfl dX9_keep_99 (by decide) rfl ?_
        refine Go_pick [1, 0] (ls' := [(0, gR 106), (1, gI _)]) rfl ?_
        exact loop_100 hk10 9 0 _ _ _ (by omega) rfl rfl rfl
      · skip
        exact absurd h74 (by omega)
    | succ n ih_71 =>
      intro i r he hx
      refine Go_iload_n 1 rfl rfl dX9_keep_71 ?_
      refine Go_bipush ⟨by decide, by unfold in32; omega⟩ dX9_keep_72 ?_
      refine Go_icmp_ge dX9_keep_74 rfl (fun h74 => ?_) (fun h74 => ?_)
      · skip
        exact absurd h74 (by omega)
      · skip
        refine Go_aload_n 0 rfl rfl dX9_keep_77 ?_
        refine Go_getR (c' := 121) faX9_57 sh_106 (pt_106_18 (M := M) hC.1) dX9_keep_78 ?_
        refine Go_iload_n 1 rfl rfl dX9_keep_81 ?_
        refine Go_aload_n 0 rfl rfl dX9_keep_82 ?_
        refine Go_getR (c' := 121) faX9_57 sh_106 (pt_106_18 (M := M) hC.1) dX9_keep_83 ?_
        refine Go_iload_n 1 rfl rfl dX9_keep_86 ?_
        refine Go_bipush ⟨by decide, by unfold in32; omega⟩ dX9_keep_87 ?_
        refine Go_iaddn i 10 rfl rfl (by omega) dX9_keep_89 ?_
        refine Go_ialoadv (i + 10) (v := r (i + 10)) rfl sh_121 rfl (by omega) dX9_keep_90 ?_
        refine Go_iastoreS i sh_121 rfl (by omega) dX9_keep_91 ?_
        refine Go_iincn i 1 rfl rfl (by omega) 1 (ls' := [(1, gI _), (0, gR 106)]) rfl dX9_keep_92 (by decide) rfl ?_
        refine Go_goto dX9_keep_95 rfl ?_
        refine Go_pick [1, 0] (ls' := [(0, gR 106), (1, gI _)]) rfl ?_
        exact ih_71 (i + 1) _ (by omega) (by simp only [shS9, hx])
  have loop_42 : k = 10 → ∀ (n : Nat) (i : Nat) (r : Nat → Int), i + n = 108 → shS9 12 (M 118) i = r → Go D ca none (gRm mX9_keep (SH.length - SH.length) (gSz SH - gSz SH)) mX9_keep 42 [(0, gR 106), (1, gI (i : Int))] [] SH (gSet (gSet M 119 (shS9 144 (M 119) 1296)) 118 r) [] SH (kpM M k) := by
    intro hk10 n
    induction n with
    | zero =>
      intro i r he hx
      have ei : i = 108 := by omega
      subst ei
      subst hx
      refine Go_iload_n 1 rfl rfl dX9_keep_42 ?_
      refine Go_bipush ⟨by decide, by unfold in32; omega⟩ dX9_keep_43 ?_
      refine Go_icmp_ge dX9_keep_45 rfl (fun h45 => ?_) (fun h45 => ?_)
      · skip
        refine Go_o 121 ?_
        refine Go_iconst (by unfold in32; omega) dX9_keep_69 ?_
        refine Go_istore_n (ls' := [(1, gI _), (0, gR 106)]) rfl dX9_keep_70 (by decide) rfl ?_
        refine Go_pick [1, 0] (ls' := [(0, gR 106), (1, gI _)]) rfl ?_
        exact loop_71 hk10 90 0 _ (by omega) rfl
      · skip
        exact absurd h45 (by omega)
    | succ n ih_42 =>
      intro i r he hx
      refine Go_iload_n 1 rfl rfl dX9_keep_42 ?_
      refine Go_bipush ⟨by decide, by unfold in32; omega⟩ dX9_keep_43 ?_
      refine Go_icmp_ge dX9_keep_45 rfl (fun h45 => ?_) (fun h45 => ?_)
      · skip
        exact absurd h45 (by omega)
      · skip
        refine Go_aload_n 0 rfl rfl dX9_keep_48 ?_
        refine Go_getR (c' := 118) faX9_48 sh_106 (pt_106_15 (M := M) hC.1) dX9_keep_49 ?_
        refine Go_iload_n 1 rfl rfl dX9_keep_52 ?_
        refine Go_aload_n 0 rfl rfl dX9_keep_53 ?_
        refine Go_getR (c' := 118) faX9_48 sh_106 (pt_106_15 (M := M) hC.1) dX9_keep_54 ?_
        refine Go_iload_n 1 rfl rfl dX9_keep_57 ?_
        refine Go_bipush ⟨by decide, by unfold in32; omega⟩ dX9_keep_58 ?_
        refine Go_iaddn i 12 rfl rfl (by omega) dX9_keep_60 ?_
        refine Go_ialoadv (i + 12) (v := r (i + 12)) rfl sh_118 rfl (by omega) dX9_keep_61 ?_
        refine Go_iastoreS i sh_118 rfl (by omega) dX9_keep_62 ?_
        refine Go_iincn i 1 rfl rfl (by omega) 1 (ls' := [(1, gI _), (0, gR 106)]) rfl dX9_keep_63 (by decide) rfl ?_
        refine Go_goto dX9_keep_66 rfl ?_
        refine Go_pick [1, 0] (ls' := [(0, gR 106), (1, gI _)]) rfl ?_
        exact ih_42 (i + 1) _ (by omega) (by simp only [shS9, hx])
  have loop_11 : k = 10 → ∀ (n : Nat) (i : Nat) (r : Nat → Int), i + n = 1296 → shS9 144 (M 119) i = r → Go D ca none (gRm mX9_keep (SH.length - SH.length) (gSz SH - gSz SH)) mX9_keep 11 [(0, gR 106), (1, gI (i : Int))] [] SH (gSet (M) 119 r) [] SH (kpM M k) := by
    intro hk10 n
    induction n with
    | zero =>
      intro i r he hx
      have ei : i = 1296 := by omega
      subst ei
      subst hx
      refine Go_iload_n 1 rfl rfl dX9_keep_11 ?_
      refine Go_sipush ⟨by decide, by unfold in32; omega⟩ dX9_keep_12 ?_
      refine Go_icmp_ge dX9_keep_15 rfl (fun h15 => ?_) (fun h15 => ?_)
      · skip
        refine Go_o 118 ?_
        refine Go_iconst (by unfold in32; omega) dX9_keep_40 ?_
        refine Go_istore_n (ls' := [(1, gI _), (0, gR 106)]) rfl dX9_keep_41 (by decide) rfl ?_
        refine Go_pick [1, 0] (ls' := [(0, gR 106), (1, gI _)]) rfl ?_
        exact loop_42 hk10 108 0 _ (by omega) rfl
      · skip
        exact absurd h15 (by omega)
    | succ n ih_11 =>
      intro i r he hx
      refine Go_iload_n 1 rfl rfl dX9_keep_11 ?_
      refine Go_sipush ⟨by decide, by unfold in32; omega⟩ dX9_keep_12 ?_
      refine Go_icmp_ge dX9_keep_15 rfl (fun h15 => ?_) (fun h15 => ?_)
      · skip
        exact absurd h15 (by omega)
      · skip
        refine Go_aload_n 0 rfl rfl dX9_keep_18 ?_
        refine Go_getR (c' := 119) faX9_51 sh_106 (pt_106_16 (M := M) hC.1) dX9_keep_19 ?_
        refine Go_iload_n 1 rfl rfl dX9_keep_22 ?_
        refine Go_aload_n 0 rfl rfl dX9_keep_23 ?_
        refine Go_getR (c' := 119) faX9_51 sh_106 (pt_106_16 (M := M) hC.1) dX9_keep_24 ?_
        refine Go_iload_n 1 rfl rfl dX9_keep_27 ?_
        refine Go_sipush ⟨by decide, by unfold in32; omega⟩ dX9_keep_28 ?_
        refine Go_iaddn i 144 rfl rfl (by omega) dX9_keep_31 ?_
        refine Go_ialoadv (i + 144) (v := r (i + 144)) rfl sh_119 rfl (by omega) dX9_keep_32 ?_
        refine Go_iastoreS i sh_119 rfl (by omega) dX9_keep_33 ?_
        refine Go_iincn i 1 rfl rfl (by omega) 1 (ls' := [(1, gI _), (0, gR 106)]) rfl dX9_keep_34 (by decide) rfl ?_
        refine Go_goto dX9_keep_37 rfl ?_
        refine Go_pick [1, 0] (ls' := [(0, gR 106), (1, gI _)]) rfl ?_
        exact ih_11 (i + 1) _ (by omega) (by simp only [shS9, hx])
  refine Go_aload_n 0 rfl rfl dX9_keep_0 ?_
  refine Go_getIv (v := (k : Int)) hk faX9_72 sh_106 dX9_keep_1 ?_
  refine Go_bipush ⟨by decide, by unfold in32; omega⟩ dX9_keep_4 ?_
  refine Go_icmp_ne dX9_keep_6 rfl (fun h6 => ?_) (fun h6 => ?_)
  · skip
    rw [show kpM M k = kpW M k from if_neg (by omega)]
    exact kpTail hC k hk (by omega)
  · skip
    have hk10 : k = 10 := by omega
    subst hk10
    refine Go_o 119 ?_
    refine Go_iconst (by unfold in32; omega) dX9_keep_9 ?_
    refine Go_istore_n (ls' := [(1, gI _), (0, gR 106)]) rfl dX9_keep_10 (by decide) rfl ?_
    refine Go_pick [1, 0] (ls' := [(0, gR 106), (1, gI _)]) rfl ?_
    exact loop_11 rfl 1296 0 _ (by omega) rfl
