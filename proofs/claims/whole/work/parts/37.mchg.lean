def amN (ok : Nat → Bool) (W : Nat → T3) (t : T3 × Int × Int × Int) (d : Nat) : T3 × Int × Int × Int := if ok d = true then (W d, (if lsB (W d) t.2.1 t.2.2.1 = true then (W d).1 else t.2.1), (if lsB (W d) t.2.1 t.2.2.1 = true then (W d).2.1 else t.2.2.1), (if lsB (W d) t.2.1 t.2.2.1 = true then (d : Int) else t.2.2.2)) else t
def amS (ok : Nat → Bool) (W : Nat → T3) (c : Nat) (s : T3 × Int × Int × Int) : Nat → T3 × Int × Int × Int
  | 0 => s
  | p + 1 => if c ||| 2 ^ p = c then amS ok W c s p else amN ok W (amS ok W c s p) (c ||| 2 ^ p)
def cgI (ok : Nat → Bool) (W : Nat → T3) (c p : Nat) (s : T3 × Int × Int × Int) : Nat → T3 × Int × Int × Int
  | 0 => s
  | q + 1 => if c.testBit p = true ∧ ¬ c.testBit q = true then amN ok W (cgI ok W c p s q) (c ^^^ 2 ^ p ^^^ 2 ^ q) else cgI ok W c p s q
def cgO (ok : Nat → Bool) (W : Nat → T3) (c np : Nat) (s : T3 × Int × Int × Int) : Nat → T3 × Int × Int × Int
  | 0 => s
  | p + 1 => cgI ok W c p (cgO ok W c np s p) np
def adL (F : Nat → T3 × Int × Int × Int → T3 × Int × Int × Int) : Nat → Nat → T3 × Int × Int → Int → Option (Nat × (T3 × Int × Int) × Int)
  | 0, _, _, _ => none
  | k + 1, c, s, w => if (F c (s.1, s.2.1, s.2.2, -4)).2.2.2 = -4 then some (c, ((F c (s.1, s.2.1, s.2.2, -4)).1, (F c (s.1, s.2.1, s.2.2, -4)).2.1, (F c (s.1, s.2.1, s.2.2, -4)).2.2.1), w32 (w + 0)) else adL F k (F c (s.1, s.2.1, s.2.2, -4)).2.2.2.toNat ((F c (s.1, s.2.1, s.2.2, -4)).1, (F c (s.1, s.2.1, s.2.2, -4)).2.1, (F c (s.1, s.2.1, s.2.2, -4)).2.2.1) (w32 (w + 1))
theorem adL_t {F : Nat → T3 × Int × Int × Int → T3 × Int × Int × Int} {k c : Nat} {s : T3 × Int × Int} {w : Int} {R : Nat × (T3 × Int × Int) × Int} {s1 : T3} {a1 b1 : Int} (hF : F c (s.1, s.2.1, s.2.2, -4) = (s1, a1, b1, -4)) (h : adL F (k + 1) c s w = some R) : R = (c, (s1, a1, b1), w32 (w + 0)) := by
  simp only [adL, hF] at h
  rw [if_pos trivial] at h
  exact (Option.some.inj h).symm
theorem adL_f {F : Nat → T3 × Int × Int × Int → T3 × Int × Int × Int} {k c d : Nat} {s : T3 × Int × Int} {w : Int} {R : Nat × (T3 × Int × Int) × Int} {s1 : T3} {a1 b1 : Int} (hF : F c (s.1, s.2.1, s.2.2, -4) = (s1, a1, b1, (d : Int))) (h : adL F (k + 1) c s w = some R) : adL F k d (s1, a1, b1) (w32 (w + 1)) = some R := by
  simp only [adL, hF] at h
  rw [if_neg (by omega), Int.toNat_natCast] at h
  exact h
theorem amN_nat {ok : Nat → Bool} {W : Nat → T3} {t : T3 × Int × Int × Int} {d : Nat} (hd : d < 1024) (h : t.2.2.2 = -4 ∨ ∃ n : Nat, n < 1024 ∧ t.2.2.2 = (n : Int)) : (amN ok W t d).2.2.2 = -4 ∨ ∃ n : Nat, n < 1024 ∧ (amN ok W t d).2.2.2 = (n : Int) := by
  unfold amN
  split
  · show (if lsB (W d) t.2.1 t.2.2.1 = true then (d : Int) else t.2.2.2) = -4 ∨ ∃ n : Nat, n < 1024 ∧ (if lsB (W d) t.2.1 t.2.2.1 = true then (d : Int) else t.2.2.2) = (n : Int)
    split
    · exact Or.inr ⟨d, hd, rfl⟩
    · exact h
  · exact h
theorem amS_nat {ok : Nat → Bool} {W : Nat → T3} {c : Nat} {s : T3 × Int × Int × Int} (hc : c < 1024) (h : s.2.2.2 = -4) : ∀ p, p ≤ 10 → (amS ok W c s p).2.2.2 = -4 ∨ ∃ n : Nat, n < 1024 ∧ (amS ok W c s p).2.2.2 = (n : Int)
  | 0, _ => Or.inl h
  | p + 1, hp => by
    simp only [amS]
    split
    · exact amS_nat hc h p (by omega)
    · exact amN_nat (or_lt hc (by omega)) (amS_nat hc h p (by omega))
theorem cgI_nat {ok : Nat → Bool} {W : Nat → T3} {c p : Nat} {s : T3 × Int × Int × Int} (hc : c < 1024) (hp : p < 10) (h : s.2.2.2 = -4 ∨ ∃ n : Nat, n < 1024 ∧ s.2.2.2 = (n : Int)) : ∀ q, q ≤ 10 → (cgI ok W c p s q).2.2.2 = -4 ∨ ∃ n : Nat, n < 1024 ∧ (cgI ok W c p s q).2.2.2 = (n : Int)
  | 0, _ => h
  | q + 1, hq => by
    simp only [cgI]
    split
    · exact amN_nat (xor_lt (xor_lt hc hp) (by omega)) (cgI_nat hc hp h q (by omega))
    · exact cgI_nat hc hp h q (by omega)
theorem cgO_nat {ok : Nat → Bool} {W : Nat → T3} {c np : Nat} {s : T3 × Int × Int × Int} (hc : c < 1024) (hn : np ≤ 10) (h : s.2.2.2 = -4) : ∀ p, p ≤ 10 → (cgO ok W c np s p).2.2.2 = -4 ∨ ∃ n : Nat, n < 1024 ∧ (cgO ok W c np s p).2.2.2 = (n : Int)
  | 0, _ => Or.inl h
  | p + 1, hp => cgI_nat hc (by omega) (cgO_nat hc hn h p (by omega)) np hn
def adF (N : gMem) (nv np c : Nat) (t : T3 × Int × Int × Int) : T3 × Int × Int × Int := amS (alP (N 111) np (N 106 9)) (wgM N nv np) c t np
def cgF (N : gMem) (nv np c : Nat) (t : T3 × Int × Int × Int) : T3 × Int × Int × Int := cgO (alP (N 111) np (N 106 9)) (wgM N nv np) c np t np
theorem xb2 : ∀ c, c < 1024 → ∀ p, p < 10 → Nat.testBit c p = true ∨ (c ^^^ 2 ^ p) = c + 2 ^ p := by decide +kernel
theorem xb3 : ∀ c, c < 1024 → ∀ p, p < 10 → Nat.testBit c p = false ∨ (c ^^^ 2 ^ p) + 2 ^ p = c := by decide +kernel
theorem cg_bit {c p q : Nat} (hc : c < 1024) (hp : p < 10) (hq : q < 10) (b1 : c.testBit p = true) (b2 : ¬ c.testBit q = true) : w32 (w32 ((c : Int) - l32 1 (p : Int)) + l32 1 (q : Int)) = ((c ^^^ 2 ^ p ^^^ 2 ^ q : Nat) : Int) := by
  have h1 : (c ^^^ 2 ^ p) + 2 ^ p = c := (xb3 c hc p hp).resolve_left (by rw [b1]; decide)
  have h2 := xor_lt hc hp
  have hpq : p ≠ q := fun e0 => b2 (by rw [← e0]; exact b1)
  have h3 : (c ^^^ 2 ^ p ^^^ 2 ^ q) = (c ^^^ 2 ^ p) + 2 ^ q := (xb2 (c ^^^ 2 ^ p) h2 q hq).resolve_left (by
    rw [Nat.testBit_xor, Nat.testBit_two_pow, decide_eq_false hpq]
    simpa using b2)
  have h4 := p_lt hp
  have h5 := p_lt hq
  rw [h3, sh1 (by omega), sh1 (by omega)]
  generalize c ^^^ 2 ^ p = z at h1 h2 h3
  generalize 2 ^ p = x at *
  generalize 2 ^ q = y at *
  rw [w32_id (x := (c : Int) - (x : Int)) (by unfold in32; omega), w32_id (by unfold in32; omega)]
  omega
def adM (N : gMem) (s : T3 × Int × Int) (w : Int) : gMem := gSet N 106 (gUp (gUp (gUp (gUp (gUp (gUp ((N 106)) 22 (s.1.1)) 23 (s.1.2.1)) 24 (s.1.2.2)) 32 (w)) 33 (s.2.1)) 34 (s.2.2))
theorem ch6_id (f : Nat → Int) (w : Int) : gUp (gUp (gUp (gUp (gUp (gUp f 22 (f 22)) 23 (f 23)) 24 (f 24)) 32 (w)) 33 (f 33)) 34 (f 34) = gUp f 32 w := by
  rw [wh_id]
  have e2 : gUp (gUp f 32 w) 33 (f 33) = gUp f 32 w := gUp_id (gUp f 32 w) 33
  rw [e2]
  exact gUp_id (gUp f 32 w) 34
set_option maxHeartbeats 4000000 in
set_option maxRecDepth 100000 in
theorem addT {D : va_G} {ca : Nat → ClassId} {N : gMem} {nv np : Nat} (hN : MS N nv np) (hH : ∀ p, p < np → ∃ z : Nat, z < 12 ∧ N 110 p = (z : Int)) : ∀ (k c : Nat) (u q r w a b : Int) (R : Nat × (T3 × Int × Int) × Int), c < 1024 → adL (adF N nv np) k c ((u, q, r), a, b) w = some R → Go D ca none (gRm mX9_added (SH.length - SH.length) (gSz SH - gSz SH)) mX9_added 32 [(0, gR 106), (1, gI (c : Int)), (2, gI 1)] [] SH (gSet N 106 (gUp (gUp (gUp (gUp (gUp (gUp ((N 106)) 22 (u)) 23 (q)) 24 (r)) 32 (w)) 33 (a)) 34 (b))) [gI (R.1 : Int)] SH (adM N R.2.1 R.2.2) := by
  have hv12 := hN.2.2.1
  have hn10 := hN.2.2.2.2
  intro k
  induction k with
  | zero =>
    intro c u q r w a b R hc h
    cases h
  | succ k ih =>
    intro c u q r w a b R hc h
    have hnat := amS_nat (ok := (alP (N 111) np (N 106 9))) (W := (wgM N nv np)) (c := c) (s := ((u, q, r), a, b, -4)) hc rfl np (by omega)
    have loop_42 : ∀ (n : Nat) (p : Nat) (u1 q1 r1 a1 b1 x : Int), p + n = np → amS (alP (N 111) np (N 106 9)) (wgM N nv np) c ((u, q, r), a, b, -4) p = ((u1, q1, r1), a1, b1, x) → Go D ca none (gRm mX9_added (SH.length - SH.length) (gSz SH - gSz SH)) mX9_added 42 [(0, gR 106), (1, gI (c : Int)), (3, gI x), (4, gI (p : Int))] [] SH (gSet N 106 (gUp (gUp (gUp (gUp (gUp (gUp ((N 106)) 22 (u1)) 23 (q1)) 24 (r1)) 32 (w)) 33 (a1)) 34 (b1))) [gI (R.1 : Int)] SH (adM N R.2.1 R.2.2) := by
      intro n
      induction n with
      | zero =>
        intro p u1 q1 r1 a1 b1 x hp hy
        have ep : p = np := by omega
        rw [ep] at hy
        refine Go_iload 3 rfl dX9_added_42 ?_
        refine Go_aload_n 0 rfl rfl dX9_added_44 ?_
        refine Go_getIv (j := 4) (v := (np : Int)) hN.2.2.2.1 faX9_78 sh_106 dX9_added_45 ?_
        refine Go_icmp_ge dX9_added_48 rfl (fun h48 => ?_) (fun h48 => ?_)
        · skip
          refine Go_iload_n 2 rfl rfl dX9_added_92 ?_
          refine Go_bipush ⟨by decide, by unfold in32; omega⟩ dX9_added_93 ?_
          refine Go_icmp_eq dX9_added_95 rfl (fun h95 => ?_) (fun h95 => ?_)
          · skip
            subst h95
            have eR := adL_t (F := adF N nv np) (c := c) (s := ((u, q, r), a, b)) hy h
            subst eR
            refine Go_iconst (by unfold in32; omega) dX9_added_102 ?_
            refine Go_istore_n (ls' := [(2, gI _), (0, gR 106), (1, gI _), (3, gI _), (4, gI _)]) rfl dX9_added_103 (by decide) rfl ?_
            refine Go_iload_n 0 rfl rfl dX9_added_104 ?_
            refine Go_if_eq dX9_added_105 rfl (fun h105 => ?_) (fun h105 => ?_)
            · skip
              refine Go_iload_n 2 rfl rfl dX9_added_112 ?_
              refine Go_istore_n (ls' := [(1, gI _), (2, gI _), (0, gR 106), (3, gI _), (4, gI _)]) rfl dX9_added_113 (by decide) rfl ?_
              refine Go_aload_n 2 rfl rfl dX9_added_114 ?_
              refine Go_dupR dX9_added_115 ?_
              refine Go_getIv (j := 32) (v := w) rfl faX9_192 sh_106 dX9_added_116 ?_
              refine Go_iload_n 1 rfl rfl dX9_added_119 ?_
              refine Go_if_eq dX9_added_120 rfl (fun h120 => ?_) (fun h120 => ?_)
              · skip
                refine Go_iconst (by unfold in32; omega) dX9_added_127 ?_
                refine Go_iadd dX9_added_128 ?_
                refine Go_putIS fpX9_192 sh_106 dX9_added_129 ?_
                refine Go_M (congrArg (gSet N 106) (u6_32 _ _ _ _ _ _ _ _)) ?_
                refine Go_goto dX9_added_132 rfl ?_
                refine Go_iload_n 1 rfl rfl dX9_added_32 ?_
                refine Go_if_eq dX9_added_33 rfl (fun h33 => ?_) (fun h33 => ?_)
                · skip
                  refine Go_iload_n 0 rfl rfl dX9_added_135 ?_
                  exact Go_ret rfl dX9_added_136
                · skip
                  exact absurd rfl h33
              · skip
                exact absurd rfl h120
            · skip
              exact absurd rfl h105
          · skip
            obtain ⟨d, hd, ed⟩ := hnat.resolve_left (by rw [hy]; exact h95)
            rw [hy] at ed
            have ed2 : x = (d : Int) := ed
            subst ed2
            have h2 := adL_f (F := adF N nv np) (c := c) (s := ((u, q, r), a, b)) hy h
            refine Go_iconst (by unfold in32; omega) dX9_added_98 ?_
            refine Go_goto dX9_added_99 rfl ?_
            refine Go_istore_n (ls' := [(2, gI _), (0, gR 106), (1, gI _), (3, gI _), (4, gI _)]) rfl dX9_added_103 (by decide) rfl ?_
            refine Go_iload_n 0 rfl rfl dX9_added_104 ?_
            refine Go_if_eq dX9_added_105 rfl (fun h105 => ?_) (fun h105 => ?_)
            · skip
              exact absurd h105 (by decide)
            · skip
              refine Go_iload_n 3 rfl rfl dX9_added_108 ?_
              refine Go_goto dX9_added_109 rfl ?_
              refine Go_istore_n (ls' := [(1, gI _), (2, gI _), (0, gR 106), (3, gI _), (4, gI _)]) rfl dX9_added_113 (by decide) rfl ?_
              refine Go_aload_n 2 rfl rfl dX9_added_114 ?_
              refine Go_dupR dX9_added_115 ?_
              refine Go_getIv (j := 32) (v := w) rfl faX9_192 sh_106 dX9_added_116 ?_
              refine Go_iload_n 1 rfl rfl dX9_added_119 ?_
              refine Go_if_eq dX9_added_120 rfl (fun h120 => ?_) (fun h120 => ?_)
              · skip
                exact absurd h120 (by decide)
              · skip
                refine Go_iconst (by unfold in32; omega) dX9_added_123 ?_
                refine Go_goto dX9_added_124 rfl ?_
                refine Go_iadd dX9_added_128 ?_
                refine Go_putIS fpX9_192 sh_106 dX9_added_129 ?_
                refine Go_M (congrArg (gSet N 106) (u6_32 _ _ _ _ _ _ _ _)) ?_
                refine Go_goto dX9_added_132 rfl ?_
                refine Go_pick [2, 0, 1] (ls' := [(0, gR 106), (1, gI _), (2, gI _)]) rfl ?_
                exact ih d _ _ _ _ _ _ R hd h2
        · skip
          exact absurd h48 (by omega)
      | succ n ih_42 =>
        intro p u1 q1 r1 a1 b1 x hp hy
        refine Go_iload 3 rfl dX9_added_42 ?_
        refine Go_aload_n 0 rfl rfl dX9_added_44 ?_
        refine Go_getIv (j := 4) (v := (np : Int)) hN.2.2.2.1 faX9_78 sh_106 dX9_added_45 ?_
        refine Go_icmp_ge dX9_added_48 rfl (fun h48 => ?_) (fun h48 => ?_)
        · skip
          exact absurd h48 (by omega)
        · skip
          refine Go_iload_n 1 rfl rfl dX9_added_51 ?_
          refine Go_iconst (by unfold in32; omega) dX9_added_52 ?_
          refine Go_iload 3 rfl dX9_added_53 ?_
          refine Go_ishl dX9_added_55 ?_
          refine Go_ior dX9_added_56 ?_
          refine Go_topI (v := ((c ||| 2 ^ p : Nat) : Int)) (r_bit hc (by omega)) ?_
          refine Go_istore (ls' := [(5, gI _), (0, gR 106), (1, gI _), (3, gI _), (4, gI _)]) dX9_added_57 (by decide) rfl ?_
          refine Go_iload 0 rfl dX9_added_59 ?_
          refine Go_iload_n 2 rfl rfl dX9_added_61 ?_
          refine Go_icmp_eq dX9_added_62 rfl (fun h62 => ?_) (fun h62 => ?_)
          · skip
            refine Go_iincn p 1 rfl rfl (by omega) 4 (ls' := [(4, gI _), (5, gI _), (0, gR 106), (1, gI _), (3, gI _)]) rfl dX9_added_86 (by decide) rfl ?_
            refine Go_goto dX9_added_89 rfl ?_
            refine Go_pick [2, 3, 4, 0] (ls' := [(0, gR 106), (1, gI _), (3, gI _), (4, gI _)]) rfl ?_
            exact ih_42 (p + 1) _ _ _ _ _ _ (by omega) (by simp only [amS, hy]; rw [if_pos (by exact Int.ofNat.inj h62)])
          · skip
            refine Go_aload_n 1 rfl rfl dX9_added_65 ?_
            refine Go_iload 0 rfl dX9_added_66 ?_
            refine Go_callVI (q := vwCl[9]) (fX9_isAllowed (MS_ob hN (agM_up (agM_up (agM_up (agM_up (agM_up (agM_up (agM_rf _) (by decide)) (by decide)) (by decide)) (by decide)) (by decide)) (by decide))) (c ||| 2 ^ p) (or_lt hc (by omega))) cwX9_139 imX9_isAllowed rfl rfl ⟨Nat.le_of_ble_eq_true rfl, Nat.le_of_ble_eq_true rfl⟩ sh_106 rfl (Nat.le_of_ble_eq_true rfl) sh_rf dX9_added_68 ?_
            refine Go_if_eq dX9_added_71 rfl (fun h71 => ?_) (fun h71 => ?_)
            · skip
              replace h71 := bI_0.mp h71
              refine Go_iincn p 1 rfl rfl (by omega) 4 (ls' := [(4, gI _), (5, gI _), (0, gR 106), (1, gI _), (3, gI _)]) rfl dX9_added_86 (by decide) rfl ?_
              refine Go_goto dX9_added_89 rfl ?_
              refine Go_pick [2, 3, 4, 0] (ls' := [(0, gR 106), (1, gI _), (3, gI _), (4, gI _)]) rfl ?_
              exact ih_42 (p + 1) _ _ _ _ _ _ (by omega) (by simp only [amS, hy]; rw [if_neg (by exact fun z => h62 (congrArg Int.ofNat z))]; unfold amN; rw [if_neg (by exact h71)])
            · skip
              replace h71 := bI_n.mp h71
              refine Go_aload_n 1 rfl rfl dX9_added_74 ?_
              refine Go_iload 0 rfl dX9_added_75 ?_
              refine Go_callVI (q := vwCl[9]) (fX9_isLess hN hH (N 106) (agM_rf _) u1 q1 r1 w a1 b1 (c ||| 2 ^ p) (or_lt hc (by omega))) cwX9_198 imX9_isLess rfl rfl ⟨Nat.le_of_ble_eq_true rfl, Nat.le_of_ble_eq_true rfl⟩ sh_106 rfl (Nat.le_of_ble_eq_true rfl) sh_rf dX9_added_77 ?_
              refine Go_if_eq dX9_added_80 rfl (fun h80 => ?_) (fun h80 => ?_)
              · skip
                replace h80 := bI_0.mp h80
                refine Go_iincn p 1 rfl rfl (by omega) 4 (ls' := [(4, gI _), (5, gI _), (0, gR 106), (1, gI _), (3, gI _)]) rfl dX9_added_86 (by decide) rfl ?_
                refine Go_goto dX9_added_89 rfl ?_
                refine Go_pick [2, 3, 4, 0] (ls' := [(0, gR 106), (1, gI _), (3, gI _), (4, gI _)]) rfl ?_
                exact ih_42 (p + 1) _ _ _ _ _ _ (by omega) (by simp only [amS, hy]; rw [if_neg (by exact fun z => h62 (congrArg Int.ofNat z))]; unfold amN; rw [if_pos (by exact h71)]; simp only [if_neg h80])
              · skip
                replace h80 := bI_n.mp h80
                refine Go_iload 0 rfl dX9_added_83 ?_
                refine Go_istore_n (ls' := [(3, gI _), (5, gI _), (0, gR 106), (1, gI _), (4, gI _)]) rfl dX9_added_85 (by decide) rfl ?_
                refine Go_iincn p 1 rfl rfl (by omega) 4 (ls' := [(4, gI _), (3, gI _), (5, gI _), (0, gR 106), (1, gI _)]) rfl dX9_added_86 (by decide) rfl ?_
                refine Go_goto dX9_added_89 rfl ?_
                refine Go_pick [3, 4, 1, 0] (ls' := [(0, gR 106), (1, gI _), (3, gI _), (4, gI _)]) rfl ?_
                exact ih_42 (p + 1) _ _ _ _ _ _ (by omega) (by simp only [amS, hy]; rw [if_neg (by exact fun z => h62 (congrArg Int.ofNat z))]; unfold amN; rw [if_pos (by exact h71)]; simp only [if_pos h80])
    refine Go_iload_n 2 rfl rfl dX9_added_32 ?_
    refine Go_if_eq dX9_added_33 rfl (fun h33 => ?_) (fun h33 => ?_)
    · skip
      exact absurd h33 (by decide)
    · skip
      refine Go_bipush ⟨by decide, by unfold in32; omega⟩ dX9_added_36 ?_
      refine Go_istore_n (ls' := [(3, gI _), (0, gR 106), (1, gI _), (2, gI _)]) rfl dX9_added_38 (by decide) rfl ?_
      refine Go_iconst (by unfold in32; omega) dX9_added_39 ?_
      refine Go_istore (ls' := [(4, gI _), (3, gI _), (0, gR 106), (1, gI _), (2, gI _)]) dX9_added_40 (by decide) rfl ?_
      refine Go_pick [2, 3, 1, 0] (ls' := [(0, gR 106), (1, gI _), (3, gI _), (4, gI _)]) rfl ?_
      exact loop_42 np 0 _ _ _ _ _ _ (by omega) rfl
set_option maxHeartbeats 4000000 in
set_option maxRecDepth 100000 in
theorem pX9_added_st {D : va_G} {ca : Nat → ClassId} {M : gMem} {nv np : Nat} (hC : MS M nv np) (s : Nat) (hs : shF9 (M 111) np = (s : Int)) (hs2 : s < 1024) (h : ¬ alP (M 111) np (M 106 9) s = true) : Fn D ca mX9_added [gR 106] SH M [gI (-2)] SH (M) := by
  refine Fn_of okX9_added (Nat.le_of_ble_eq_true rfl) (Or.inr (Or.inl ⟨_, rfl, rfl⟩)) (Nat.le_refl _) (Nat.le_refl _) ?_
  refine Go_ls2 (ls' := [(0, gR 106)]) rfl ?_
  have hv12 := hC.2.2.1
  have hn10 := hC.2.2.2.2
  refine Go_aload_n 0 rfl rfl dX9_added_0 ?_
  refine Go_callVI (q := vwCl[9]) (fX9_shrines hC) cwX9_188 imX9_shrines rfl rfl ⟨Nat.le_of_ble_eq_true rfl, Nat.le_of_ble_eq_true rfl⟩ sh_106 rfl (Nat.le_of_ble_eq_true rfl) sh_rf dX9_added_1 ?_
  refine Go_topI (v := ((s : Nat) : Int)) hs ?_
  refine Go_istore_n (ls' := [(1, gI _), (0, gR 106)]) rfl dX9_added_4 (by decide) rfl ?_
  refine Go_aload_n 1 rfl rfl dX9_added_5 ?_
  refine Go_iload_n 0 rfl rfl dX9_added_6 ?_
  refine Go_callVI (q := vwCl[9]) (fX9_isAllowed hC s (by omega)) cwX9_139 imX9_isAllowed rfl rfl ⟨Nat.le_of_ble_eq_true rfl, Nat.le_of_ble_eq_true rfl⟩ sh_106 rfl (Nat.le_of_ble_eq_true rfl) sh_rf dX9_added_7 ?_
  refine Go_if_ne dX9_added_10 rfl (fun h10 => ?_) (fun h10 => ?_)
  · skip
    replace h10 := bI_n.mp h10
    exact absurd h10 h
  · skip
    replace h10 := bI_0.mp h10
    refine Go_bipush ⟨by decide, by unfold in32; omega⟩ dX9_added_13 ?_
    exact Go_ret rfl dX9_added_15
set_option maxHeartbeats 4000000 in
set_option maxRecDepth 100000 in
theorem pX9_added {D : va_G} {ca : Nat → ClassId} {M : gMem} {nv np : Nat} (hC : MS M nv np) (hH : ∀ p, p < np → ∃ z : Nat, z < 12 ∧ M 110 p = (z : Int)) (s : Nat) (hs : shF9 (M 111) np = (s : Int)) (hs2 : s < 1024) (h : alP (M 111) np (M 106 9) s = true) (K : Nat) (R : Nat × (T3 × Int × Int) × Int) (hR : adL (adF (fyM M nv) nv np) K s (wgM (fyM M nv) nv np s, (wgM (fyM M nv) nv np s).1, (wgM (fyM M nv) nv np s).2.1) 0 = some R) : Fn D ca mX9_added [gR 106] SH M [gI (R.1 : Int)] SH (adM (fyM M nv) R.2.1 R.2.2) := by
  refine Fn_of okX9_added (Nat.le_of_ble_eq_true rfl) (Or.inr (Or.inl ⟨_, rfl, rfl⟩)) (Nat.le_refl _) (Nat.le_refl _) ?_
  refine Go_ls2 (ls' := [(0, gR 106)]) rfl ?_
  have hv12 := hC.2.2.1
  have hn10 := hC.2.2.2.2
  have hN := MS_fy hC
  have hpw := p10 hn10
  refine Go_aload_n 0 rfl rfl dX9_added_0 ?_
  refine Go_callVI (q := vwCl[9]) (fX9_shrines hC) cwX9_188 imX9_shrines rfl rfl ⟨Nat.le_of_ble_eq_true rfl, Nat.le_of_ble_eq_true rfl⟩ sh_106 rfl (Nat.le_of_ble_eq_true rfl) sh_rf dX9_added_1 ?_
  refine Go_topI (v := ((s : Nat) : Int)) hs ?_
  refine Go_istore_n (ls' := [(1, gI _), (0, gR 106)]) rfl dX9_added_4 (by decide) rfl ?_
  refine Go_aload_n 1 rfl rfl dX9_added_5 ?_
  refine Go_iload_n 0 rfl rfl dX9_added_6 ?_
  refine Go_callVI (q := vwCl[9]) (fX9_isAllowed hC s (by omega)) cwX9_139 imX9_isAllowed rfl rfl ⟨Nat.le_of_ble_eq_true rfl, Nat.le_of_ble_eq_true rfl⟩ sh_106 rfl (Nat.le_of_ble_eq_true rfl) sh_rf dX9_added_7 ?_
  refine Go_if_ne dX9_added_10 rfl (fun h10 => ?_) (fun h10 => ?_)
  · skip
    replace h10 := bI_n.mp h10
    refine Go_aload_n 1 rfl rfl dX9_added_16 ?_
    refine Go_callV0 (q := vwCl[9]) (fX9_findWays hC) cwX9_112 imX9_findWays rfl rfl ⟨Nat.le_of_ble_eq_true rfl, Nat.le_of_ble_eq_true rfl⟩ sh_106 rfl (Nat.le_of_ble_eq_true rfl) sh_rf dX9_added_17 ?_
    refine Go_M (M2 := fyM M nv) rfl ?_
    generalize hNe : fyM M nv = N at hN hR ⊢
    have hHN : ∀ p, p < np → ∃ z : Nat, z < 12 ∧ N 110 p = (z : Int) := fun p hp => by rw [← hNe]; exact hH p hp
    refine Go_o 106 ?_
    refine Go_aload_n 1 rfl rfl dX9_added_20 ?_
    refine Go_iconst (by unfold in32; omega) dX9_added_21 ?_
    refine Go_putIS fpX9_192 sh_106 dX9_added_22 ?_
    refine Go_M (M2 := gSet N 106 (gUp (gUp (gUp (gUp (gUp (gUp ((N 106)) 22 (N 106 22)) 23 (N 106 23)) 24 (N 106 24)) 32 (0)) 33 (N 106 33)) 34 (N 106 34))) (congrArg (gSet N 106) (ch6_id _ _).symm) ?_
    refine Go_aload_n 1 rfl rfl dX9_added_25 ?_
    refine Go_iload_n 0 rfl rfl dX9_added_26 ?_
    refine Go_callV0 (q := vwCl[9]) (fX9_begins hN hHN (N 106) (agM_rf _) (N 106 22) (N 106 23) (N 106 24) 0 (N 106 33) (N 106 34) s hs2) cwX9_195 imX9_begins rfl rfl ⟨Nat.le_of_ble_eq_true rfl, Nat.le_of_ble_eq_true rfl⟩ sh_106 rfl (Nat.le_of_ble_eq_true rfl) sh_rf dX9_added_27 ?_
    refine Go_iconst (by unfold in32; omega) dX9_added_30 ?_
    refine Go_istore_n (ls' := [(2, gI _), (1, gI _), (0, gR 106)]) rfl dX9_added_31 (by decide) rfl ?_
    refine Go_pick [2, 1, 0] (ls' := [(0, gR 106), (1, gI _), (2, gI _)]) rfl ?_
    exact addT hN hHN K s _ _ _ _ _ _ R hs2 hR
  · skip
    replace h10 := bI_0.mp h10
    exact absurd h h10
set_option maxHeartbeats 4000000 in
set_option maxRecDepth 100000 in
theorem chgT {D : va_G} {ca : Nat → ClassId} {N : gMem} {nv np : Nat} (hN : MS N nv np) (hH : ∀ p, p < np → ∃ z : Nat, z < 12 ∧ N 110 p = (z : Int)) : ∀ (k c : Nat) (u q r w a b : Int) (R : Nat × (T3 × Int × Int) × Int), c < 1024 → adL (cgF N nv np) k c ((u, q, r), a, b) w = some R → Go D ca none (gRm mX9_changed (SH.length - SH.length) (gSz SH - gSz SH)) mX9_changed 39 [(0, gR 106), (2, gI (c : Int)), (3, gI 1)] [] SH (gSet N 106 (gUp (gUp (gUp (gUp (gUp (gUp ((N 106)) 22 (u)) 23 (q)) 24 (r)) 32 (w)) 33 (a)) 34 (b))) [gI (R.1 : Int)] SH (adM N R.2.1 R.2.2) := by
  have hv12 := hN.2.2.1
  have hn10 := hN.2.2.2.2
  intro k
  induction k with
  | zero =>
    intro c u q r w a b R hc h
    cases h
  | succ k ih =>
    intro c u q r w a b R hc h
    have hnat := cgO_nat (ok := (alP (N 111) np (N 106 9))) (W := (wgM N nv np)) (c := c) (np := np) (s := ((u, q, r), a, b, -4)) hc hn10 rfl np (by omega)
    have loop_50 : ∀ (n : Nat) (p : Nat) (u1 q1 r1 a1 b1 x : Int), p + n = np → cgO (alP (N 111) np (N 106 9)) (wgM N nv np) c np ((u, q, r), a, b, -4) p = ((u1, q1, r1), a1, b1, x) → Go D ca none (gRm mX9_changed (SH.length - SH.length) (gSz SH - gSz SH)) mX9_changed 50 [(0, gR 106), (2, gI (c : Int)), (4, gI x), (5, gI (p : Int))] [] SH (gSet N 106 (gUp (gUp (gUp (gUp (gUp (gUp ((N 106)) 22 (u1)) 23 (q1)) 24 (r1)) 32 (w)) 33 (a1)) 34 (b1))) [gI (R.1 : Int)] SH (adM N R.2.1 R.2.2) := by
      intro n
      induction n with
      | zero =>
        intro p u1 q1 r1 a1 b1 x hp hy
        have ep : p = np := by omega
        rw [ep] at hy
        refine Go_iload 3 rfl dX9_changed_50 ?_
        refine Go_aload_n 0 rfl rfl dX9_changed_52 ?_
        refine Go_getIv (j := 4) (v := (np : Int)) hN.2.2.2.1 faX9_78 sh_106 dX9_changed_53 ?_
        refine Go_icmp_ge dX9_changed_56 rfl (fun h56 => ?_) (fun h56 => ?_)
        · skip
          refine Go_iload 2 rfl dX9_changed_137 ?_
          refine Go_bipush ⟨by decide, by unfold in32; omega⟩ dX9_changed_139 ?_
          refine Go_icmp_eq dX9_changed_141 rfl (fun h141 => ?_) (fun h141 => ?_)
          · skip
            subst h141
            have eR := adL_t (F := cgF N nv np) (c := c) (s := ((u, q, r), a, b)) hy h
            subst eR
            refine Go_iconst (by unfold in32; omega) dX9_changed_148 ?_
            refine Go_istore_n (ls' := [(3, gI _), (0, gR 106), (2, gI _), (4, gI _), (5, gI _)]) rfl dX9_changed_149 (by decide) rfl ?_
            refine Go_iload_n 0 rfl rfl dX9_changed_150 ?_
            refine Go_if_eq dX9_changed_151 rfl (fun h151 => ?_) (fun h151 => ?_)
            · skip
              refine Go_iload_n 2 rfl rfl dX9_changed_159 ?_
              refine Go_istore_n (ls' := [(2, gI _), (3, gI _), (0, gR 106), (4, gI _), (5, gI _)]) rfl dX9_changed_160 (by decide) rfl ?_
              refine Go_aload_n 2 rfl rfl dX9_changed_161 ?_
              refine Go_dupR dX9_changed_162 ?_
              refine Go_getIv (j := 32) (v := w) rfl faX9_192 sh_106 dX9_changed_163 ?_
              refine Go_iload_n 1 rfl rfl dX9_changed_166 ?_
              refine Go_if_eq dX9_changed_167 rfl (fun h167 => ?_) (fun h167 => ?_)
              · skip
                refine Go_iconst (by unfold in32; omega) dX9_changed_174 ?_
                refine Go_iadd dX9_changed_175 ?_
                refine Go_putIS fpX9_192 sh_106 dX9_changed_176 ?_
                refine Go_M (congrArg (gSet N 106) (u6_32 _ _ _ _ _ _ _ _)) ?_
                refine Go_goto dX9_changed_179 rfl ?_
                refine Go_iload_n 1 rfl rfl dX9_changed_39 ?_
                refine Go_if_eq dX9_changed_40 rfl (fun h40 => ?_) (fun h40 => ?_)
                · skip
                  refine Go_iload_n 0 rfl rfl dX9_changed_182 ?_
                  exact Go_ret rfl dX9_changed_183
                · skip
                  exact absurd rfl h40
              · skip
                exact absurd rfl h167
            · skip
              exact absurd rfl h151
          · skip
            obtain ⟨d, hd, ed⟩ := hnat.resolve_left (by rw [hy]; exact h141)
            rw [hy] at ed
            have ed2 : x = (d : Int) := ed
            subst ed2
            have h2 := adL_f (F := cgF N nv np) (c := c) (s := ((u, q, r), a, b)) hy h
            refine Go_iconst (by unfold in32; omega) dX9_changed_144 ?_
            refine Go_goto dX9_changed_145 rfl ?_
            refine Go_istore_n (ls' := [(3, gI _), (0, gR 106), (2, gI _), (4, gI _), (5, gI _)]) rfl dX9_changed_149 (by decide) rfl ?_
            refine Go_iload_n 0 rfl rfl dX9_changed_150 ?_
            refine Go_if_eq dX9_changed_151 rfl (fun h151 => ?_) (fun h151 => ?_)
            · skip
              exact absurd h151 (by decide)
            · skip
              refine Go_iload 3 rfl dX9_changed_154 ?_
              refine Go_goto dX9_changed_156 rfl ?_
              refine Go_istore_n (ls' := [(2, gI _), (3, gI _), (0, gR 106), (4, gI _), (5, gI _)]) rfl dX9_changed_160 (by decide) rfl ?_
              refine Go_aload_n 2 rfl rfl dX9_changed_161 ?_
              refine Go_dupR dX9_changed_162 ?_
              refine Go_getIv (j := 32) (v := w) rfl faX9_192 sh_106 dX9_changed_163 ?_
              refine Go_iload_n 1 rfl rfl dX9_changed_166 ?_
              refine Go_if_eq dX9_changed_167 rfl (fun h167 => ?_) (fun h167 => ?_)
              · skip
                exact absurd h167 (by decide)
              · skip
                refine Go_iconst (by unfold in32; omega) dX9_changed_170 ?_
                refine Go_goto dX9_changed_171 rfl ?_
                refine Go_iadd dX9_changed_175 ?_
                refine Go_putIS fpX9_192 sh_106 dX9_changed_176 ?_
                refine Go_M (congrArg (gSet N 106) (u6_32 _ _ _ _ _ _ _ _)) ?_
                refine Go_goto dX9_changed_179 rfl ?_
                refine Go_pick [2, 0, 1] (ls' := [(0, gR 106), (2, gI _), (3, gI _)]) rfl ?_
                exact ih d _ _ _ _ _ _ R hd h2
        · skip
          exact absurd h56 (by omega)
      | succ n ih_50 =>
        intro p u1 q1 r1 a1 b1 x hp hy
        have loop_62 : ∀ (n : Nat) (z : Nat) (u2 q2 r2 a2 b2 y : Int), z + n = np → cgI (alP (N 111) np (N 106 9)) (wgM N nv np) c p ((u1, q1, r1), a1, b1, x) z = ((u2, q2, r2), a2, b2, y) → Go D ca none (gRm mX9_changed (SH.length - SH.length) (gSz SH - gSz SH)) mX9_changed 62 [(0, gR 106), (2, gI (c : Int)), (4, gI y), (5, gI (p : Int)), (6, gI (z : Int))] [] SH (gSet N 106 (gUp (gUp (gUp (gUp (gUp (gUp ((N 106)) 22 (u2)) 23 (q2)) 24 (r2)) 32 (w)) 33 (a2)) 34 (b2))) [gI (R.1 : Int)] SH (adM N R.2.1 R.2.2) := by
          intro n
          induction n with
          | zero =>
            intro z u2 q2 r2 a2 b2 y hv hz
            have ez : z = np := by omega
            rw [ez] at hz
            refine Go_iload 4 rfl dX9_changed_62 ?_
            refine Go_aload_n 0 rfl rfl dX9_changed_64 ?_
            refine Go_getIv (j := 4) (v := (np : Int)) hN.2.2.2.1 faX9_78 sh_106 dX9_changed_65 ?_
            refine Go_icmp_ge dX9_changed_68 rfl (fun h68 => ?_) (fun h68 => ?_)
            · skip
              refine Go_iincn p 1 rfl rfl (by omega) 3 (ls' := [(5, gI _), (0, gR 106), (2, gI _), (4, gI _), (6, gI _)]) rfl dX9_changed_131 (by decide) rfl ?_
              refine Go_goto dX9_changed_134 rfl ?_
              refine Go_pick [1, 2, 3, 0] (ls' := [(0, gR 106), (2, gI _), (4, gI _), (5, gI _)]) rfl ?_
              exact ih_50 (p + 1) _ _ _ _ _ _ (by omega) (by simp only [cgO, hy]; exact hz)
            · skip
              exact absurd h68 (by omega)
          | succ n ih_62 =>
            intro z u2 q2 r2 a2 b2 y hv hz
            refine Go_iload 4 rfl dX9_changed_62 ?_
            refine Go_aload_n 0 rfl rfl dX9_changed_64 ?_
            refine Go_getIv (j := 4) (v := (np : Int)) hN.2.2.2.1 faX9_78 sh_106 dX9_changed_65 ?_
            refine Go_icmp_ge dX9_changed_68 rfl (fun h68 => ?_) (fun h68 => ?_)
            · skip
              exact absurd h68 (by omega)
            · skip
              refine Go_iload_n 1 rfl rfl dX9_changed_71 ?_
              refine Go_iload 3 rfl dX9_changed_72 ?_
              refine Go_ishr dX9_changed_74 ?_
              refine Go_iconst (by unfold in32; omega) dX9_changed_75 ?_
              refine Go_iand dX9_changed_76 ?_
              refine Go_topI (v := bI (c.testBit p = true)) (bit_s (by omega) (by omega)) ?_
              refine Go_iconst (by unfold in32; omega) dX9_changed_77 ?_
              refine Go_icmp_ne dX9_changed_78 rfl (fun h78 => ?_) (fun h78 => ?_)
              · skip
                have hb : ¬ c.testBit p = true := fun q => h78 (bI_t q)
                refine Go_iincn z 1 rfl rfl (by omega) 4 (ls' := [(6, gI _), (0, gR 106), (2, gI _), (4, gI _), (5, gI _)]) rfl dX9_changed_125 (by decide) rfl ?_
                refine Go_goto dX9_changed_128 rfl ?_
                refine Go_pick [1, 2, 3, 4, 0] (ls' := [(0, gR 106), (2, gI _), (4, gI _), (5, gI _), (6, gI _)]) rfl ?_
                exact ih_62 (z + 1) _ _ _ _ _ _ (by omega) (by simp only [cgI, hz]; rw [if_neg (by exact fun g => hb g.1)])
              · skip
                have hb : c.testBit p = true := bI_n.mp (by rw [h78]; decide)
                refine Go_iload_n 1 rfl rfl dX9_changed_81 ?_
                refine Go_iload 4 rfl dX9_changed_82 ?_
                refine Go_ishr dX9_changed_84 ?_
                refine Go_iconst (by unfold in32; omega) dX9_changed_85 ?_
                refine Go_iand dX9_changed_86 ?_
                refine Go_topI (v := bI (c.testBit z = true)) (bit_s (by omega) (by omega)) ?_
                refine Go_if_ne dX9_changed_87 rfl (fun h87 => ?_) (fun h87 => ?_)
                · skip
                  have hq : c.testBit z = true := bI_n.mp h87
                  refine Go_iincn z 1 rfl rfl (by omega) 4 (ls' := [(6, gI _), (0, gR 106), (2, gI _), (4, gI _), (5, gI _)]) rfl dX9_changed_125 (by decide) rfl ?_
                  refine Go_goto dX9_changed_128 rfl ?_
                  refine Go_pick [1, 2, 3, 4, 0] (ls' := [(0, gR 106), (2, gI _), (4, gI _), (5, gI _), (6, gI _)]) rfl ?_
                  exact ih_62 (z + 1) _ _ _ _ _ _ (by omega) (by simp only [cgI, hz]; rw [if_neg (by exact fun g => g.2 hq)])
                · skip
                  have hq : ¬ c.testBit z = true := bI_0.mp h87
                  refine Go_iload_n 1 rfl rfl dX9_changed_90 ?_
                  refine Go_iconst (by unfold in32; omega) dX9_changed_91 ?_
                  refine Go_iload 3 rfl dX9_changed_92 ?_
                  refine Go_ishl dX9_changed_94 ?_
                  refine Go_isub dX9_changed_95 ?_
                  refine Go_iconst (by unfold in32; omega) dX9_changed_96 ?_
                  refine Go_iload 4 rfl dX9_changed_97 ?_
                  refine Go_ishl dX9_changed_99 ?_
                  refine Go_iadd dX9_changed_100 ?_
                  refine Go_topI (v := ((c ^^^ 2 ^ p ^^^ 2 ^ z : Nat) : Int)) (cg_bit hc (by omega) (by omega) hb hq) ?_
                  refine Go_istore (ls' := [(7, gI _), (0, gR 106), (2, gI _), (4, gI _), (5, gI _), (6, gI _)]) dX9_changed_101 (by decide) rfl ?_
                  refine Go_aload_n 1 rfl rfl dX9_changed_103 ?_
                  refine Go_iload 0 rfl dX9_changed_104 ?_
                  refine Go_callVI (q := vwCl[9]) (fX9_isAllowed (MS_ob hN (agM_up (agM_up (agM_up (agM_up (agM_up (agM_up (agM_rf _) (by decide)) (by decide)) (by decide)) (by decide)) (by decide)) (by decide))) (c ^^^ 2 ^ p ^^^ 2 ^ z) (xor_lt (xor_lt hc (by omega)) (by omega))) cwX9_139 imX9_isAllowed rfl rfl ⟨Nat.le_of_ble_eq_true rfl, Nat.le_of_ble_eq_true rfl⟩ sh_106 rfl (Nat.le_of_ble_eq_true rfl) sh_rf dX9_changed_106 ?_
                  refine Go_if_eq dX9_changed_109 rfl (fun h109 => ?_) (fun h109 => ?_)
                  · skip
                    replace h109 := bI_0.mp h109
                    refine Go_iincn z 1 rfl rfl (by omega) 5 (ls' := [(6, gI _), (7, gI _), (0, gR 106), (2, gI _), (4, gI _), (5, gI _)]) rfl dX9_changed_125 (by decide) rfl ?_
                    refine Go_goto dX9_changed_128 rfl ?_
                    refine Go_pick [2, 3, 4, 5, 0] (ls' := [(0, gR 106), (2, gI _), (4, gI _), (5, gI _), (6, gI _)]) rfl ?_
                    exact ih_62 (z + 1) _ _ _ _ _ _ (by omega) (by simp only [cgI, hz]; rw [if_pos (by exact ⟨hb, hq⟩)]; unfold amN; rw [if_neg (by exact h109)])
                  · skip
                    replace h109 := bI_n.mp h109
                    refine Go_aload_n 1 rfl rfl dX9_changed_112 ?_
                    refine Go_iload 0 rfl dX9_changed_113 ?_
                    refine Go_callVI (q := vwCl[9]) (fX9_isLess hN hH (N 106) (agM_rf _) u2 q2 r2 w a2 b2 (c ^^^ 2 ^ p ^^^ 2 ^ z) (xor_lt (xor_lt hc (by omega)) (by omega))) cwX9_198 imX9_isLess rfl rfl ⟨Nat.le_of_ble_eq_true rfl, Nat.le_of_ble_eq_true rfl⟩ sh_106 rfl (Nat.le_of_ble_eq_true rfl) sh_rf dX9_changed_115 ?_
                    refine Go_if_eq dX9_changed_118 rfl (fun h118 => ?_) (fun h118 => ?_)
                    · skip
                      replace h118 := bI_0.mp h118
                      refine Go_iincn z 1 rfl rfl (by omega) 5 (ls' := [(6, gI _), (7, gI _), (0, gR 106), (2, gI _), (4, gI _), (5, gI _)]) rfl dX9_changed_125 (by decide) rfl ?_
                      refine Go_goto dX9_changed_128 rfl ?_
                      refine Go_pick [2, 3, 4, 5, 0] (ls' := [(0, gR 106), (2, gI _), (4, gI _), (5, gI _), (6, gI _)]) rfl ?_
                      exact ih_62 (z + 1) _ _ _ _ _ _ (by omega) (by simp only [cgI, hz]; rw [if_pos (by exact ⟨hb, hq⟩)]; unfold amN; rw [if_pos (by exact h109)]; simp only [if_neg h118])
                    · skip
                      replace h118 := bI_n.mp h118
                      refine Go_iload 0 rfl dX9_changed_121 ?_
                      refine Go_istore (ls' := [(4, gI _), (7, gI _), (0, gR 106), (2, gI _), (5, gI _), (6, gI _)]) dX9_changed_123 (by decide) rfl ?_
                      refine Go_iincn z 1 rfl rfl (by omega) 5 (ls' := [(6, gI _), (4, gI _), (7, gI _), (0, gR 106), (2, gI _), (5, gI _)]) rfl dX9_changed_125 (by decide) rfl ?_
                      refine Go_goto dX9_changed_128 rfl ?_
                      refine Go_pick [3, 4, 1, 5, 0] (ls' := [(0, gR 106), (2, gI _), (4, gI _), (5, gI _), (6, gI _)]) rfl ?_
                      exact ih_62 (z + 1) _ _ _ _ _ _ (by omega) (by simp only [cgI, hz]; rw [if_pos (by exact ⟨hb, hq⟩)]; unfold amN; rw [if_pos (by exact h109)]; simp only [if_pos h118])
        refine Go_iload 3 rfl dX9_changed_50 ?_
        refine Go_aload_n 0 rfl rfl dX9_changed_52 ?_
        refine Go_getIv (j := 4) (v := (np : Int)) hN.2.2.2.1 faX9_78 sh_106 dX9_changed_53 ?_
        refine Go_icmp_ge dX9_changed_56 rfl (fun h56 => ?_) (fun h56 => ?_)
        · skip
          exact absurd h56 (by omega)
        · skip
          refine Go_iconst (by unfold in32; omega) dX9_changed_59 ?_
          refine Go_istore (ls' := [(6, gI _), (0, gR 106), (2, gI _), (4, gI _), (5, gI _)]) dX9_changed_60 (by decide) rfl ?_
          refine Go_pick [1, 2, 3, 4, 0] (ls' := [(0, gR 106), (2, gI _), (4, gI _), (5, gI _), (6, gI _)]) rfl ?_
          exact loop_62 np 0 _ _ _ _ _ _ (by omega) rfl
    refine Go_iload_n 2 rfl rfl dX9_changed_39 ?_
    refine Go_if_eq dX9_changed_40 rfl (fun h40 => ?_) (fun h40 => ?_)
    · skip
      exact absurd h40 (by decide)
    · skip
      refine Go_bipush ⟨by decide, by unfold in32; omega⟩ dX9_changed_43 ?_
      refine Go_istore (ls' := [(4, gI _), (0, gR 106), (2, gI _), (3, gI _)]) dX9_changed_45 (by decide) rfl ?_
      refine Go_iconst (by unfold in32; omega) dX9_changed_47 ?_
      refine Go_istore (ls' := [(5, gI _), (4, gI _), (0, gR 106), (2, gI _), (3, gI _)]) dX9_changed_48 (by decide) rfl ?_
      refine Go_pick [2, 3, 1, 0] (ls' := [(0, gR 106), (2, gI _), (4, gI _), (5, gI _)]) rfl ?_
      exact loop_50 np 0 _ _ _ _ _ _ (by omega) rfl
set_option maxHeartbeats 4000000 in
set_option maxRecDepth 100000 in
theorem pX9_changed_bad {D : va_G} {ca : Nat → ClassId} {M : gMem} {nv np : Nat} (hC : MS M nv np) (x : Int) (h : ¬ (0 ≤ x ∧ x ≤ ((2 ^ np : Nat) : Int) - 1)) : Fn D ca mX9_changed [gR 106, gI x] SH M [gI (-1)] SH (M) := by
  refine Fn_of okX9_changed (Nat.le_of_ble_eq_true rfl) (Or.inr (Or.inl ⟨_, rfl, rfl⟩)) (Nat.le_refl _) (Nat.le_refl _) ?_
  refine Go_ls2 (ls' := [(0, gR 106), (1, gI _)]) rfl ?_
  have hv12 := hC.2.2.1
  have hn10 := hC.2.2.2.2
  refine Go_aload_n 0 rfl rfl dX9_changed_0 ?_
  refine Go_iload_n 1 rfl rfl dX9_changed_1 ?_
  refine Go_callVI (q := vwCl[9]) (fX9_isChoice hC _) cwX9_136 imX9_isChoice rfl rfl ⟨Nat.le_of_ble_eq_true rfl, Nat.le_of_ble_eq_true rfl⟩ sh_106 rfl (Nat.le_of_ble_eq_true rfl) sh_rf dX9_changed_2 ?_
  refine Go_if_ne dX9_changed_5 rfl (fun h5 => ?_) (fun h5 => ?_)
  · skip
    replace h5 := bI_n.mp h5
    exact absurd h5 h
  · skip
    replace h5 := bI_0.mp h5
    refine Go_iconst (by unfold in32; omega) dX9_changed_8 ?_
    exact Go_ret rfl dX9_changed_9
set_option maxHeartbeats 4000000 in
set_option maxRecDepth 100000 in
theorem pX9_changed_st {D : va_G} {ca : Nat → ClassId} {M : gMem} {nv np : Nat} (hC : MS M nv np) (c : Nat) (hc : c < 2 ^ np) (h : ¬ alP (M 111) np (M 106 9) c = true) : Fn D ca mX9_changed [gR 106, gI (c : Int)] SH M [gI (-2)] SH (M) := by
  refine Fn_of okX9_changed (Nat.le_of_ble_eq_true rfl) (Or.inr (Or.inl ⟨_, rfl, rfl⟩)) (Nat.le_refl _) (Nat.le_refl _) ?_
  refine Go_ls2 (ls' := [(0, gR 106), (1, gI _)]) rfl ?_
  have hv12 := hC.2.2.1
  have hn10 := hC.2.2.2.2
  have hpw := p10 hn10
  refine Go_aload_n 0 rfl rfl dX9_changed_0 ?_
  refine Go_iload_n 1 rfl rfl dX9_changed_1 ?_
  refine Go_callVI (q := vwCl[9]) (fX9_isChoice hC _) cwX9_136 imX9_isChoice rfl rfl ⟨Nat.le_of_ble_eq_true rfl, Nat.le_of_ble_eq_true rfl⟩ sh_106 rfl (Nat.le_of_ble_eq_true rfl) sh_rf dX9_changed_2 ?_
  refine Go_if_ne dX9_changed_5 rfl (fun h5 => ?_) (fun h5 => ?_)
  · skip
    replace h5 := bI_n.mp h5
    refine Go_aload_n 0 rfl rfl dX9_changed_10 ?_
    refine Go_iload_n 1 rfl rfl dX9_changed_11 ?_
    refine Go_callVI (q := vwCl[9]) (fX9_isAllowed hC c (by omega)) cwX9_139 imX9_isAllowed rfl rfl ⟨Nat.le_of_ble_eq_true rfl, Nat.le_of_ble_eq_true rfl⟩ sh_106 rfl (Nat.le_of_ble_eq_true rfl) sh_rf dX9_changed_12 ?_
    refine Go_if_ne dX9_changed_15 rfl (fun h15 => ?_) (fun h15 => ?_)
    · skip
      replace h15 := bI_n.mp h15
      exact absurd h15 h
    · skip
      replace h15 := bI_0.mp h15
      refine Go_bipush ⟨by decide, by unfold in32; omega⟩ dX9_changed_18 ?_
      exact Go_ret rfl dX9_changed_20
  · skip
    replace h5 := bI_0.mp h5
    exact absurd (show 0 ≤ (c : Int) ∧ (c : Int) ≤ ((2 ^ np : Nat) : Int) - 1 by omega) h5
set_option maxHeartbeats 4000000 in
set_option maxRecDepth 100000 in
theorem pX9_changed {D : va_G} {ca : Nat → ClassId} {M : gMem} {nv np : Nat} (hC : MS M nv np) (hH : ∀ p, p < np → ∃ z : Nat, z < 12 ∧ M 110 p = (z : Int)) (c : Nat) (hc : c < 2 ^ np) (h : alP (M 111) np (M 106 9) c = true) (K : Nat) (R : Nat × (T3 × Int × Int) × Int) (hR : adL (cgF (fyM M nv) nv np) K c (wgM (fyM M nv) nv np c, (wgM (fyM M nv) nv np c).1, (wgM (fyM M nv) nv np c).2.1) 0 = some R) : Fn D ca mX9_changed [gR 106, gI (c : Int)] SH M [gI (R.1 : Int)] SH (adM (fyM M nv) R.2.1 R.2.2) := by
  refine Fn_of okX9_changed (Nat.le_of_ble_eq_true rfl) (Or.inr (Or.inl ⟨_, rfl, rfl⟩)) (Nat.le_refl _) (Nat.le_refl _) ?_
  refine Go_ls2 (ls' := [(0, gR 106), (1, gI _)]) rfl ?_
  have hv12 := hC.2.2.1
  have hn10 := hC.2.2.2.2
  have hN := MS_fy hC
  have hpw := p10 hn10
  refine Go_aload_n 0 rfl rfl dX9_changed_0 ?_
  refine Go_iload_n 1 rfl rfl dX9_changed_1 ?_
  refine Go_callVI (q := vwCl[9]) (fX9_isChoice hC _) cwX9_136 imX9_isChoice rfl rfl ⟨Nat.le_of_ble_eq_true rfl, Nat.le_of_ble_eq_true rfl⟩ sh_106 rfl (Nat.le_of_ble_eq_true rfl) sh_rf dX9_changed_2 ?_
  refine Go_if_ne dX9_changed_5 rfl (fun h5 => ?_) (fun h5 => ?_)
  · skip
    replace h5 := bI_n.mp h5
    refine Go_aload_n 0 rfl rfl dX9_changed_10 ?_
    refine Go_iload_n 1 rfl rfl dX9_changed_11 ?_
    refine Go_callVI (q := vwCl[9]) (fX9_isAllowed hC c (by omega)) cwX9_139 imX9_isAllowed rfl rfl ⟨Nat.le_of_ble_eq_true rfl, Nat.le_of_ble_eq_true rfl⟩ sh_106 rfl (Nat.le_of_ble_eq_true rfl) sh_rf dX9_changed_12 ?_
    refine Go_if_ne dX9_changed_15 rfl (fun h15 => ?_) (fun h15 => ?_)
    · skip
      replace h15 := bI_n.mp h15
      refine Go_aload_n 0 rfl rfl dX9_changed_21 ?_
      refine Go_callV0 (q := vwCl[9]) (fX9_findWays hC) cwX9_112 imX9_findWays rfl rfl ⟨Nat.le_of_ble_eq_true rfl, Nat.le_of_ble_eq_true rfl⟩ sh_106 rfl (Nat.le_of_ble_eq_true rfl) sh_rf dX9_changed_22 ?_
      refine Go_M (M2 := fyM M nv) rfl ?_
      generalize hNe : fyM M nv = N at hN hR ⊢
      have hHN : ∀ p, p < np → ∃ z : Nat, z < 12 ∧ N 110 p = (z : Int) := fun p hp => by rw [← hNe]; exact hH p hp
      refine Go_o 106 ?_
      refine Go_aload_n 0 rfl rfl dX9_changed_25 ?_
      refine Go_iconst (by unfold in32; omega) dX9_changed_26 ?_
      refine Go_putIS fpX9_192 sh_106 dX9_changed_27 ?_
      refine Go_M (M2 := gSet N 106 (gUp (gUp (gUp (gUp (gUp (gUp ((N 106)) 22 (N 106 22)) 23 (N 106 23)) 24 (N 106 24)) 32 (0)) 33 (N 106 33)) 34 (N 106 34))) (congrArg (gSet N 106) (ch6_id _ _).symm) ?_
      refine Go_iload_n 1 rfl rfl dX9_changed_30 ?_
      refine Go_istore_n (ls' := [(2, gI _), (0, gR 106), (1, gI _)]) rfl dX9_changed_31 (by decide) rfl ?_
      refine Go_aload_n 1 rfl rfl dX9_changed_32 ?_
      refine Go_iload_n 0 rfl rfl dX9_changed_33 ?_
      refine Go_callV0 (q := vwCl[9]) (fX9_begins hN hHN (N 106) (agM_rf _) (N 106 22) (N 106 23) (N 106 24) 0 (N 106 33) (N 106 34) c (by omega)) cwX9_195 imX9_begins rfl rfl ⟨Nat.le_of_ble_eq_true rfl, Nat.le_of_ble_eq_true rfl⟩ sh_106 rfl (Nat.le_of_ble_eq_true rfl) sh_rf dX9_changed_34 ?_
      refine Go_iconst (by unfold in32; omega) dX9_changed_37 ?_
      refine Go_istore_n (ls' := [(3, gI _), (2, gI _), (0, gR 106), (1, gI _)]) rfl dX9_changed_38 (by decide) rfl ?_
      refine Go_pick [2, 1, 0] (ls' := [(0, gR 106), (2, gI _), (3, gI _)]) rfl ?_
      exact chgT hN hHN K c _ _ _ _ _ _ R (by omega) hR
    · skip
      replace h15 := bI_0.mp h15
      exact absurd h h15
  · skip
    replace h5 := bI_0.mp h5
    exact absurd (show 0 ≤ (c : Int) ∧ (c : Int) ≤ ((2 ^ np : Nat) : Int) - 1 by omega) h5
