/-- the oven of a choice that serves a village, and the way to it -/
def ofS (car : Nat → Int) (c v : Nat) : Nat → Int × Int
  | 0 => (-4, 1000000)
  | p + 1 => if c.testBit p = true ∧ car (p * 12 + v) < (ofS car c v p).2 then ((p : Int), car (p * 12 + v)) else ofS car c v p
theorem ofS_nat (car : Nat → Int) (c v : Nat) : ∀ n : Nat, (ofS car c v n).1 ≠ -4 → ∃ p : Nat, p < n ∧ (ofS car c v n).1 = (p : Int)
  | 0, h => absurd rfl h
  | n + 1, h => by
    simp only [ofS] at h ⊢
    split
    · exact ⟨n, by omega, rfl⟩
    · rename_i h1
      rw [if_neg (by exact h1)] at h
      obtain ⟨p, h2, h3⟩ := ofS_nat car c v n h
      exact ⟨p, by omega, h3⟩
def ocS (K U : Nat → Int) (c : Nat) : Nat → Int
  | 0 => 0
  | p + 1 => w64 (ocS K U c p + if c.testBit p = true then ocF K U p else 0)
def mvS (B car : Nat → Int) (np c : Nat) (x : Int) : Nat → Int
  | 0 => x
  | v + 1 => if 0 < B v then w64 (mvS B car np c x v + if (ofS car c v np).1 = -4 then 1099511627776 else w64 (B v * car ((ofS car c v np).1.toNat * 12 + v))) else mvS B car np c x v
def meS (B K U car : Nat → Int) (nv np c : Nat) : Int := mvS B car np c (ocS K U c np) nv
def shS (B car g : Nat → Int) (np c p : Nat) : Nat → Int
  | 0 => 0
  | v + 1 => w32 (shS B car g np c p v + if 0 < B v ∧ (ofS car c v np).1 = (p : Int) then g v else 0)
def faS (B car : Nat → Int) (np c p : Nat) : Nat → Int
  | 0 => 0
  | v + 1 => if 0 < B v ∧ (ofS car c v np).1 = (p : Int) then max (faS B car np c p v) (car (p * 12 + v)) else faS B car np c p v
def fwS (B car : Nat → Int) (np c : Nat) : Nat → Int
  | 0 => 0
  | v + 1 => if 0 < B v ∧ (ofS car c v np).1 ≠ -4 then max (fwS B car np c v) (car ((ofS car c v np).1.toNat * 12 + v)) else fwS B car np c v
set_option maxHeartbeats 4000000 in
set_option maxRecDepth 100000 in
theorem fX3_ovenFor {D : va_G} {ca : Nat → ClassId} {M : gMem} {nv np : Nat} (hC : CS M nv np) (c v : Nat) (hc : c < 1024) (hv : v < 12) : Fn D ca mX3_ovenFor [gR 90, gI (c : Int), gI (v : Int)] SH M [gI (ofS (M 91) c v np).1] SH (M) := by
  refine Fn_of okX3_ovenFor (Nat.le_of_ble_eq_true rfl) (Or.inr (Or.inl ⟨_, rfl, rfl⟩)) (Nat.le_refl _) (Nat.le_refl _) ?_
  refine Go_ls2 (ls' := [(0, gR 90), (1, gI _), (2, gI _)]) rfl ?_
  have hv12 := hC.2.2.1
  have hn10 := hC.2.2.2.2
  have loop_10 : ∀ (k : Nat) (p : Nat) (x y : Int), p + k = np → ofS (M 91) c v p = (x, y) → Go D ca none (gRm mX3_ovenFor (SH.length - SH.length) (gSz SH - gSz SH)) mX3_ovenFor 10 [(0, gR 90), (1, gI (c : Int)), (2, gI (v : Int)), (3, gI x), (4, gI y), (5, gI (p : Int))] [] SH M [gI (ofS (M 91) c v np).1] SH (M) := by
    intro k
    induction k with
    | zero =>
      intro p x y he hx
      obtain rfl : np = p := by omega
      refine Go_iload 5 rfl dX3_ovenFor_10 ?_
      refine Go_aload_n 0 rfl rfl dX3_ovenFor_12 ?_
      refine Go_getR (c' := 1) faX3_22 sh_90 (pt_90_0 (M := M) hC.1) dX3_ovenFor_13 ?_
      refine Go_getIv (v := (np : Int)) hC.2.2.2.1 faX3_32 sh_1 dX3_ovenFor_16 ?_
      refine Go_icmp_ge dX3_ovenFor_19 rfl (fun h19 => ?_) (fun h19 => ?_)
      · skip
        refine Go_iload_n 3 rfl rfl dX3_ovenFor_61 ?_
        exact Go_ret (by rw [hx]) dX3_ovenFor_62
      · skip
        exact absurd h19 (by omega)
    | succ k ih_10 =>
      intro p x y he hx
      refine Go_iload 5 rfl dX3_ovenFor_10 ?_
      refine Go_aload_n 0 rfl rfl dX3_ovenFor_12 ?_
      refine Go_getR (c' := 1) faX3_22 sh_90 (pt_90_0 (M := M) hC.1) dX3_ovenFor_13 ?_
      refine Go_getIv (v := (np : Int)) hC.2.2.2.1 faX3_32 sh_1 dX3_ovenFor_16 ?_
      refine Go_icmp_ge dX3_ovenFor_19 rfl (fun h19 => ?_) (fun h19 => ?_)
      · skip
        exact absurd h19 (by omega)
      · skip
        refine Go_iload_n 1 rfl rfl dX3_ovenFor_22 ?_
        refine Go_iload 5 rfl dX3_ovenFor_23 ?_
        refine Go_callSNI (fX8_isIn c p (by omega) (by omega)) cnX3_65 smX8_isIn ⟨Nat.le_of_ble_eq_true rfl, Nat.le_of_ble_eq_true rfl⟩ rfl (Nat.le_of_ble_eq_true rfl) sh_rf dX3_ovenFor_25 ?_
        refine Go_if_eq dX3_ovenFor_28 rfl (fun h28 => ?_) (fun h28 => ?_)
        · skip
          replace h28 := bI_0.mp h28
          refine Go_iincn p 1 rfl rfl (by omega) 5 (ls' := [(5, gI _), (0, gR 90), (1, gI _), (2, gI _), (3, gI _), (4, gI _)]) rfl dX3_ovenFor_55 (by decide) rfl ?_
          refine Go_goto dX3_ovenFor_58 rfl ?_
          refine Go_pick [1, 2, 3, 4, 5, 0] (ls' := [(0, gR 90), (1, gI _), (2, gI _), (3, gI _), (4, gI _), (5, gI _)]) rfl ?_
          exact ih_10 (p + 1) _ _ (by omega) (by simp only [ofS, hx]; first | rw [if_pos (by exact ⟨h28, h40⟩)] | rw [if_neg (by exact fun q => h28 q.1)] | rw [if_neg (by exact fun q => absurd q.2 (by omega))])
        · skip
          replace h28 := bI_n.mp h28
          refine Go_aload_n 0 rfl rfl dX3_ovenFor_31 ?_
          refine Go_iload 5 rfl dX3_ovenFor_32 ?_
          refine Go_iload_n 2 rfl rfl dX3_ovenFor_34 ?_
          refine Go_callVI (q := vwCl[3]) (fX3_carriedTo hC.1 p v (by omega) (by omega) (v := M 91 (p * 12 + v)) rfl) cwX3_69 imX3_carriedTo rfl rfl ⟨Nat.le_of_ble_eq_true rfl, Nat.le_of_ble_eq_true rfl⟩ sh_90 rfl (Nat.le_of_ble_eq_true rfl) sh_rf dX3_ovenFor_35 ?_
          refine Go_iload 4 rfl dX3_ovenFor_38 ?_
          refine Go_icmp_ge dX3_ovenFor_40 rfl (fun h40 => ?_) (fun h40 => ?_)
          · skip
            refine Go_iincn p 1 rfl rfl (by omega) 5 (ls' := [(5, gI _), (0, gR 90), (1, gI _), (2, gI _), (3, gI _), (4, gI _)]) rfl dX3_ovenFor_55 (by decide) rfl ?_
            refine Go_goto dX3_ovenFor_58 rfl ?_
            refine Go_pick [1, 2, 3, 4, 5, 0] (ls' := [(0, gR 90), (1, gI _), (2, gI _), (3, gI _), (4, gI _), (5, gI _)]) rfl ?_
            exact ih_10 (p + 1) _ _ (by omega) (by simp only [ofS, hx]; first | rw [if_pos (by exact ⟨h28, h40⟩)] | rw [if_neg (by exact fun q => h28 q.1)] | rw [if_neg (by exact fun q => absurd q.2 (by omega))])
          · skip
            refine Go_iload 5 rfl dX3_ovenFor_43 ?_
            refine Go_istore_n (ls' := [(3, gI _), (0, gR 90), (1, gI _), (2, gI _), (4, gI _), (5, gI _)]) rfl dX3_ovenFor_45 (by decide) rfl ?_
            refine Go_aload_n 1 rfl rfl dX3_ovenFor_46 ?_
            refine Go_iload 5 rfl dX3_ovenFor_47 ?_
            refine Go_iload_n 3 rfl rfl dX3_ovenFor_49 ?_
            refine Go_callVI (q := vwCl[3]) (fX3_carriedTo hC.1 p v (by omega) (by omega) (v := M 91 (p * 12 + v)) rfl) cwX3_69 imX3_carriedTo rfl rfl ⟨Nat.le_of_ble_eq_true rfl, Nat.le_of_ble_eq_true rfl⟩ sh_90 rfl (Nat.le_of_ble_eq_true rfl) sh_rf dX3_ovenFor_50 ?_
            refine Go_istore (ls' := [(4, gI _), (3, gI _), (0, gR 90), (1, gI _), (2, gI _), (5, gI _)]) dX3_ovenFor_53 (by decide) rfl ?_
            refine Go_iincn p 1 rfl rfl (by omega) 5 (ls' := [(5, gI _), (4, gI _), (3, gI _), (0, gR 90), (1, gI _), (2, gI _)]) rfl dX3_ovenFor_55 (by decide) rfl ?_
            refine Go_goto dX3_ovenFor_58 rfl ?_
            refine Go_pick [3, 4, 5, 2, 1, 0] (ls' := [(0, gR 90), (1, gI _), (2, gI _), (3, gI _), (4, gI _), (5, gI _)]) rfl ?_
            exact ih_10 (p + 1) _ _ (by omega) (by simp only [ofS, hx]; first | rw [if_pos (by exact ⟨h28, h40⟩)] | rw [if_neg (by exact fun q => h28 q.1)] | rw [if_neg (by exact fun q => absurd q.2 (by omega))])
  refine Go_bipush ⟨by decide, by unfold in32; omega⟩ dX3_ovenFor_0 ?_
  refine Go_istore_n (ls' := [(3, gI _), (0, gR 90), (1, gI _), (2, gI _)]) rfl dX3_ovenFor_2 (by decide) rfl ?_
  refine Go_ldc kcX3_50 (by unfold in32; omega) dX3_ovenFor_3 ?_
  refine Go_istore (ls' := [(4, gI _), (3, gI _), (0, gR 90), (1, gI _), (2, gI _)]) dX3_ovenFor_5 (by decide) rfl ?_
  refine Go_iconst (by unfold in32; omega) dX3_ovenFor_7 ?_
  refine Go_istore (ls' := [(5, gI _), (4, gI _), (3, gI _), (0, gR 90), (1, gI _), (2, gI _)]) dX3_ovenFor_8 (by decide) rfl ?_
  refine Go_pick [3, 4, 5, 2, 1, 0] (ls' := [(0, gR 90), (1, gI _), (2, gI _), (3, gI _), (4, gI _), (5, gI _)]) rfl ?_
  exact loop_10 np 0 _ _ (by omega) rfl
set_option maxHeartbeats 4000000 in
set_option maxRecDepth 100000 in
theorem fX3_measureOf {D : va_G} {ca : Nat → ClassId} {M : gMem} {nv np : Nat} (hC : CS M nv np) (c : Nat) (hc : c < 1024) : Fn D ca mX3_measureOf [gR 90, gI (c : Int)] SH M [gJ (meS (M 2) (M 5) (M 6) (M 91) nv np c)] SH (M) := by
  refine Fn_of okX3_measureOf (Nat.le_of_ble_eq_true rfl) (Or.inr (Or.inr (Or.inr ⟨_, rfl, rfl⟩))) (Nat.le_refl _) (Nat.le_refl _) ?_
  refine Go_ls2 (ls' := [(0, gR 90), (1, gI _)]) rfl ?_
  have hv12 := hC.2.2.1
  have hn10 := hC.2.2.2.2
  have loop_52 : ∀ (k : Nat) (v : Nat) (x : Int), v + k = nv → mvS (M 2) (M 91) np c (ocS (M 5) (M 6) c np) v = x → Go D ca none (gRm mX3_measureOf (SH.length - SH.length) (gSz SH - gSz SH)) mX3_measureOf 52 [(0, gR 90), (1, gI (c : Int)), (2, gJ x), (4, gI (v : Int))] [] SH M [gJ (meS (M 2) (M 5) (M 6) (M 91) nv np c)] SH (M) := by
    intro k
    induction k with
    | zero =>
      intro v x he hx
      obtain rfl : nv = v := by omega
      refine Go_iload 3 rfl dX3_measureOf_52 ?_
      refine Go_aload_n 0 rfl rfl dX3_measureOf_54 ?_
      refine Go_getR (c' := 1) faX3_22 sh_90 (pt_90_0 (M := M) hC.1) dX3_measureOf_55 ?_
      refine Go_getIv (v := (nv : Int)) hC.2.1 faX3_35 sh_1 dX3_measureOf_58 ?_
      refine Go_icmp_ge dX3_measureOf_61 rfl (fun h61 => ?_) (fun h61 => ?_)
      · skip
        refine Go_lload_n 2 rfl rfl dX3_measureOf_129 ?_
        exact Go_ret (by rw [← hx]; rfl) dX3_measureOf_130
      · skip
        exact absurd h61 (by omega)
    | succ k ih_52 =>
      intro v x he hx
      refine Go_iload 3 rfl dX3_measureOf_52 ?_
      refine Go_aload_n 0 rfl rfl dX3_measureOf_54 ?_
      refine Go_getR (c' := 1) faX3_22 sh_90 (pt_90_0 (M := M) hC.1) dX3_measureOf_55 ?_
      refine Go_getIv (v := (nv : Int)) hC.2.1 faX3_35 sh_1 dX3_measureOf_58 ?_
      refine Go_icmp_ge dX3_measureOf_61 rfl (fun h61 => ?_) (fun h61 => ?_)
      · skip
        exact absurd h61 (by omega)
      · skip
        refine Go_aload_n 0 rfl rfl dX3_measureOf_64 ?_
        refine Go_getR (c' := 1) faX3_22 sh_90 (pt_90_0 (M := M) hC.1) dX3_measureOf_65 ?_
        refine Go_getR (c' := 2) faX3_75 sh_1 (pt_1_3 (M := M) hC.1) dX3_measureOf_68 ?_
        refine Go_iload 3 rfl dX3_measureOf_71 ?_
        refine Go_ialoadv v (v := M 2 (v)) rfl sh_2 rfl (by omega) dX3_measureOf_73 ?_
        refine Go_if_le dX3_measureOf_74 rfl (fun h74 => ?_) (fun h74 => ?_)
        · skip
          refine Go_iincn v 1 rfl rfl (by omega) 3 (ls' := [(4, gI _), (0, gR 90), (1, gI _), (2, gJ _)]) rfl dX3_measureOf_123 (by decide) rfl ?_
          refine Go_goto dX3_measureOf_126 rfl ?_
          refine Go_pick [1, 2, 3, 0] (ls' := [(0, gR 90), (1, gI _), (2, gJ _), (4, gI _)]) rfl ?_
          exact ih_52 (v + 1) _ (by omega) (by simp only [mvS, hx]; first | rw [if_neg (show ¬ (0 < M 2 v) by omega)] | rw [if_pos (show 0 < M 2 v by omega), if_pos (by exact h91)] | rw [if_pos (show 0 < M 2 v by omega), epo, if_neg (show ¬ ((po : Int) = -4) by omega), Int.toNat_natCast])
        · skip
          refine Go_aload_n 0 rfl rfl dX3_measureOf_77 ?_
          refine Go_iload_n 1 rfl rfl dX3_measureOf_78 ?_
          refine Go_iload 3 rfl dX3_measureOf_79 ?_
          refine Go_callVI (q := vwCl[3]) (fX3_ovenFor hC c v (by omega) (by omega)) cwX3_78 imX3_ovenFor rfl rfl ⟨Nat.le_of_ble_eq_true rfl, Nat.le_of_ble_eq_true rfl⟩ sh_90 rfl (Nat.le_of_ble_eq_true rfl) sh_rf dX3_measureOf_81 ?_
          refine Go_istore (ls' := [(5, gI _), (0, gR 90), (1, gI _), (2, gJ _), (4, gI _)]) dX3_measureOf_84 (by decide) rfl ?_
          refine Go_lload_n 3 rfl rfl dX3_measureOf_86 ?_
          refine Go_iload 0 rfl dX3_measureOf_87 ?_
          refine Go_bipush ⟨by decide, by unfold in32; omega⟩ dX3_measureOf_89 ?_
          refine Go_icmp_ne dX3_measureOf_91 rfl (fun h91 => ?_) (fun h91 => ?_)
          · skip
            obtain ⟨po, hpo, epo⟩ := ofS_nat (M 91) c v np h91
            rw [epo]
            refine Go_aload_n 1 rfl rfl dX3_measureOf_100 ?_
            refine Go_getR (c' := 1) faX3_22 sh_90 (pt_90_0 (M := M) hC.1) dX3_measureOf_101 ?_
            refine Go_getR (c' := 2) faX3_75 sh_1 (pt_1_3 (M := M) hC.1) dX3_measureOf_104 ?_
            refine Go_iload 4 rfl dX3_measureOf_107 ?_
            refine Go_ialoadv v (v := M 2 (v)) rfl sh_2 rfl (by omega) dX3_measureOf_109 ?_
            refine Go_i2l dX3_measureOf_110 ?_
            refine Go_aload_n 1 rfl rfl dX3_measureOf_111 ?_
            refine Go_iload 0 rfl dX3_measureOf_112 ?_
            refine Go_iload 4 rfl dX3_measureOf_114 ?_
            refine Go_callVI (q := vwCl[3]) (fX3_carriedTo hC.1 po v (by omega) (by omega) (v := M 91 (po * 12 + v)) rfl) cwX3_69 imX3_carriedTo rfl rfl ⟨Nat.le_of_ble_eq_true rfl, Nat.le_of_ble_eq_true rfl⟩ sh_90 rfl (Nat.le_of_ble_eq_true rfl) sh_rf dX3_measureOf_116 ?_
            refine Go_i2l dX3_measureOf_119 ?_
            refine Go_lmul dX3_measureOf_120 ?_
            refine Go_ladd dX3_measureOf_121 ?_
            refine Go_lstore_n (ls' := [(2, gJ _), (5, gI _), (0, gR 90), (1, gI _), (4, gI _)]) rfl dX3_measureOf_122 (by decide) rfl ?_
            refine Go_iincn v 1 rfl rfl (by omega) 4 (ls' := [(4, gI _), (2, gJ _), (5, gI _), (0, gR 90), (1, gI _)]) rfl dX3_measureOf_123 (by decide) rfl ?_
            refine Go_goto dX3_measureOf_126 rfl ?_
            refine Go_pick [3, 4, 1, 0] (ls' := [(0, gR 90), (1, gI _), (2, gJ _), (4, gI _)]) rfl ?_
            exact ih_52 (v + 1) _ (by omega) (by simp only [mvS, hx]; first | rw [if_neg (show ¬ (0 < M 2 v) by omega)] | rw [if_pos (show 0 < M 2 v by omega), if_pos (by exact h91)] | rw [if_pos (show 0 < M 2 v by omega), epo, if_neg (show ¬ ((po : Int) = -4) by omega), Int.toNat_natCast])
          · skip
            refine Go_ldc2 klX3_81 (by unfold in64; omega) dX3_measureOf_94 ?_
            refine Go_goto dX3_measureOf_97 rfl ?_
            refine Go_ladd dX3_measureOf_121 ?_
            refine Go_lstore_n (ls' := [(2, gJ _), (5, gI _), (0, gR 90), (1, gI _), (4, gI _)]) rfl dX3_measureOf_122 (by decide) rfl ?_
            refine Go_iincn v 1 rfl rfl (by omega) 4 (ls' := [(4, gI _), (2, gJ _), (5, gI _), (0, gR 90), (1, gI _)]) rfl dX3_measureOf_123 (by decide) rfl ?_
            refine Go_goto dX3_measureOf_126 rfl ?_
            refine Go_pick [3, 4, 1, 0] (ls' := [(0, gR 90), (1, gI _), (2, gJ _), (4, gI _)]) rfl ?_
            exact ih_52 (v + 1) _ (by omega) (by simp only [mvS, hx]; first | rw [if_neg (show ¬ (0 < M 2 v) by omega)] | rw [if_pos (show 0 < M 2 v by omega), if_pos (by exact h91)] | rw [if_pos (show 0 < M 2 v by omega), epo, if_neg (show ¬ ((po : Int) = -4) by omega), Int.toNat_natCast])
  have loop_5 : ∀ (k : Nat) (p : Nat) (x : Int), p + k = np → ocS (M 5) (M 6) c p = x → Go D ca none (gRm mX3_measureOf (SH.length - SH.length) (gSz SH - gSz SH)) mX3_measureOf 5 [(0, gR 90), (1, gI (c : Int)), (2, gJ x), (4, gI (p : Int))] [] SH M [gJ (meS (M 2) (M 5) (M 6) (M 91) nv np c)] SH (M) := by
    intro k
    induction k with
    | zero =>
      intro p x he hx
      obtain rfl : np = p := by omega
      refine Go_iload 3 rfl dX3_measureOf_5 ?_
      refine Go_aload_n 0 rfl rfl dX3_measureOf_7 ?_
      refine Go_getR (c' := 1) faX3_22 sh_90 (pt_90_0 (M := M) hC.1) dX3_measureOf_8 ?_
      refine Go_getIv (v := (np : Int)) hC.2.2.2.1 faX3_32 sh_1 dX3_measureOf_11 ?_
      refine Go_icmp_ge dX3_measureOf_14 rfl (fun h14 => ?_) (fun h14 => ?_)
      · skip
        refine Go_iconst (by unfold in32; omega) dX3_measureOf_49 ?_
        refine Go_istore (ls' := [(4, gI _), (0, gR 90), (1, gI _), (2, gJ _)]) dX3_measureOf_50 (by decide) rfl ?_
        refine Go_pick [1, 2, 3, 0] (ls' := [(0, gR 90), (1, gI _), (2, gJ _), (4, gI _)]) rfl ?_
        exact loop_52 nv 0 _ (by omega) (by rw [← hx]; rfl)
      · skip
        exact absurd h14 (by omega)
    | succ k ih_5 =>
      intro p x he hx
      refine Go_iload 3 rfl dX3_measureOf_5 ?_
      refine Go_aload_n 0 rfl rfl dX3_measureOf_7 ?_
      refine Go_getR (c' := 1) faX3_22 sh_90 (pt_90_0 (M := M) hC.1) dX3_measureOf_8 ?_
      refine Go_getIv (v := (np : Int)) hC.2.2.2.1 faX3_32 sh_1 dX3_measureOf_11 ?_
      refine Go_icmp_ge dX3_measureOf_14 rfl (fun h14 => ?_) (fun h14 => ?_)
      · skip
        exact absurd h14 (by omega)
      · skip
        refine Go_lload_n 2 rfl rfl dX3_measureOf_17 ?_
        refine Go_iload_n 1 rfl rfl dX3_measureOf_18 ?_
        refine Go_iload 3 rfl dX3_measureOf_19 ?_
        refine Go_callSNI (fX8_isIn c p (by omega) (by omega)) cnX3_65 smX8_isIn ⟨Nat.le_of_ble_eq_true rfl, Nat.le_of_ble_eq_true rfl⟩ rfl (Nat.le_of_ble_eq_true rfl) sh_rf dX3_measureOf_21 ?_
        refine Go_if_eq dX3_measureOf_24 rfl (fun h24 => ?_) (fun h24 => ?_)
        · skip
          replace h24 := bI_0.mp h24
          refine Go_lconst (v := 0) ⟨rfl, by unfold in64; omega⟩ dX3_measureOf_40 ?_
          refine Go_ladd dX3_measureOf_41 ?_
          refine Go_lstore_n (ls' := [(2, gJ _), (0, gR 90), (1, gI _), (4, gI _)]) rfl dX3_measureOf_42 (by decide) rfl ?_
          refine Go_iincn p 1 rfl rfl (by omega) 3 (ls' := [(4, gI _), (2, gJ _), (0, gR 90), (1, gI _)]) rfl dX3_measureOf_43 (by decide) rfl ?_
          refine Go_goto dX3_measureOf_46 rfl ?_
          refine Go_pick [2, 3, 1, 0] (ls' := [(0, gR 90), (1, gI _), (2, gJ _), (4, gI _)]) rfl ?_
          exact ih_5 (p + 1) _ (by omega) (by simp only [ocS, hx]; first | rw [if_pos (by exact h24)] | rw [if_neg (by exact h24)])
        · skip
          replace h24 := bI_n.mp h24
          refine Go_aload_n 0 rfl rfl dX3_measureOf_27 ?_
          refine Go_getR (c' := 1) faX3_22 sh_90 (pt_90_0 (M := M) hC.1) dX3_measureOf_28 ?_
          refine Go_iload 3 rfl dX3_measureOf_31 ?_
          refine Go_callVI (q := vwCl[6]) (fX6_ovenCost hC.1 p (by omega)) cwX3_72 imX6_ovenCost rfl rfl ⟨Nat.le_of_ble_eq_true rfl, Nat.le_of_ble_eq_true rfl⟩ sh_1 rfl (Nat.le_of_ble_eq_true rfl) sh_rf dX3_measureOf_33 ?_
          refine Go_i2l dX3_measureOf_36 ?_
          refine Go_goto dX3_measureOf_37 rfl ?_
          refine Go_ladd dX3_measureOf_41 ?_
          refine Go_lstore_n (ls' := [(2, gJ _), (0, gR 90), (1, gI _), (4, gI _)]) rfl dX3_measureOf_42 (by decide) rfl ?_
          refine Go_iincn p 1 rfl rfl (by omega) 3 (ls' := [(4, gI _), (2, gJ _), (0, gR 90), (1, gI _)]) rfl dX3_measureOf_43 (by decide) rfl ?_
          refine Go_goto dX3_measureOf_46 rfl ?_
          refine Go_pick [2, 3, 1, 0] (ls' := [(0, gR 90), (1, gI _), (2, gJ _), (4, gI _)]) rfl ?_
          exact ih_5 (p + 1) _ (by omega) (by simp only [ocS, hx]; first | rw [if_pos (by exact h24)] | rw [if_neg (by exact h24)])
  refine Go_lconst (v := 0) ⟨rfl, by unfold in64; omega⟩ dX3_measureOf_0 ?_
  refine Go_lstore_n (ls' := [(2, gJ _), (0, gR 90), (1, gI _)]) rfl dX3_measureOf_1 (by decide) rfl ?_
  refine Go_iconst (by unfold in32; omega) dX3_measureOf_2 ?_
  refine Go_istore (ls' := [(4, gI _), (2, gJ _), (0, gR 90), (1, gI _)]) dX3_measureOf_3 (by decide) rfl ?_
  refine Go_pick [2, 3, 1, 0] (ls' := [(0, gR 90), (1, gI _), (2, gJ _), (4, gI _)]) rfl ?_
  exact loop_5 np 0 _ (by omega) rfl
set_option maxHeartbeats 4000000 in
set_option maxRecDepth 100000 in
theorem fX3_feeds {D : va_G} {ca : Nat → ClassId} {M : gMem} {nv np : Nat} (hC : CS M nv np) (c p v : Nat) (hc : c < 1024) (hv : v < 12) : Fn D ca mX3_feeds [gR 90, gI (c : Int), gI (p : Int), gI (v : Int)] SH M [gI (bI (0 < M 2 v ∧ (ofS (M 91) c v np).1 = (p : Int)))] SH (M) := by
  refine Fn_of okX3_feeds (Nat.le_of_ble_eq_true rfl) (Or.inr (Or.inr (Or.inl ⟨_, rfl, rfl, bI_01 _⟩))) (Nat.le_refl _) (Nat.le_refl _) ?_
  refine Go_ls2 (ls' := [(0, gR 90), (1, gI _), (2, gI _), (3, gI _)]) rfl ?_
  have hv12 := hC.2.2.1
  have hn10 := hC.2.2.2.2
  refine Go_aload_n 0 rfl rfl dX3_feeds_0 ?_
  refine Go_getR (c' := 1) faX3_22 sh_90 (pt_90_0 (M := M) hC.1) dX3_feeds_1 ?_
  refine Go_getR (c' := 2) faX3_75 sh_1 (pt_1_3 (M := M) hC.1) dX3_feeds_4 ?_
  refine Go_iload_n 3 rfl rfl dX3_feeds_7 ?_
  refine Go_ialoadv v (v := M 2 (v)) rfl sh_2 rfl (by omega) dX3_feeds_8 ?_
  refine Go_if_le dX3_feeds_9 rfl (fun h9 => ?_) (fun h9 => ?_)
  · skip
    refine Go_iconst (by unfold in32; omega) dX3_feeds_26 ?_
    exact Go_ret (by rw [bI_f (fun q => by first | exact absurd q.1 (by omega) | exact h19 q.2)]) dX3_feeds_27
  · skip
    refine Go_aload_n 0 rfl rfl dX3_feeds_12 ?_
    refine Go_iload_n 1 rfl rfl dX3_feeds_13 ?_
    refine Go_iload_n 3 rfl rfl dX3_feeds_14 ?_
    refine Go_callVI (q := vwCl[3]) (fX3_ovenFor hC c v (by omega) (by omega)) cwX3_78 imX3_ovenFor rfl rfl ⟨Nat.le_of_ble_eq_true rfl, Nat.le_of_ble_eq_true rfl⟩ sh_90 rfl (Nat.le_of_ble_eq_true rfl) sh_rf dX3_feeds_15 ?_
    refine Go_iload_n 2 rfl rfl dX3_feeds_18 ?_
    refine Go_icmp_ne dX3_feeds_19 rfl (fun h19 => ?_) (fun h19 => ?_)
    · skip
      refine Go_iconst (by unfold in32; omega) dX3_feeds_26 ?_
      exact Go_ret (by rw [bI_f (fun q => by first | exact absurd q.1 (by omega) | exact h19 q.2)]) dX3_feeds_27
    · skip
      refine Go_iconst (by unfold in32; omega) dX3_feeds_22 ?_
      refine Go_goto dX3_feeds_23 rfl ?_
      exact Go_ret (by rw [bI_t ⟨by omega, h19⟩]) dX3_feeds_27
set_option maxHeartbeats 4000000 in
set_option maxRecDepth 100000 in
theorem fX3_villagesOf {D : va_G} {ca : Nat → ClassId} {M : gMem} {nv np : Nat} (hC : CS M nv np) (c p : Nat) (hc : c < 1024) : Fn D ca mX3_villagesOf [gR 90, gI (c : Int), gI (p : Int)] SH M [gI (shS (M 2) (M 91) (fun _ => 1) np c p nv)] SH (M) := by
  refine Fn_of okX3_villagesOf (Nat.le_of_ble_eq_true rfl) (Or.inr (Or.inl ⟨_, rfl, rfl⟩)) (Nat.le_refl _) (Nat.le_refl _) ?_
  refine Go_ls2 (ls' := [(0, gR 90), (1, gI _), (2, gI _)]) rfl ?_
  have hv12 := hC.2.2.1
  have hn10 := hC.2.2.2.2
  have loop_5 : ∀ (k : Nat) (v : Nat) (x : Int), v + k = nv → shS (M 2) (M 91) (fun _ => 1) np c p v = x → Go D ca none (gRm mX3_villagesOf (SH.length - SH.length) (gSz SH - gSz SH)) mX3_villagesOf 5 [(0, gR 90), (1, gI (c : Int)), (2, gI (p : Int)), (3, gI x), (4, gI (v : Int))] [] SH M [gI (shS (M 2) (M 91) (fun _ => 1) np c p nv)] SH (M) := by
    intro k
    induction k with
    | zero =>
      intro v x he hx
      obtain rfl : nv = v := by omega
      refine Go_iload 4 rfl dX3_villagesOf_5 ?_
      refine Go_aload_n 0 rfl rfl dX3_villagesOf_7 ?_
      refine Go_getR (c' := 1) faX3_22 sh_90 (pt_90_0 (M := M) hC.1) dX3_villagesOf_8 ?_
      refine Go_getIv (v := (nv : Int)) hC.2.1 faX3_35 sh_1 dX3_villagesOf_11 ?_
      refine Go_icmp_ge dX3_villagesOf_14 rfl (fun h14 => ?_) (fun h14 => ?_)
      · skip
        refine Go_iload_n 3 rfl rfl dX3_villagesOf_42 ?_
        exact Go_ret (by rw [← hx]) dX3_villagesOf_43
      · skip
        exact absurd h14 (by omega)
    | succ k ih_5 =>
      intro v x he hx
      refine Go_iload 4 rfl dX3_villagesOf_5 ?_
      refine Go_aload_n 0 rfl rfl dX3_villagesOf_7 ?_
      refine Go_getR (c' := 1) faX3_22 sh_90 (pt_90_0 (M := M) hC.1) dX3_villagesOf_8 ?_
      refine Go_getIv (v := (nv : Int)) hC.2.1 faX3_35 sh_1 dX3_villagesOf_11 ?_
      refine Go_icmp_ge dX3_villagesOf_14 rfl (fun h14 => ?_) (fun h14 => ?_)
      · skip
        exact absurd h14 (by omega)
      · skip
        refine Go_iload_n 3 rfl rfl dX3_villagesOf_17 ?_
        refine Go_aload_n 0 rfl rfl dX3_villagesOf_18 ?_
        refine Go_iload_n 1 rfl rfl dX3_villagesOf_19 ?_
        refine Go_iload_n 2 rfl rfl dX3_villagesOf_20 ?_
        refine Go_iload 4 rfl dX3_villagesOf_21 ?_
        refine Go_callVI (q := vwCl[3]) (fX3_feeds hC c p v (by omega) (by omega)) cwX3_83 imX3_feeds rfl rfl ⟨Nat.le_of_ble_eq_true rfl, Nat.le_of_ble_eq_true rfl⟩ sh_90 rfl (Nat.le_of_ble_eq_true rfl) sh_rf dX3_villagesOf_23 ?_
        refine Go_if_eq dX3_villagesOf_26 rfl (fun h26 => ?_) (fun h26 => ?_)
        · skip
          replace h26 := bI_0.mp h26
          refine Go_iconst (by unfold in32; omega) dX3_villagesOf_33 ?_
          refine Go_iadd dX3_villagesOf_34 ?_
          refine Go_istore_n (ls' := [(3, gI _), (0, gR 90), (1, gI _), (2, gI _), (4, gI _)]) rfl dX3_villagesOf_35 (by decide) rfl ?_
          refine Go_iincn v 1 rfl rfl (by omega) 4 (ls' := [(4, gI _), (3, gI _), (0, gR 90), (1, gI _), (2, gI _)]) rfl dX3_villagesOf_36 (by decide) rfl ?_
          refine Go_goto dX3_villagesOf_39 rfl ?_
          refine Go_pick [2, 3, 4, 1, 0] (ls' := [(0, gR 90), (1, gI _), (2, gI _), (3, gI _), (4, gI _)]) rfl ?_
          exact ih_5 (v + 1) _ (by omega) (by simp only [shS, hx]; first | rw [if_pos (by exact h26)] | rw [if_neg (by exact h26)])
        · skip
          replace h26 := bI_n.mp h26
          refine Go_iconst (by unfold in32; omega) dX3_villagesOf_29 ?_
          refine Go_goto dX3_villagesOf_30 rfl ?_
          refine Go_iadd dX3_villagesOf_34 ?_
          refine Go_istore_n (ls' := [(3, gI _), (0, gR 90), (1, gI _), (2, gI _), (4, gI _)]) rfl dX3_villagesOf_35 (by decide) rfl ?_
          refine Go_iincn v 1 rfl rfl (by omega) 4 (ls' := [(4, gI _), (3, gI _), (0, gR 90), (1, gI _), (2, gI _)]) rfl dX3_villagesOf_36 (by decide) rfl ?_
          refine Go_goto dX3_villagesOf_39 rfl ?_
          refine Go_pick [2, 3, 4, 1, 0] (ls' := [(0, gR 90), (1, gI _), (2, gI _), (3, gI _), (4, gI _)]) rfl ?_
          exact ih_5 (v + 1) _ (by omega) (by simp only [shS, hx]; first | rw [if_pos (by exact h26)] | rw [if_neg (by exact h26)])
  refine Go_iconst (by unfold in32; omega) dX3_villagesOf_0 ?_
  refine Go_istore_n (ls' := [(3, gI _), (0, gR 90), (1, gI _), (2, gI _)]) rfl dX3_villagesOf_1 (by decide) rfl ?_
  refine Go_iconst (by unfold in32; omega) dX3_villagesOf_2 ?_
  refine Go_istore (ls' := [(4, gI _), (3, gI _), (0, gR 90), (1, gI _), (2, gI _)]) dX3_villagesOf_3 (by decide) rfl ?_
  refine Go_pick [2, 3, 4, 1, 0] (ls' := [(0, gR 90), (1, gI _), (2, gI _), (3, gI _), (4, gI _)]) rfl ?_
  exact loop_5 nv 0 _ (by omega) rfl
set_option maxHeartbeats 4000000 in
set_option maxRecDepth 100000 in
theorem fX3_loavesOf {D : va_G} {ca : Nat → ClassId} {M : gMem} {nv np : Nat} (hC : CS M nv np) (c p : Nat) (hc : c < 1024) : Fn D ca mX3_loavesOf [gR 90, gI (c : Int), gI (p : Int)] SH M [gI (shS (M 2) (M 91) (M 2) np c p nv)] SH (M) := by
  refine Fn_of okX3_loavesOf (Nat.le_of_ble_eq_true rfl) (Or.inr (Or.inl ⟨_, rfl, rfl⟩)) (Nat.le_refl _) (Nat.le_refl _) ?_
  refine Go_ls2 (ls' := [(0, gR 90), (1, gI _), (2, gI _)]) rfl ?_
  have hv12 := hC.2.2.1
  have hn10 := hC.2.2.2.2
  have loop_5 : ∀ (k : Nat) (v : Nat) (x : Int), v + k = nv → shS (M 2) (M 91) (M 2) np c p v = x → Go D ca none (gRm mX3_loavesOf (SH.length - SH.length) (gSz SH - gSz SH)) mX3_loavesOf 5 [(0, gR 90), (1, gI (c : Int)), (2, gI (p : Int)), (3, gI x), (4, gI (v : Int))] [] SH M [gI (shS (M 2) (M 91) (M 2) np c p nv)] SH (M) := by
    intro k
    induction k with
    | zero =>
      intro v x he hx
      obtain rfl : nv = v := by omega
      refine Go_iload 4 rfl dX3_loavesOf_5 ?_
      refine Go_aload_n 0 rfl rfl dX3_loavesOf_7 ?_
      refine Go_getR (c' := 1) faX3_22 sh_90 (pt_90_0 (M := M) hC.1) dX3_loavesOf_8 ?_
      refine Go_getIv (v := (nv : Int)) hC.2.1 faX3_35 sh_1 dX3_loavesOf_11 ?_
      refine Go_icmp_ge dX3_loavesOf_14 rfl (fun h14 => ?_) (fun h14 => ?_)
      · skip
        refine Go_iload_n 3 rfl rfl dX3_loavesOf_51 ?_
        exact Go_ret (by rw [← hx]) dX3_loavesOf_52
      · skip
        exact absurd h14 (by omega)
    | succ k ih_5 =>
      intro v x he hx
      refine Go_iload 4 rfl dX3_loavesOf_5 ?_
      refine Go_aload_n 0 rfl rfl dX3_loavesOf_7 ?_
      refine Go_getR (c' := 1) faX3_22 sh_90 (pt_90_0 (M := M) hC.1) dX3_loavesOf_8 ?_
      refine Go_getIv (v := (nv : Int)) hC.2.1 faX3_35 sh_1 dX3_loavesOf_11 ?_
      refine Go_icmp_ge dX3_loavesOf_14 rfl (fun h14 => ?_) (fun h14 => ?_)
      · skip
        exact absurd h14 (by omega)
      · skip
        refine Go_iload_n 3 rfl rfl dX3_loavesOf_17 ?_
        refine Go_aload_n 0 rfl rfl dX3_loavesOf_18 ?_
        refine Go_iload_n 1 rfl rfl dX3_loavesOf_19 ?_
        refine Go_iload_n 2 rfl rfl dX3_loavesOf_20 ?_
        refine Go_iload 4 rfl dX3_loavesOf_21 ?_
        refine Go_callVI (q := vwCl[3]) (fX3_feeds hC c p v (by omega) (by omega)) cwX3_83 imX3_feeds rfl rfl ⟨Nat.le_of_ble_eq_true rfl, Nat.le_of_ble_eq_true rfl⟩ sh_90 rfl (Nat.le_of_ble_eq_true rfl) sh_rf dX3_loavesOf_23 ?_
        refine Go_if_eq dX3_loavesOf_26 rfl (fun h26 => ?_) (fun h26 => ?_)
        · skip
          replace h26 := bI_0.mp h26
          refine Go_iconst (by unfold in32; omega) dX3_loavesOf_42 ?_
          refine Go_iadd dX3_loavesOf_43 ?_
          refine Go_istore_n (ls' := [(3, gI _), (0, gR 90), (1, gI _), (2, gI _), (4, gI _)]) rfl dX3_loavesOf_44 (by decide) rfl ?_
          refine Go_iincn v 1 rfl rfl (by omega) 4 (ls' := [(4, gI _), (3, gI _), (0, gR 90), (1, gI _), (2, gI _)]) rfl dX3_loavesOf_45 (by decide) rfl ?_
          refine Go_goto dX3_loavesOf_48 rfl ?_
          refine Go_pick [2, 3, 4, 1, 0] (ls' := [(0, gR 90), (1, gI _), (2, gI _), (3, gI _), (4, gI _)]) rfl ?_
          exact ih_5 (v + 1) _ (by omega) (by simp only [shS, hx]; first | rw [if_pos (by exact h26)] | rw [if_neg (by exact h26)])
        · skip
          replace h26 := bI_n.mp h26
          refine Go_aload_n 0 rfl rfl dX3_loavesOf_29 ?_
          refine Go_getR (c' := 1) faX3_22 sh_90 (pt_90_0 (M := M) hC.1) dX3_loavesOf_30 ?_
          refine Go_getR (c' := 2) faX3_75 sh_1 (pt_1_3 (M := M) hC.1) dX3_loavesOf_33 ?_
          refine Go_iload 4 rfl dX3_loavesOf_36 ?_
          refine Go_ialoadv v (v := M 2 (v)) rfl sh_2 rfl (by omega) dX3_loavesOf_38 ?_
          refine Go_goto dX3_loavesOf_39 rfl ?_
          refine Go_iadd dX3_loavesOf_43 ?_
          refine Go_istore_n (ls' := [(3, gI _), (0, gR 90), (1, gI _), (2, gI _), (4, gI _)]) rfl dX3_loavesOf_44 (by decide) rfl ?_
          refine Go_iincn v 1 rfl rfl (by omega) 4 (ls' := [(4, gI _), (3, gI _), (0, gR 90), (1, gI _), (2, gI _)]) rfl dX3_loavesOf_45 (by decide) rfl ?_
          refine Go_goto dX3_loavesOf_48 rfl ?_
          refine Go_pick [2, 3, 4, 1, 0] (ls' := [(0, gR 90), (1, gI _), (2, gI _), (3, gI _), (4, gI _)]) rfl ?_
          exact ih_5 (v + 1) _ (by omega) (by simp only [shS, hx]; first | rw [if_pos (by exact h26)] | rw [if_neg (by exact h26)])
  refine Go_iconst (by unfold in32; omega) dX3_loavesOf_0 ?_
  refine Go_istore_n (ls' := [(3, gI _), (0, gR 90), (1, gI _), (2, gI _)]) rfl dX3_loavesOf_1 (by decide) rfl ?_
  refine Go_iconst (by unfold in32; omega) dX3_loavesOf_2 ?_
  refine Go_istore (ls' := [(4, gI _), (3, gI _), (0, gR 90), (1, gI _), (2, gI _)]) dX3_loavesOf_3 (by decide) rfl ?_
  refine Go_pick [2, 3, 4, 1, 0] (ls' := [(0, gR 90), (1, gI _), (2, gI _), (3, gI _), (4, gI _)]) rfl ?_
  exact loop_5 nv 0 _ (by omega) rfl
set_option maxHeartbeats 4000000 in
set_option maxRecDepth 100000 in
theorem fX3_farthestOf {D : va_G} {ca : Nat → ClassId} {M : gMem} {nv np : Nat} (hC : CS M nv np) (c p : Nat) (hc : c < 1024) (hp : p < 10) : Fn D ca mX3_farthestOf [gR 90, gI (c : Int), gI (p : Int)] SH M [gI (faS (M 2) (M 91) np c p nv)] SH (M) := by
  refine Fn_of okX3_farthestOf (Nat.le_of_ble_eq_true rfl) (Or.inr (Or.inl ⟨_, rfl, rfl⟩)) (Nat.le_refl _) (Nat.le_refl _) ?_
  refine Go_ls2 (ls' := [(0, gR 90), (1, gI _), (2, gI _)]) rfl ?_
  have hv12 := hC.2.2.1
  have hn10 := hC.2.2.2.2
  have loop_5 : ∀ (k : Nat) (v : Nat) (x : Int), v + k = nv → faS (M 2) (M 91) np c p v = x → Go D ca none (gRm mX3_farthestOf (SH.length - SH.length) (gSz SH - gSz SH)) mX3_farthestOf 5 [(0, gR 90), (1, gI (c : Int)), (2, gI (p : Int)), (3, gI x), (4, gI (v : Int))] [] SH M [gI (faS (M 2) (M 91) np c p nv)] SH (M) := by
    intro k
    induction k with
    | zero =>
      intro v x he hx
      obtain rfl : nv = v := by omega
      refine Go_iload 4 rfl dX3_farthestOf_5 ?_
      refine Go_aload_n 0 rfl rfl dX3_farthestOf_7 ?_
      refine Go_getR (c' := 1) faX3_22 sh_90 (pt_90_0 (M := M) hC.1) dX3_farthestOf_8 ?_
      refine Go_getIv (v := (nv : Int)) hC.2.1 faX3_35 sh_1 dX3_farthestOf_11 ?_
      refine Go_icmp_ge dX3_farthestOf_14 rfl (fun h14 => ?_) (fun h14 => ?_)
      · skip
        refine Go_iload_n 3 rfl rfl dX3_farthestOf_50 ?_
        exact Go_ret (by rw [← hx]) dX3_farthestOf_51
      · skip
        exact absurd h14 (by omega)
    | succ k ih_5 =>
      intro v x he hx
      refine Go_iload 4 rfl dX3_farthestOf_5 ?_
      refine Go_aload_n 0 rfl rfl dX3_farthestOf_7 ?_
      refine Go_getR (c' := 1) faX3_22 sh_90 (pt_90_0 (M := M) hC.1) dX3_farthestOf_8 ?_
      refine Go_getIv (v := (nv : Int)) hC.2.1 faX3_35 sh_1 dX3_farthestOf_11 ?_
      refine Go_icmp_ge dX3_farthestOf_14 rfl (fun h14 => ?_) (fun h14 => ?_)
      · skip
        exact absurd h14 (by omega)
      · skip
        refine Go_aload_n 0 rfl rfl dX3_farthestOf_17 ?_
        refine Go_iload_n 1 rfl rfl dX3_farthestOf_18 ?_
        refine Go_iload_n 2 rfl rfl dX3_farthestOf_19 ?_
        refine Go_iload 4 rfl dX3_farthestOf_20 ?_
        refine Go_callVI (q := vwCl[3]) (fX3_feeds hC c p v (by omega) (by omega)) cwX3_83 imX3_feeds rfl rfl ⟨Nat.le_of_ble_eq_true rfl, Nat.le_of_ble_eq_true rfl⟩ sh_90 rfl (Nat.le_of_ble_eq_true rfl) sh_rf dX3_farthestOf_22 ?_
        refine Go_if_eq dX3_farthestOf_25 rfl (fun h25 => ?_) (fun h25 => ?_)
        · skip
          replace h25 := bI_0.mp h25
          refine Go_iload_n 3 rfl rfl dX3_farthestOf_42 ?_
          refine Go_istore_n (ls' := [(3, gI _), (0, gR 90), (1, gI _), (2, gI _), (4, gI _)]) rfl dX3_farthestOf_43 (by decide) rfl ?_
          refine Go_iincn v 1 rfl rfl (by omega) 4 (ls' := [(4, gI _), (3, gI _), (0, gR 90), (1, gI _), (2, gI _)]) rfl dX3_farthestOf_44 (by decide) rfl ?_
          refine Go_goto dX3_farthestOf_47 rfl ?_
          refine Go_pick [2, 3, 4, 1, 0] (ls' := [(0, gR 90), (1, gI _), (2, gI _), (3, gI _), (4, gI _)]) rfl ?_
          exact ih_5 (v + 1) _ (by omega) (by simp only [faS, hx]; first | rw [if_pos (by exact h25)] | rw [if_neg (by exact h25)])
        · skip
          replace h25 := bI_n.mp h25
          refine Go_iload_n 3 rfl rfl dX3_farthestOf_28 ?_
          refine Go_aload_n 0 rfl rfl dX3_farthestOf_29 ?_
          refine Go_iload_n 2 rfl rfl dX3_farthestOf_30 ?_
          refine Go_iload 4 rfl dX3_farthestOf_31 ?_
          refine Go_callVI (q := vwCl[3]) (fX3_carriedTo hC.1 p v (by omega) (by omega) (v := M 91 (p * 12 + v)) rfl) cwX3_69 imX3_carriedTo rfl rfl ⟨Nat.le_of_ble_eq_true rfl, Nat.le_of_ble_eq_true rfl⟩ sh_90 rfl (Nat.le_of_ble_eq_true rfl) sh_rf dX3_farthestOf_33 ?_
          refine Go_mmaxI cwX3_87 ⟨Nat.le_of_ble_eq_true rfl, Nat.le_of_ble_eq_true rfl⟩ ⟨Nat.le_refl _, Nat.le_refl _⟩ dX3_farthestOf_36 ?_
          refine Go_goto dX3_farthestOf_39 rfl ?_
          refine Go_istore_n (ls' := [(3, gI _), (0, gR 90), (1, gI _), (2, gI _), (4, gI _)]) rfl dX3_farthestOf_43 (by decide) rfl ?_
          refine Go_iincn v 1 rfl rfl (by omega) 4 (ls' := [(4, gI _), (3, gI _), (0, gR 90), (1, gI _), (2, gI _)]) rfl dX3_farthestOf_44 (by decide) rfl ?_
          refine Go_goto dX3_farthestOf_47 rfl ?_
          refine Go_pick [2, 3, 4, 1, 0] (ls' := [(0, gR 90), (1, gI _), (2, gI _), (3, gI _), (4, gI _)]) rfl ?_
          exact ih_5 (v + 1) _ (by omega) (by simp only [faS, hx]; first | rw [if_pos (by exact h25)] | rw [if_neg (by exact h25)])
  refine Go_iconst (by unfold in32; omega) dX3_farthestOf_0 ?_
  refine Go_istore_n (ls' := [(3, gI _), (0, gR 90), (1, gI _), (2, gI _)]) rfl dX3_farthestOf_1 (by decide) rfl ?_
  refine Go_iconst (by unfold in32; omega) dX3_farthestOf_2 ?_
  refine Go_istore (ls' := [(4, gI _), (3, gI _), (0, gR 90), (1, gI _), (2, gI _)]) dX3_farthestOf_3 (by decide) rfl ?_
  refine Go_pick [2, 3, 4, 1, 0] (ls' := [(0, gR 90), (1, gI _), (2, gI _), (3, gI _), (4, gI _)]) rfl ?_
  exact loop_5 nv 0 _ (by omega) rfl
set_option maxHeartbeats 4000000 in
set_option maxRecDepth 100000 in
theorem fX3_farthestOfAll {D : va_G} {ca : Nat → ClassId} {M : gMem} {nv np : Nat} (hC : CS M nv np) (c : Nat) (hc : c < 1024) : Fn D ca mX3_farthestOfAll [gR 90, gI (c : Int)] SH M [gI (fwS (M 2) (M 91) np c nv)] SH (M) := by
  refine Fn_of okX3_farthestOfAll (Nat.le_of_ble_eq_true rfl) (Or.inr (Or.inl ⟨_, rfl, rfl⟩)) (Nat.le_refl _) (Nat.le_refl _) ?_
  refine Go_ls2 (ls' := [(0, gR 90), (1, gI _)]) rfl ?_
  have hv12 := hC.2.2.1
  have hn10 := hC.2.2.2.2
  have loop_4 : ∀ (k : Nat) (v : Nat) (x : Int), v + k = nv → fwS (M 2) (M 91) np c v = x → Go D ca none (gRm mX3_farthestOfAll (SH.length - SH.length) (gSz SH - gSz SH)) mX3_farthestOfAll 4 [(0, gR 90), (1, gI (c : Int)), (2, gI x), (3, gI (v : Int))] [] SH M [gI (fwS (M 2) (M 91) np c nv)] SH (M) := by
    intro k
    induction k with
    | zero =>
      intro v x he hx
      obtain rfl : nv = v := by omega
      refine Go_iload_n 3 rfl rfl dX3_farthestOfAll_4 ?_
      refine Go_aload_n 0 rfl rfl dX3_farthestOfAll_5 ?_
      refine Go_getR (c' := 1) faX3_22 sh_90 (pt_90_0 (M := M) hC.1) dX3_farthestOfAll_6 ?_
      refine Go_getIv (v := (nv : Int)) hC.2.1 faX3_35 sh_1 dX3_farthestOfAll_9 ?_
      refine Go_icmp_ge dX3_farthestOfAll_12 rfl (fun h12 => ?_) (fun h12 => ?_)
      · skip
        refine Go_iload_n 2 rfl rfl dX3_farthestOfAll_69 ?_
        exact Go_ret (by rw [← hx]) dX3_farthestOfAll_70
      · skip
        exact absurd h12 (by omega)
    | succ k ih_4 =>
      intro v x he hx
      refine Go_iload_n 3 rfl rfl dX3_farthestOfAll_4 ?_
      refine Go_aload_n 0 rfl rfl dX3_farthestOfAll_5 ?_
      refine Go_getR (c' := 1) faX3_22 sh_90 (pt_90_0 (M := M) hC.1) dX3_farthestOfAll_6 ?_
      refine Go_getIv (v := (nv : Int)) hC.2.1 faX3_35 sh_1 dX3_farthestOfAll_9 ?_
      refine Go_icmp_ge dX3_farthestOfAll_12 rfl (fun h12 => ?_) (fun h12 => ?_)
      · skip
        exact absurd h12 (by omega)
      · skip
        refine Go_aload_n 0 rfl rfl dX3_farthestOfAll_15 ?_
        refine Go_getR (c' := 1) faX3_22 sh_90 (pt_90_0 (M := M) hC.1) dX3_farthestOfAll_16 ?_
        refine Go_getR (c' := 2) faX3_75 sh_1 (pt_1_3 (M := M) hC.1) dX3_farthestOfAll_19 ?_
        refine Go_iload_n 3 rfl rfl dX3_farthestOfAll_22 ?_
        refine Go_ialoadv v (v := M 2 (v)) rfl sh_2 rfl (by omega) dX3_farthestOfAll_23 ?_
        refine Go_if_le dX3_farthestOfAll_24 rfl (fun h24 => ?_) (fun h24 => ?_)
        · skip
          refine Go_bipush ⟨by decide, by unfold in32; omega⟩ dX3_farthestOfAll_36 ?_
          refine Go_istore (ls' := [(4, gI _), (0, gR 90), (1, gI _), (2, gI _), (3, gI _)]) dX3_farthestOfAll_38 (by decide) rfl ?_
          refine Go_iload 0 rfl dX3_farthestOfAll_40 ?_
          refine Go_bipush ⟨by decide, by unfold in32; omega⟩ dX3_farthestOfAll_42 ?_
          refine Go_icmp_ne dX3_farthestOfAll_44 rfl (fun h44 => ?_) (fun h44 => ?_)
          · skip
            exact absurd rfl h44
          · skip
            refine Go_iload_n 3 rfl rfl dX3_farthestOfAll_47 ?_
            refine Go_goto dX3_farthestOfAll_48 rfl ?_
            refine Go_istore_n (ls' := [(2, gI _), (4, gI _), (0, gR 90), (1, gI _), (3, gI _)]) rfl dX3_farthestOfAll_62 (by decide) rfl ?_
            refine Go_iincn v 1 rfl rfl (by omega) 4 (ls' := [(3, gI _), (2, gI _), (4, gI _), (0, gR 90), (1, gI _)]) rfl dX3_farthestOfAll_63 (by decide) rfl ?_
            refine Go_goto dX3_farthestOfAll_66 rfl ?_
            refine Go_pick [3, 4, 1, 0] (ls' := [(0, gR 90), (1, gI _), (2, gI _), (3, gI _)]) rfl ?_
            exact ih_4 (v + 1) _ (by omega) (by simp only [fwS, hx]; first | rw [if_neg (by exact fun q => absurd q.1 (by omega))] | rw [if_neg (by exact fun q => q.2 h44)] | rw [if_pos (by exact ⟨by omega, h44⟩), epo, Int.toNat_natCast])
        · skip
          refine Go_aload_n 0 rfl rfl dX3_farthestOfAll_27 ?_
          refine Go_iload_n 1 rfl rfl dX3_farthestOfAll_28 ?_
          refine Go_iload_n 3 rfl rfl dX3_farthestOfAll_29 ?_
          refine Go_callVI (q := vwCl[3]) (fX3_ovenFor hC c v (by omega) (by omega)) cwX3_78 imX3_ovenFor rfl rfl ⟨Nat.le_of_ble_eq_true rfl, Nat.le_of_ble_eq_true rfl⟩ sh_90 rfl (Nat.le_of_ble_eq_true rfl) sh_rf dX3_farthestOfAll_30 ?_
          refine Go_goto dX3_farthestOfAll_33 rfl ?_
          refine Go_istore (ls' := [(4, gI _), (0, gR 90), (1, gI _), (2, gI _), (3, gI _)]) dX3_farthestOfAll_38 (by decide) rfl ?_
          refine Go_iload 0 rfl dX3_farthestOfAll_40 ?_
          refine Go_bipush ⟨by decide, by unfold in32; omega⟩ dX3_farthestOfAll_42 ?_
          refine Go_icmp_ne dX3_farthestOfAll_44 rfl (fun h44 => ?_) (fun h44 => ?_)
          · skip
            obtain ⟨po, hpo, epo⟩ := ofS_nat (M 91) c v np h44
            rw [epo]
            refine Go_iload_n 3 rfl rfl dX3_farthestOfAll_51 ?_
            refine Go_aload_n 1 rfl rfl dX3_farthestOfAll_52 ?_
            refine Go_iload 0 rfl dX3_farthestOfAll_53 ?_
            refine Go_iload_n 4 rfl rfl dX3_farthestOfAll_55 ?_
            refine Go_callVI (q := vwCl[3]) (fX3_carriedTo hC.1 po v (by omega) (by omega) (v := M 91 (po * 12 + v)) rfl) cwX3_69 imX3_carriedTo rfl rfl ⟨Nat.le_of_ble_eq_true rfl, Nat.le_of_ble_eq_true rfl⟩ sh_90 rfl (Nat.le_of_ble_eq_true rfl) sh_rf dX3_farthestOfAll_56 ?_
            refine Go_mmaxI cwX3_87 ⟨Nat.le_of_ble_eq_true rfl, Nat.le_of_ble_eq_true rfl⟩ ⟨Nat.le_refl _, Nat.le_refl _⟩ dX3_farthestOfAll_59 ?_
            refine Go_istore_n (ls' := [(2, gI _), (4, gI _), (0, gR 90), (1, gI _), (3, gI _)]) rfl dX3_farthestOfAll_62 (by decide) rfl ?_
            refine Go_iincn v 1 rfl rfl (by omega) 4 (ls' := [(3, gI _), (2, gI _), (4, gI _), (0, gR 90), (1, gI _)]) rfl dX3_farthestOfAll_63 (by decide) rfl ?_
            refine Go_goto dX3_farthestOfAll_66 rfl ?_
            refine Go_pick [3, 4, 1, 0] (ls' := [(0, gR 90), (1, gI _), (2, gI _), (3, gI _)]) rfl ?_
            exact ih_4 (v + 1) _ (by omega) (by simp only [fwS, hx]; first | rw [if_neg (by exact fun q => absurd q.1 (by omega))] | rw [if_neg (by exact fun q => q.2 h44)] | rw [if_pos (by exact ⟨by omega, h44⟩), epo, Int.toNat_natCast])
          · skip
            refine Go_iload_n 3 rfl rfl dX3_farthestOfAll_47 ?_
            refine Go_goto dX3_farthestOfAll_48 rfl ?_
            refine Go_istore_n (ls' := [(2, gI _), (4, gI _), (0, gR 90), (1, gI _), (3, gI _)]) rfl dX3_farthestOfAll_62 (by decide) rfl ?_
            refine Go_iincn v 1 rfl rfl (by omega) 4 (ls' := [(3, gI _), (2, gI _), (4, gI _), (0, gR 90), (1, gI _)]) rfl dX3_farthestOfAll_63 (by decide) rfl ?_
            refine Go_goto dX3_farthestOfAll_66 rfl ?_
            refine Go_pick [3, 4, 1, 0] (ls' := [(0, gR 90), (1, gI _), (2, gI _), (3, gI _)]) rfl ?_
            exact ih_4 (v + 1) _ (by omega) (by simp only [fwS, hx]; first | rw [if_neg (by exact fun q => absurd q.1 (by omega))] | rw [if_neg (by exact fun q => q.2 h44)] | rw [if_pos (by exact ⟨by omega, h44⟩), epo, Int.toNat_natCast])
  refine Go_iconst (by unfold in32; omega) dX3_farthestOfAll_0 ?_
  refine Go_istore_n (ls' := [(2, gI _), (0, gR 90), (1, gI _)]) rfl dX3_farthestOfAll_1 (by decide) rfl ?_
  refine Go_iconst (by unfold in32; omega) dX3_farthestOfAll_2 ?_
  refine Go_istore_n (ls' := [(3, gI _), (2, gI _), (0, gR 90), (1, gI _)]) rfl dX3_farthestOfAll_3 (by decide) rfl ?_
  refine Go_pick [2, 3, 1, 0] (ls' := [(0, gR 90), (1, gI _), (2, gI _), (3, gI _)]) rfl ?_
  exact loop_4 nv 0 _ (by omega) rfl
