def ffS (n : Nat) (P : Nat → Int) : Nat → (Nat → Int)
  | 0 => P
  | j + 1 => gUp (ffS n P j) (n + j) 0
def giS (B car P : Nat → Int) (p v : Nat) : Int := if B v = 0 ∨ car (p * 12 + v) = 1000000 then 0 else max 0 (w64 (P v - w64 (B v * car (p * 12 + v))))
def wvS (B K U car P : Nat → Int) (p : Nat) : Nat → Int
  | 0 => w32 (- ocF K U p)
  | v + 1 => w64 (wvS B K U car P p v + giS B car P p v)
def woS (B K U car P : Nat → Int) (nv p : Nat) : Int := max 0 (wvS B K U car P p nv)
def auI (x : Int) (p : Nat) (Y : Nat → Int) : Nat → (Nat → Int)
  | 0 => Y
  | c + 1 => gUp (auI x p Y c) (c ||| 2 ^ p) (w64 (auI x p Y c c + x))
def auO (wo : Nat → Int) (Y : Nat → Int) : Nat → (Nat → Int)
  | 0 => gUp Y 0 0
  | p + 1 => auI (wo p) p (auO wo Y p) (2 ^ p)
def ftS (ok : Nat → Bool) (Y : Nat → Int) : Nat → Int
  | 0 => -4
  | c + 1 => if ok c = true ∧ (ftS ok Y c = -4 ∨ Y (ftS ok Y c).toNat < Y c) then (c : Int) else ftS ok Y c
theorem ftS_nat (ok : Nat → Bool) (Y : Nat → Int) : ∀ c : Nat, ftS ok Y c = -4 ∨ ∃ n : Nat, n < c ∧ ftS ok Y c = (n : Int)
  | 0 => Or.inl rfl
  | c + 1 => by
    simp only [ftS]
    split
    · exact Or.inr ⟨c, by omega, rfl⟩
    · rcases ftS_nat ok Y c with h | ⟨n, h1, h2⟩
      · exact Or.inl h
      · exact Or.inr ⟨n, by omega, h2⟩
def boS (B P : Nat → Int) (x : Int) : Nat → Int
  | 0 => x
  | v + 1 => w64 (boS B P x v + if 0 < B v then P v else 0)
def btF (t : Int) (Y B P : Nat → Int) (nv : Nat) : Int := boS B P (if t = -4 then 0 else w64 (- Y t.toNat)) nv
def gvS (B car P : Nat → Int) (t v : Nat) : Nat → Int
  | 0 => 0
  | p + 1 => w32 (gvS B car P t v p + if t.testBit p = true ∧ 0 < giS B car P p v then 1 else 0)
def mpF (x g s : Int) : Int := if g = 0 then min (w64 (x + s)) 100000000 else if g = 1 then x else max (w64 (x - s)) 0
def mvP (B car : Nat → Int) (t np : Nat) (s : Int) (P : Nat → Int) : Nat → Int × (Nat → Int)
  | 0 => (0, P)
  | v + 1 => if 0 < B v then (w32 ((mvP B car t np s P v).1 + if mpF ((mvP B car t np s P v).2 v) (gvS B car (mvP B car t np s P v).2 t v np) s ≠ (mvP B car t np s P v).2 v then 1 else 0), gUp (mvP B car t np s P v).2 v (mpF ((mvP B car t np s P v).2 v) (gvS B car (mvP B car t np s P v).2 t v np) s)) else mvP B car t np s P v
set_option maxHeartbeats 4000000 in
set_option maxRecDepth 100000 in
theorem fX4_forgetFrom {D : va_G} {ca : Nat → ClassId} {M : gMem} (hp : gPtr M) (P0 : Nat → Int) (n : Nat) (hn : n ≤ 12) : Fn D ca mX4_forgetFrom [gR 95, gI (n : Int)] SH (gSet M 96 P0) [] SH (gSet M 96 (ffS n P0 (12 - n))) := by
  refine Fn_of okX4_forgetFrom (Nat.le_of_ble_eq_true rfl) (Or.inl ⟨rfl, rfl⟩) (Nat.le_refl _) (Nat.le_refl _) ?_
  refine Go_ls2 (ls' := [(0, gR 95), (1, gI _)]) rfl ?_
  have loop_2 : ∀ (k : Nat) (j : Nat) (P : Nat → Int), n + j + k = 12 → ffS n P0 j = P → Go D ca none (gRm mX4_forgetFrom (SH.length - SH.length) (gSz SH - gSz SH)) mX4_forgetFrom 2 [(0, gR 95), (2, gI ((n + j : Nat) : Int))] [] SH (gSet M 96 P) [] SH (gSet M 96 (ffS n P0 (12 - n))) := by
    intro k
    induction k with
    | zero =>
      intro j P he hx
      have ej : j = 12 - n := by omega
      subst ej
      refine Go_iload_n 1 rfl rfl dX4_forgetFrom_2 ?_
      refine Go_bipush ⟨by decide, by unfold in32; omega⟩ dX4_forgetFrom_3 ?_
      refine Go_icmp_ge dX4_forgetFrom_5 rfl (fun h5 => ?_) (fun h5 => ?_)
      · skip
        subst hx
        exact Go_ret rfl dX4_forgetFrom_21
      · skip
        exact absurd h5 (by omega)
    | succ k ih_2 =>
      intro j P he hx
      refine Go_iload_n 1 rfl rfl dX4_forgetFrom_2 ?_
      refine Go_bipush ⟨by decide, by unfold in32; omega⟩ dX4_forgetFrom_3 ?_
      refine Go_icmp_ge dX4_forgetFrom_5 rfl (fun h5 => ?_) (fun h5 => ?_)
      · skip
        exact absurd h5 (by omega)
      · skip
        refine Go_aload_n 0 rfl rfl dX4_forgetFrom_8 ?_
        refine Go_getR (c' := 96) faX4_9 sh_95 (pt_95_2 (M := M) hp) dX4_forgetFrom_9 ?_
        refine Go_iload_n 1 rfl rfl dX4_forgetFrom_12 ?_
        refine Go_lconst (v := 0) ⟨rfl, by unfold in64; omega⟩ dX4_forgetFrom_13 ?_
        refine Go_lastoreS ((n + j)) sh_96 rfl (by omega) dX4_forgetFrom_14 ?_
        refine Go_iincn ((n + j)) 1 rfl rfl (by omega) 1 (ls' := [(2, gI _), (0, gR 95)]) rfl dX4_forgetFrom_15 (by decide) rfl ?_
        refine Go_goto dX4_forgetFrom_18 rfl ?_
        refine Go_pick [1, 0] (ls' := [(0, gR 95), (2, gI _)]) rfl ?_
        exact ih_2 (j + 1) _ (by omega) (by simp only [ffS, hx])
  refine Go_iload_n 1 rfl rfl dX4_forgetFrom_0 ?_
  refine Go_istore_n (ls' := [(2, gI _), (0, gR 95), (1, gI _)]) rfl dX4_forgetFrom_1 (by decide) rfl ?_
  refine Go_pick [1, 0] (ls' := [(0, gR 95), (2, gI _)]) rfl ?_
  exact loop_2 (12 - n) 0 _ (by omega) rfl
set_option maxHeartbeats 4000000 in
set_option maxRecDepth 100000 in
theorem fX4_giftOf {D : va_G} {ca : Nat → ClassId} {M : gMem} {nv np : Nat} (hC : CS M nv np) (p v : Nat) (hp : p < 10) (hv : v < 12) : Fn D ca mX4_giftOf [gR 95, gI (p : Int), gI (v : Int)] SH M [gJ (giS (M 2) (M 91) (M 96) p v)] SH (M) := by
  refine Fn_of okX4_giftOf (Nat.le_of_ble_eq_true rfl) (Or.inr (Or.inr (Or.inr ⟨_, rfl, rfl⟩))) (Nat.le_refl _) (Nat.le_refl _) ?_
  refine Go_ls2 (ls' := [(0, gR 95), (1, gI _), (2, gI _)]) rfl ?_
  have hv12 := hC.2.2.1
  have hn10 := hC.2.2.2.2
  refine Go_aload_n 0 rfl rfl dX4_giftOf_0 ?_
  refine Go_getR (c' := 90) faX4_30 sh_95 (pt_95_1 (M := M) hC.1) dX4_giftOf_1 ?_
  refine Go_iload_n 1 rfl rfl dX4_giftOf_4 ?_
  refine Go_iload_n 2 rfl rfl dX4_giftOf_5 ?_
  refine Go_callVI (q := vwCl[3]) (fX3_carriedTo hC.1 p v (by omega) (by omega) (v := M 91 (p * 12 + v)) rfl) cwX4_34 imX3_carriedTo rfl rfl ⟨Nat.le_of_ble_eq_true rfl, Nat.le_of_ble_eq_true rfl⟩ sh_90 rfl (Nat.le_of_ble_eq_true rfl) sh_rf dX4_giftOf_6 ?_
  refine Go_istore_n (ls' := [(3, gI _), (0, gR 95), (1, gI _), (2, gI _)]) rfl dX4_giftOf_9 (by decide) rfl ?_
  refine Go_aload_n 1 rfl rfl dX4_giftOf_10 ?_
  refine Go_getR (c' := 1) faX4_26 sh_95 (pt_95_0 (M := M) hC.1) dX4_giftOf_11 ?_
  refine Go_getR (c' := 2) faX4_40 sh_1 (pt_1_3 (M := M) hC.1) dX4_giftOf_14 ?_
  refine Go_iload_n 3 rfl rfl dX4_giftOf_17 ?_
  refine Go_ialoadv v (v := M 2 (v)) rfl sh_2 rfl (by omega) dX4_giftOf_18 ?_
  refine Go_if_eq dX4_giftOf_19 rfl (fun h19 => ?_) (fun h19 => ?_)
  · skip
    refine Go_lconst (v := 0) ⟨rfl, by unfold in64; omega⟩ dX4_giftOf_28 ?_
    exact Go_ret (by unfold giS; rw [if_pos (by first | exact Or.inl h19 | exact Or.inr h25)]) dX4_giftOf_29
  · skip
    refine Go_iload_n 0 rfl rfl dX4_giftOf_22 ?_
    refine Go_ldc kcX4_46 (by unfold in32; omega) dX4_giftOf_23 ?_
    refine Go_icmp_ne dX4_giftOf_25 rfl (fun h25 => ?_) (fun h25 => ?_)
    · skip
      refine Go_lconst (v := 0) ⟨rfl, by unfold in64; omega⟩ dX4_giftOf_30 ?_
      refine Go_aload_n 1 rfl rfl dX4_giftOf_31 ?_
      refine Go_getR (c' := 96) faX4_9 sh_95 (pt_95_2 (M := M) hC.1) dX4_giftOf_32 ?_
      refine Go_iload_n 3 rfl rfl dX4_giftOf_35 ?_
      refine Go_laloadv v (v := M 96 (v)) rfl sh_96 rfl (by omega) dX4_giftOf_36 ?_
      refine Go_aload_n 1 rfl rfl dX4_giftOf_37 ?_
      refine Go_getR (c' := 1) faX4_26 sh_95 (pt_95_0 (M := M) hC.1) dX4_giftOf_38 ?_
      refine Go_getR (c' := 2) faX4_40 sh_1 (pt_1_3 (M := M) hC.1) dX4_giftOf_41 ?_
      refine Go_iload_n 3 rfl rfl dX4_giftOf_44 ?_
      refine Go_ialoadv v (v := M 2 (v)) rfl sh_2 rfl (by omega) dX4_giftOf_45 ?_
      refine Go_i2l dX4_giftOf_46 ?_
      refine Go_iload_n 0 rfl rfl dX4_giftOf_47 ?_
      refine Go_i2l dX4_giftOf_48 ?_
      refine Go_lmul dX4_giftOf_49 ?_
      refine Go_lsub dX4_giftOf_50 ?_
      refine Go_mmaxJ cwX4_47 ⟨Nat.le_of_ble_eq_true rfl, Nat.le_of_ble_eq_true rfl⟩ ⟨Nat.le_refl _, Nat.le_refl _⟩ dX4_giftOf_51 ?_
      exact Go_ret (by unfold giS; rw [if_neg (by exact fun q => q.elim h19 h25)]) dX4_giftOf_54
    · skip
      refine Go_lconst (v := 0) ⟨rfl, by unfold in64; omega⟩ dX4_giftOf_28 ?_
      exact Go_ret (by unfold giS; rw [if_pos (by first | exact Or.inl h19 | exact Or.inr h25)]) dX4_giftOf_29
set_option maxHeartbeats 4000000 in
set_option maxRecDepth 100000 in
theorem fX4_worthOf {D : va_G} {ca : Nat → ClassId} {M : gMem} {nv np : Nat} (hC : CS M nv np) (p : Nat) (hp : p < 10) : Fn D ca mX4_worthOf [gR 95, gI (p : Int)] SH M [gJ (woS (M 2) (M 5) (M 6) (M 91) (M 96) nv p)] SH (M) := by
  refine Fn_of okX4_worthOf (Nat.le_of_ble_eq_true rfl) (Or.inr (Or.inr (Or.inr ⟨_, rfl, rfl⟩))) (Nat.le_refl _) (Nat.le_refl _) ?_
  refine Go_ls2 (ls' := [(0, gR 95), (1, gI _)]) rfl ?_
  have hv12 := hC.2.2.1
  have hn10 := hC.2.2.2.2
  have loop_14 : ∀ (k : Nat) (v : Nat) (x : Int), v + k = nv → wvS (M 2) (M 5) (M 6) (M 91) (M 96) p v = x → Go D ca none (gRm mX4_worthOf (SH.length - SH.length) (gSz SH - gSz SH)) mX4_worthOf 14 [(0, gR 95), (1, gI (p : Int)), (2, gJ x), (4, gI (v : Int))] [] SH M [gJ (woS (M 2) (M 5) (M 6) (M 91) (M 96) nv p)] SH (M) := by
    intro k
    induction k with
    | zero =>
      intro v x he hx
      obtain rfl : nv = v := by omega
      refine Go_iload 3 rfl dX4_worthOf_14 ?_
      refine Go_aload_n 0 rfl rfl dX4_worthOf_16 ?_
      refine Go_getR (c' := 1) faX4_26 sh_95 (pt_95_0 (M := M) hC.1) dX4_worthOf_17 ?_
      refine Go_getIv (v := (nv : Int)) hC.2.1 faX4_57 sh_1 dX4_worthOf_20 ?_
      refine Go_icmp_ge dX4_worthOf_23 rfl (fun h23 => ?_) (fun h23 => ?_)
      · skip
        refine Go_lconst (v := 0) ⟨rfl, by unfold in64; omega⟩ dX4_worthOf_42 ?_
        refine Go_lload_n 2 rfl rfl dX4_worthOf_43 ?_
        refine Go_mmaxJ cwX4_47 ⟨Nat.le_of_ble_eq_true rfl, Nat.le_of_ble_eq_true rfl⟩ ⟨Nat.le_refl _, Nat.le_refl _⟩ dX4_worthOf_44 ?_
        exact Go_ret (by rw [← hx]; rfl) dX4_worthOf_47
      · skip
        exact absurd h23 (by omega)
    | succ k ih_14 =>
      intro v x he hx
      refine Go_iload 3 rfl dX4_worthOf_14 ?_
      refine Go_aload_n 0 rfl rfl dX4_worthOf_16 ?_
      refine Go_getR (c' := 1) faX4_26 sh_95 (pt_95_0 (M := M) hC.1) dX4_worthOf_17 ?_
      refine Go_getIv (v := (nv : Int)) hC.2.1 faX4_57 sh_1 dX4_worthOf_20 ?_
      refine Go_icmp_ge dX4_worthOf_23 rfl (fun h23 => ?_) (fun h23 => ?_)
      · skip
        exact absurd h23 (by omega)
      · skip
        refine Go_lload_n 2 rfl rfl dX4_worthOf_26 ?_
        refine Go_aload_n 0 rfl rfl dX4_worthOf_27 ?_
        refine Go_iload_n 1 rfl rfl dX4_worthOf_28 ?_
        refine Go_iload 3 rfl dX4_worthOf_29 ?_
        refine Go_callVJ (q := vwCl[4]) (fX4_giftOf hC p v (by omega) (by omega)) cwX4_60 imX4_giftOf rfl rfl ⟨Nat.le_of_ble_eq_true rfl, Nat.le_of_ble_eq_true rfl⟩ sh_95 rfl (Nat.le_of_ble_eq_true rfl) sh_rf dX4_worthOf_31 ?_
        refine Go_ladd dX4_worthOf_34 ?_
        refine Go_lstore_n (ls' := [(2, gJ _), (0, gR 95), (1, gI _), (4, gI _)]) rfl dX4_worthOf_35 (by decide) rfl ?_
        refine Go_iincn v 1 rfl rfl (by omega) 3 (ls' := [(4, gI _), (2, gJ _), (0, gR 95), (1, gI _)]) rfl dX4_worthOf_36 (by decide) rfl ?_
        refine Go_goto dX4_worthOf_39 rfl ?_
        refine Go_pick [2, 3, 1, 0] (ls' := [(0, gR 95), (1, gI _), (2, gJ _), (4, gI _)]) rfl ?_
        exact ih_14 (v + 1) _ (by omega) (by simp only [wvS, hx])
  refine Go_aload_n 0 rfl rfl dX4_worthOf_0 ?_
  refine Go_getR (c' := 1) faX4_26 sh_95 (pt_95_0 (M := M) hC.1) dX4_worthOf_1 ?_
  refine Go_iload_n 1 rfl rfl dX4_worthOf_4 ?_
  refine Go_callVI (q := vwCl[6]) (fX6_ovenCost hC.1 p (by omega)) cwX4_53 imX6_ovenCost rfl rfl ⟨Nat.le_of_ble_eq_true rfl, Nat.le_of_ble_eq_true rfl⟩ sh_1 rfl (Nat.le_of_ble_eq_true rfl) sh_rf dX4_worthOf_5 ?_
  refine Go_ineg dX4_worthOf_8 ?_
  refine Go_i2l dX4_worthOf_9 ?_
  refine Go_lstore_n (ls' := [(2, gJ _), (0, gR 95), (1, gI _)]) rfl dX4_worthOf_10 (by decide) rfl ?_
  refine Go_iconst (by unfold in32; omega) dX4_worthOf_11 ?_
  refine Go_istore (ls' := [(4, gI _), (2, gJ _), (0, gR 95), (1, gI _)]) dX4_worthOf_12 (by decide) rfl ?_
  refine Go_pick [2, 3, 1, 0] (ls' := [(0, gR 95), (1, gI _), (2, gJ _), (4, gI _)]) rfl ?_
  exact loop_14 nv 0 _ (by omega) rfl
set_option maxHeartbeats 4000000 in
set_option maxRecDepth 100000 in
theorem fX4_addUpWorths {D : va_G} {ca : Nat → ClassId} {M : gMem} {nv np : Nat} (hC : CS M nv np) : Fn D ca mX4_addUpWorths [gR 95] SH M [] SH (gSet M 97 (auO (fun p => woS (M 2) (M 5) (M 6) (M 91) (M 96) nv p) (M 97) np)) := by
  refine Fn_of okX4_addUpWorths (Nat.le_of_ble_eq_true rfl) (Or.inl ⟨rfl, rfl⟩) (Nat.le_refl _) (Nat.le_refl _) ?_
  refine Go_ls2 (ls' := [(0, gR 95)]) rfl ?_
  have hv12 := hC.2.2.1
  have hn10 := hC.2.2.2.2
  refine Go_o 97 ?_
  have loop_9 : ∀ (k : Nat) (p : Nat) (Y : Nat → Int), p + k = np → auO (fun p => woS (M 2) (M 5) (M 6) (M 91) (M 96) nv p) (M 97) p = Y → Go D ca none (gRm mX4_addUpWorths (SH.length - SH.length) (gSz SH - gSz SH)) mX4_addUpWorths 9 [(0, gR 95), (1, gI (p : Int))] [] SH (gSet M 97 Y) [] SH (gSet M 97 (auO (fun p => woS (M 2) (M 5) (M 6) (M 91) (M 96) nv p) (M 97) np)) := by
    intro k
    induction k with
    | zero =>
      intro p Y he hx
      obtain rfl : np = p := by omega
      refine Go_iload_n 1 rfl rfl dX4_addUpWorths_9 ?_
      refine Go_aload_n 0 rfl rfl dX4_addUpWorths_10 ?_
      refine Go_getR (c' := 1) faX4_26 sh_95 (pt_95_0 (M := M) hC.1) dX4_addUpWorths_11 ?_
      refine Go_getIv (v := (np : Int)) hC.2.2.2.1 faX4_67 sh_1 dX4_addUpWorths_14 ?_
      refine Go_icmp_ge dX4_addUpWorths_17 rfl (fun h17 => ?_) (fun h17 => ?_)
      · skip
        subst hx
        exact Go_ret rfl dX4_addUpWorths_72
      · skip
        exact absurd h17 (by omega)
    | succ k ih_9 =>
      intro p Y he hx
      have hp2 := p_lt (show p < 10 by omega)
      have loop_34 : ∀ (k : Nat) (c : Nat) (Z : Nat → Int), c + k = 2 ^ p → auI (woS (M 2) (M 5) (M 6) (M 91) (M 96) nv p) p Y c = Z → Go D ca none (gRm mX4_addUpWorths (SH.length - SH.length) (gSz SH - gSz SH)) mX4_addUpWorths 34 [(0, gR 95), (1, gI (p : Int)), (2, gJ (woS (M 2) (M 5) (M 6) (M 91) (M 96) nv p)), (4, gI ((2 ^ p : Nat) : Int)), (5, gI (c : Int))] [] SH (gSet M 97 Z) [] SH (gSet M 97 (auO (fun p => woS (M 2) (M 5) (M 6) (M 91) (M 96) nv p) (M 97) np)) := by
        intro k
        induction k with
        | zero =>
          intro c Z hc hz
          have ec : c = 2 ^ p := by omega
          subst ec
          refine Go_iload 4 rfl dX4_addUpWorths_34 ?_
          refine Go_iload 3 rfl dX4_addUpWorths_36 ?_
          refine Go_icmp_ge dX4_addUpWorths_38 rfl (fun h38 => ?_) (fun h38 => ?_)
          · skip
            refine Go_iincn p 1 rfl rfl (by omega) 1 (ls' := [(1, gI _), (0, gR 95), (2, gJ _), (4, gI _), (5, gI _)]) rfl dX4_addUpWorths_66 (by decide) rfl ?_
            refine Go_goto dX4_addUpWorths_69 rfl ?_
            refine Go_pick [1, 0] (ls' := [(0, gR 95), (1, gI _)]) rfl ?_
            exact ih_9 (p + 1) _ (by omega) (by simp only [auO, hx, hz])
          · skip
            exact absurd h38 (by omega)
        | succ k ih_34 =>
          intro c Z hc hz
          refine Go_iload 4 rfl dX4_addUpWorths_34 ?_
          refine Go_iload 3 rfl dX4_addUpWorths_36 ?_
          refine Go_icmp_ge dX4_addUpWorths_38 rfl (fun h38 => ?_) (fun h38 => ?_)
          · skip
            exact absurd h38 (by omega)
          · skip
            refine Go_aload_n 0 rfl rfl dX4_addUpWorths_41 ?_
            refine Go_getR (c' := 97) faX4_15 sh_95 (pt_95_3 (M := M) hC.1) dX4_addUpWorths_42 ?_
            refine Go_iload 4 rfl dX4_addUpWorths_45 ?_
            refine Go_iload 3 rfl dX4_addUpWorths_47 ?_
            refine Go_ior dX4_addUpWorths_49 ?_
            refine Go_topI (v := ((c ||| 2 ^ p : Nat) : Int)) (r32n (by omega) (by omega)) ?_
            refine Go_aload_n 0 rfl rfl dX4_addUpWorths_50 ?_
            refine Go_getR (c' := 97) faX4_15 sh_95 (pt_95_3 (M := M) hC.1) dX4_addUpWorths_51 ?_
            refine Go_iload 4 rfl dX4_addUpWorths_54 ?_
            refine Go_laloadv c (v := Z (c)) rfl sh_97 rfl (by omega) dX4_addUpWorths_56 ?_
            refine Go_lload_n 2 rfl rfl dX4_addUpWorths_57 ?_
            refine Go_ladd dX4_addUpWorths_58 ?_
            refine Go_lastoreS (c ||| 2 ^ p) sh_97 rfl (or_lt (by omega) (by omega)) dX4_addUpWorths_59 ?_
            refine Go_iincn c 1 rfl rfl (by omega) 4 (ls' := [(5, gI _), (0, gR 95), (1, gI _), (2, gJ _), (4, gI _)]) rfl dX4_addUpWorths_60 (by decide) rfl ?_
            refine Go_goto dX4_addUpWorths_63 rfl ?_
            refine Go_pick [1, 2, 3, 4, 0] (ls' := [(0, gR 95), (1, gI _), (2, gJ _), (4, gI _), (5, gI _)]) rfl ?_
            exact ih_34 (c + 1) _ (by omega) (by simp only [auI, hz])
      refine Go_iload_n 1 rfl rfl dX4_addUpWorths_9 ?_
      refine Go_aload_n 0 rfl rfl dX4_addUpWorths_10 ?_
      refine Go_getR (c' := 1) faX4_26 sh_95 (pt_95_0 (M := M) hC.1) dX4_addUpWorths_11 ?_
      refine Go_getIv (v := (np : Int)) hC.2.2.2.1 faX4_67 sh_1 dX4_addUpWorths_14 ?_
      refine Go_icmp_ge dX4_addUpWorths_17 rfl (fun h17 => ?_) (fun h17 => ?_)
      · skip
        exact absurd h17 (by omega)
      · skip
        refine Go_aload_n 0 rfl rfl dX4_addUpWorths_20 ?_
        refine Go_iload_n 1 rfl rfl dX4_addUpWorths_21 ?_
        refine Go_callVJ (q := vwCl[4]) (fX4_worthOf (CS_row hC rfl) p (by omega)) cwX4_74 imX4_worthOf rfl rfl ⟨Nat.le_of_ble_eq_true rfl, Nat.le_of_ble_eq_true rfl⟩ sh_95 rfl (Nat.le_of_ble_eq_true rfl) sh_rf dX4_addUpWorths_22 ?_
        refine Go_topJ (v := woS (M 2) (M 5) (M 6) (M 91) (M 96) nv p) rfl ?_
        refine Go_lstore_n (ls' := [(2, gJ _), (0, gR 95), (1, gI _)]) rfl dX4_addUpWorths_25 (by decide) rfl ?_
        refine Go_iconst (by unfold in32; omega) dX4_addUpWorths_26 ?_
        refine Go_iload_n 2 rfl rfl dX4_addUpWorths_27 ?_
        refine Go_ishl dX4_addUpWorths_28 ?_
        refine Go_topI (v := ((2 ^ p : Nat) : Int)) (sh1 (by omega)) ?_
        refine Go_istore (ls' := [(4, gI _), (2, gJ _), (0, gR 95), (1, gI _)]) dX4_addUpWorths_29 (by decide) rfl ?_
        refine Go_iconst (by unfold in32; omega) dX4_addUpWorths_31 ?_
        refine Go_istore (ls' := [(5, gI _), (4, gI _), (2, gJ _), (0, gR 95), (1, gI _)]) dX4_addUpWorths_32 (by decide) rfl ?_
        refine Go_pick [3, 4, 2, 1, 0] (ls' := [(0, gR 95), (1, gI _), (2, gJ _), (4, gI _), (5, gI _)]) rfl ?_
        exact loop_34 (2 ^ p) 0 _ (by omega) rfl
  refine Go_aload_n 0 rfl rfl dX4_addUpWorths_0 ?_
  refine Go_getR (c' := 97) faX4_15 sh_95 (pt_95_3 (M := M) hC.1) dX4_addUpWorths_1 ?_
  refine Go_iconst (by unfold in32; omega) dX4_addUpWorths_4 ?_
  refine Go_lconst (v := 0) ⟨rfl, by unfold in64; omega⟩ dX4_addUpWorths_5 ?_
  refine Go_lastoreS 0 sh_97 rfl (by omega) dX4_addUpWorths_6 ?_
  refine Go_iconst (by unfold in32; omega) dX4_addUpWorths_7 ?_
  refine Go_istore_n (ls' := [(1, gI _), (0, gR 95)]) rfl dX4_addUpWorths_8 (by decide) rfl ?_
  refine Go_pick [1, 0] (ls' := [(0, gR 95), (1, gI _)]) rfl ?_
  exact loop_9 np 0 _ (by omega) rfl
theorem gPt_95 : ∀ q ∈ gPt, q.1 = 95 → q.2.1 < 4 := by decide +kernel
theorem CS_pu {M : gMem} {nv np : Nat} {f : Nat → Int} (hC : CS M nv np) (hf : ∀ j, j < 4 → f j = M 95 j) : CS (gSet M 95 f) nv np := CS_obj hC (by decide) (fun q hq e0 => hf _ (gPt_95 q hq e0))
set_option maxHeartbeats 4000000 in
set_option maxRecDepth 100000 in
theorem fX4_findTop {D : va_G} {ca : Nat → ClassId} {M : gMem} {nv np : Nat} (hC : CS M nv np) : Fn D ca mX4_findTop [gR 95] SH M [] SH (gSet (gSet M 97 (auO (fun p => woS (M 2) (M 5) (M 6) (M 91) (M 96) nv p) (M 97) np)) 95 (gUp (M 95) 4 (ftS (fun c => msB (M 90 2) (M 90 3) (M 1 2) (c : Int)) (auO (fun p => woS (M 2) (M 5) (M 6) (M 91) (M 96) nv p) (M 97) np) (2 ^ np)))) := by
  refine Fn_of okX4_findTop (Nat.le_of_ble_eq_true rfl) (Or.inl ⟨rfl, rfl⟩) (Nat.le_refl _) (Nat.le_refl _) ?_
  refine Go_ls2 (ls' := [(0, gR 95)]) rfl ?_
  have hv12 := hC.2.2.1
  have hn10 := hC.2.2.2.2
  have hpw := p10 hn10
  have loop_22 : ∀ (k : Nat) (c : Nat) (t : Int), c + k = 2 ^ np → ftS (fun c => msB (M 90 2) (M 90 3) (M 1 2) (c : Int)) (auO (fun p => woS (M 2) (M 5) (M 6) (M 91) (M 96) nv p) (M 97) np) c = t → Go D ca none (gRm mX4_findTop (SH.length - SH.length) (gSz SH - gSz SH)) mX4_findTop 22 [(0, gR 95), (1, gI ((2 ^ np : Nat) : Int)), (2, gI (c : Int))] [] SH (gSet (gSet M 97 (auO (fun p => woS (M 2) (M 5) (M 6) (M 91) (M 96) nv p) (M 97) np)) 95 (gUp (M 95) 4 t)) [] SH (gSet (gSet M 97 (auO (fun p => woS (M 2) (M 5) (M 6) (M 91) (M 96) nv p) (M 97) np)) 95 (gUp (M 95) 4 (ftS (fun c => msB (M 90 2) (M 90 3) (M 1 2) (c : Int)) (auO (fun p => woS (M 2) (M 5) (M 6) (M 91) (M 96) nv p) (M 97) np) (2 ^ np)))) := by
    intro k
    induction k with
    | zero =>
      intro c t he hx
      have ec : c = 2 ^ np := by omega
      subst ec
      refine Go_iload_n 2 rfl rfl dX4_findTop_22 ?_
      refine Go_iload_n 1 rfl rfl dX4_findTop_23 ?_
      refine Go_icmp_ge dX4_findTop_24 rfl (fun h24 => ?_) (fun h24 => ?_)
      · skip
        subst hx
        exact Go_ret rfl dX4_findTop_77
      · skip
        exact absurd h24 (by omega)
    | succ k ih_22 =>
      intro c t he hx
      refine Go_iload_n 2 rfl rfl dX4_findTop_22 ?_
      refine Go_iload_n 1 rfl rfl dX4_findTop_23 ?_
      refine Go_icmp_ge dX4_findTop_24 rfl (fun h24 => ?_) (fun h24 => ?_)
      · skip
        exact absurd h24 (by omega)
      · skip
        refine Go_aload_n 0 rfl rfl dX4_findTop_27 ?_
        refine Go_getR (c' := 90) faX4_30 sh_95 (pt_95_1 (M := M) hC.1) dX4_findTop_28 ?_
        refine Go_iload_n 2 rfl rfl dX4_findTop_31 ?_
        refine Go_callVI (q := vwCl[3]) (fX3_mayStand (CS_pu (f := gUp (M 95) 4 t) (CS_row (r := (auO (fun p => woS (M 2) (M 5) (M 6) (M 91) (M 96) nv p) (M 97) np)) hC rfl) (fun j hj => gUp_n (by omega))) (s := M 90 2) rfl (b := M 90 3) rfl (n := M 1 2) rfl _) cwX4_70 imX3_mayStand rfl rfl ⟨Nat.le_of_ble_eq_true rfl, Nat.le_of_ble_eq_true rfl⟩ sh_90 rfl (Nat.le_of_ble_eq_true rfl) sh_rf dX4_findTop_32 ?_
        refine Go_if_eq dX4_findTop_35 rfl (fun h35 => ?_) (fun h35 => ?_)
        · skip
          replace h35 := bI_0.mp h35
          refine Go_iincn c 1 rfl rfl (by omega) 2 (ls' := [(2, gI _), (0, gR 95), (1, gI _)]) rfl dX4_findTop_71 (by decide) rfl ?_
          refine Go_goto dX4_findTop_74 rfl ?_
          refine Go_pick [1, 2, 0] (ls' := [(0, gR 95), (1, gI _), (2, gI _)]) rfl ?_
          exact ih_22 (c + 1) _ (by omega) (by simp only [ftS, hx]; first | rw [if_neg (by exact fun q => h35 q.1)] | rw [if_pos (by exact ⟨h35, Or.inl h44⟩)] | rw [if_pos (by exact ⟨h35, Or.inr h63⟩)] | rw [if_neg (by exact fun q => q.2.elim h44 (fun z => absurd z (Int.not_lt.mpr h63)))])
        · skip
          replace h35 := bI_n.mp h35
          refine Go_aload_n 0 rfl rfl dX4_findTop_38 ?_
          refine Go_getIv (v := t) rfl faX4_18 sh_95 dX4_findTop_39 ?_
          refine Go_bipush ⟨by decide, by unfold in32; omega⟩ dX4_findTop_42 ?_
          refine Go_icmp_eq dX4_findTop_44 rfl (fun h44 => ?_) (fun h44 => ?_)
          · skip
            refine Go_aload_n 0 rfl rfl dX4_findTop_66 ?_
            refine Go_iload_n 2 rfl rfl dX4_findTop_67 ?_
            refine Go_putI fpX4_18 sh_95 dX4_findTop_68 ?_
            refine Go_M (M2 := gSet (gSet M 97 (auO (fun p => woS (M 2) (M 5) (M 6) (M 91) (M 96) nv p) (M 97) np)) 95 (gUp (M 95) 4 (c : Int))) (by rw [gSet_s, gSet_ss, gUp_uu]) ?_
            refine Go_iincn c 1 rfl rfl (by omega) 2 (ls' := [(2, gI _), (0, gR 95), (1, gI _)]) rfl dX4_findTop_71 (by decide) rfl ?_
            refine Go_goto dX4_findTop_74 rfl ?_
            refine Go_pick [1, 2, 0] (ls' := [(0, gR 95), (1, gI _), (2, gI _)]) rfl ?_
            exact ih_22 (c + 1) _ (by omega) (by simp only [ftS, hx]; first | rw [if_neg (by exact fun q => h35 q.1)] | rw [if_pos (by exact ⟨h35, Or.inl h44⟩)] | rw [if_pos (by exact ⟨h35, Or.inr h63⟩)] | rw [if_neg (by exact fun q => q.2.elim h44 (fun z => absurd z (Int.not_lt.mpr h63)))])
          · skip
            obtain ⟨n, hn, en⟩ := (ftS_nat (fun c => msB (M 90 2) (M 90 3) (M 1 2) (c : Int)) (auO (fun p => woS (M 2) (M 5) (M 6) (M 91) (M 96) nv p) (M 97) np) c).resolve_left (by rw [hx]; exact h44)
            rw [hx] at en
            subst en
            refine Go_aload_n 0 rfl rfl dX4_findTop_47 ?_
            refine Go_getR (c' := 97) faX4_15 sh_95 (pt_95_3 (M := M) hC.1) dX4_findTop_48 ?_
            refine Go_iload_n 2 rfl rfl dX4_findTop_51 ?_
            refine Go_laloadv c (v := (auO (fun p => woS (M 2) (M 5) (M 6) (M 91) (M 96) nv p) (M 97) np) (c)) rfl sh_97 rfl (by omega) dX4_findTop_52 ?_
            refine Go_aload_n 0 rfl rfl dX4_findTop_53 ?_
            refine Go_getR (c' := 97) faX4_15 sh_95 (pt_95_3 (M := M) hC.1) dX4_findTop_54 ?_
            refine Go_aload_n 0 rfl rfl dX4_findTop_57 ?_
            refine Go_getIv (v := ((n : Nat) : Int)) rfl faX4_18 sh_95 dX4_findTop_58 ?_
            refine Go_laloadv n (v := (auO (fun p => woS (M 2) (M 5) (M 6) (M 91) (M 96) nv p) (M 97) np) (n)) rfl sh_97 rfl (by omega) dX4_findTop_61 ?_
            refine Go_lcmp dX4_findTop_62 ?_
            refine Go_if_le dX4_findTop_63 rfl (fun h63 => ?_) (fun h63 => ?_)
            · skip
              replace h63 := cmp_le.mp h63
              refine Go_iincn c 1 rfl rfl (by omega) 2 (ls' := [(2, gI _), (0, gR 95), (1, gI _)]) rfl dX4_findTop_71 (by decide) rfl ?_
              refine Go_goto dX4_findTop_74 rfl ?_
              refine Go_pick [1, 2, 0] (ls' := [(0, gR 95), (1, gI _), (2, gI _)]) rfl ?_
              exact ih_22 (c + 1) _ (by omega) (by simp only [ftS, hx]; first | rw [if_neg (by exact fun q => h35 q.1)] | rw [if_pos (by exact ⟨h35, Or.inl h44⟩)] | rw [if_pos (by exact ⟨h35, Or.inr h63⟩)] | rw [if_neg (by exact fun q => q.2.elim h44 (fun z => absurd z (Int.not_lt.mpr h63)))])
            · skip
              replace h63 := cmp_gt.mp h63
              refine Go_aload_n 0 rfl rfl dX4_findTop_66 ?_
              refine Go_iload_n 2 rfl rfl dX4_findTop_67 ?_
              refine Go_putI fpX4_18 sh_95 dX4_findTop_68 ?_
              refine Go_M (M2 := gSet (gSet M 97 (auO (fun p => woS (M 2) (M 5) (M 6) (M 91) (M 96) nv p) (M 97) np)) 95 (gUp (M 95) 4 (c : Int))) (by rw [gSet_s, gSet_ss, gUp_uu]) ?_
              refine Go_iincn c 1 rfl rfl (by omega) 2 (ls' := [(2, gI _), (0, gR 95), (1, gI _)]) rfl dX4_findTop_71 (by decide) rfl ?_
              refine Go_goto dX4_findTop_74 rfl ?_
              refine Go_pick [1, 2, 0] (ls' := [(0, gR 95), (1, gI _), (2, gI _)]) rfl ?_
              exact ih_22 (c + 1) _ (by omega) (by simp only [ftS, hx]; first | rw [if_neg (by exact fun q => h35 q.1)] | rw [if_pos (by exact ⟨h35, Or.inl h44⟩)] | rw [if_pos (by exact ⟨h35, Or.inr h63⟩)] | rw [if_neg (by exact fun q => q.2.elim h44 (fun z => absurd z (Int.not_lt.mpr h63)))])
  refine Go_aload_n 0 rfl rfl dX4_findTop_0 ?_
  refine Go_callV0 (q := vwCl[4]) (fX4_addUpWorths hC) cwX4_64 imX4_addUpWorths rfl rfl ⟨Nat.le_of_ble_eq_true rfl, Nat.le_of_ble_eq_true rfl⟩ sh_95 rfl (Nat.le_of_ble_eq_true rfl) sh_rf dX4_findTop_1 ?_
  refine Go_aload_n 0 rfl rfl dX4_findTop_4 ?_
  refine Go_bipush ⟨by decide, by unfold in32; omega⟩ dX4_findTop_5 ?_
  refine Go_putI fpX4_18 sh_95 dX4_findTop_7 ?_
  refine Go_M (M2 := gSet (gSet M 97 (auO (fun p => woS (M 2) (M 5) (M 6) (M 91) (M 96) nv p) (M 97) np)) 95 (gUp (M 95) 4 (-4))) rfl ?_
  refine Go_iconst (by unfold in32; omega) dX4_findTop_10 ?_
  refine Go_aload_n 0 rfl rfl dX4_findTop_11 ?_
  refine Go_getR (c' := 1) faX4_26 sh_95 (pt_95_0 (M := M) hC.1) dX4_findTop_12 ?_
  refine Go_getIv (v := (np : Int)) hC.2.2.2.1 faX4_67 sh_1 dX4_findTop_15 ?_
  refine Go_ishl dX4_findTop_18 ?_
  refine Go_topI (v := ((2 ^ np : Nat) : Int)) (sh1 hn10) ?_
  refine Go_istore_n (ls' := [(1, gI _), (0, gR 95)]) rfl dX4_findTop_19 (by decide) rfl ?_
  refine Go_iconst (by unfold in32; omega) dX4_findTop_20 ?_
  refine Go_istore_n (ls' := [(2, gI _), (1, gI _), (0, gR 95)]) rfl dX4_findTop_21 (by decide) rfl ?_
  refine Go_pick [2, 1, 0] (ls' := [(0, gR 95), (1, gI _), (2, gI _)]) rfl ?_
  exact loop_22 (2 ^ np) 0 _ (by omega) rfl
set_option maxHeartbeats 4000000 in
set_option maxRecDepth 100000 in
theorem fX4_boundOfTop {D : va_G} {ca : Nat → ClassId} {M : gMem} {nv np : Nat} (hC : CS M nv np) (t : Int) (ht : M 95 4 = t) (htn : t = -4 ∨ ∃ n : Nat, n < 1024 ∧ t = (n : Int)) : Fn D ca mX4_boundOfTop [gR 95] SH M [gJ (btF t (M 97) (M 2) (M 96) nv)] SH (M) := by
  refine Fn_of okX4_boundOfTop (Nat.le_of_ble_eq_true rfl) (Or.inr (Or.inr (Or.inr ⟨_, rfl, rfl⟩))) (Nat.le_refl _) (Nat.le_refl _) ?_
  refine Go_ls2 (ls' := [(0, gR 95)]) rfl ?_
  have hv12 := hC.2.2.1
  have hn10 := hC.2.2.2.2
  have loop_26 : ∀ (k : Nat) (v : Nat) (x : Int), v + k = nv → boS (M 2) (M 96) (if t = -4 then 0 else w64 (- M 97 t.toNat)) v = x → Go D ca none (gRm mX4_boundOfTop (SH.length - SH.length) (gSz SH - gSz SH)) mX4_boundOfTop 26 [(0, gR 95), (1, gJ x), (3, gI (v : Int))] [] SH M [gJ (btF t (M 97) (M 2) (M 96) nv)] SH (M) := by
    intro k
    induction k with
    | zero =>
      intro v x he hx
      obtain rfl : nv = v := by omega
      refine Go_iload_n 2 rfl rfl dX4_boundOfTop_26 ?_
      refine Go_aload_n 0 rfl rfl dX4_boundOfTop_27 ?_
      refine Go_getR (c' := 1) faX4_26 sh_95 (pt_95_0 (M := M) hC.1) dX4_boundOfTop_28 ?_
      refine Go_getIv (v := (nv : Int)) hC.2.1 faX4_57 sh_1 dX4_boundOfTop_31 ?_
      refine Go_icmp_ge dX4_boundOfTop_34 rfl (fun h34 => ?_) (fun h34 => ?_)
      · skip
        refine Go_lload_n 1 rfl rfl dX4_boundOfTop_68 ?_
        exact Go_ret (by rw [← hx]; rfl) dX4_boundOfTop_69
      · skip
        exact absurd h34 (by omega)
    | succ k ih_26 =>
      intro v x he hx
      refine Go_iload_n 2 rfl rfl dX4_boundOfTop_26 ?_
      refine Go_aload_n 0 rfl rfl dX4_boundOfTop_27 ?_
      refine Go_getR (c' := 1) faX4_26 sh_95 (pt_95_0 (M := M) hC.1) dX4_boundOfTop_28 ?_
      refine Go_getIv (v := (nv : Int)) hC.2.1 faX4_57 sh_1 dX4_boundOfTop_31 ?_
      refine Go_icmp_ge dX4_boundOfTop_34 rfl (fun h34 => ?_) (fun h34 => ?_)
      · skip
        exact absurd h34 (by omega)
      · skip
        refine Go_lload_n 1 rfl rfl dX4_boundOfTop_37 ?_
        refine Go_aload_n 0 rfl rfl dX4_boundOfTop_38 ?_
        refine Go_getR (c' := 1) faX4_26 sh_95 (pt_95_0 (M := M) hC.1) dX4_boundOfTop_39 ?_
        refine Go_getR (c' := 2) faX4_40 sh_1 (pt_1_3 (M := M) hC.1) dX4_boundOfTop_42 ?_
        refine Go_iload_n 2 rfl rfl dX4_boundOfTop_45 ?_
        refine Go_ialoadv v (v := M 2 (v)) rfl sh_2 rfl (by omega) dX4_boundOfTop_46 ?_
        refine Go_if_le dX4_boundOfTop_47 rfl (fun h47 => ?_) (fun h47 => ?_)
        · skip
          refine Go_lconst (v := 0) ⟨rfl, by unfold in64; omega⟩ dX4_boundOfTop_59 ?_
          refine Go_ladd dX4_boundOfTop_60 ?_
          refine Go_lstore_n (ls' := [(1, gJ _), (0, gR 95), (3, gI _)]) rfl dX4_boundOfTop_61 (by decide) rfl ?_
          refine Go_iincn v 1 rfl rfl (by omega) 2 (ls' := [(3, gI _), (1, gJ _), (0, gR 95)]) rfl dX4_boundOfTop_62 (by decide) rfl ?_
          refine Go_goto dX4_boundOfTop_65 rfl ?_
          refine Go_pick [2, 1, 0] (ls' := [(0, gR 95), (1, gJ _), (3, gI _)]) rfl ?_
          exact ih_26 (v + 1) _ (by omega) (by simp only [boS, hx]; repeat (first | rw [if_pos (by omega)] | rw [if_neg (by omega)]))
        · skip
          refine Go_aload_n 0 rfl rfl dX4_boundOfTop_50 ?_
          refine Go_getR (c' := 96) faX4_9 sh_95 (pt_95_2 (M := M) hC.1) dX4_boundOfTop_51 ?_
          refine Go_iload_n 2 rfl rfl dX4_boundOfTop_54 ?_
          refine Go_laloadv v (v := M 96 (v)) rfl sh_96 rfl (by omega) dX4_boundOfTop_55 ?_
          refine Go_goto dX4_boundOfTop_56 rfl ?_
          refine Go_ladd dX4_boundOfTop_60 ?_
          refine Go_lstore_n (ls' := [(1, gJ _), (0, gR 95), (3, gI _)]) rfl dX4_boundOfTop_61 (by decide) rfl ?_
          refine Go_iincn v 1 rfl rfl (by omega) 2 (ls' := [(3, gI _), (1, gJ _), (0, gR 95)]) rfl dX4_boundOfTop_62 (by decide) rfl ?_
          refine Go_goto dX4_boundOfTop_65 rfl ?_
          refine Go_pick [2, 1, 0] (ls' := [(0, gR 95), (1, gJ _), (3, gI _)]) rfl ?_
          exact ih_26 (v + 1) _ (by omega) (by simp only [boS, hx]; repeat (first | rw [if_pos (by omega)] | rw [if_neg (by omega)]))
  refine Go_aload_n 0 rfl rfl dX4_boundOfTop_0 ?_
  refine Go_getIv (v := t) ht faX4_18 sh_95 dX4_boundOfTop_1 ?_
  refine Go_bipush ⟨by decide, by unfold in32; omega⟩ dX4_boundOfTop_4 ?_
  refine Go_icmp_ne dX4_boundOfTop_6 rfl (fun h6 => ?_) (fun h6 => ?_)
  · skip
    obtain ⟨n, hn, rfl⟩ := htn.resolve_left h6
    refine Go_aload_n 0 rfl rfl dX4_boundOfTop_13 ?_
    refine Go_getR (c' := 97) faX4_15 sh_95 (pt_95_3 (M := M) hC.1) dX4_boundOfTop_14 ?_
    refine Go_aload_n 0 rfl rfl dX4_boundOfTop_17 ?_
    refine Go_getIv (v := ((n : Nat) : Int)) ht faX4_18 sh_95 dX4_boundOfTop_18 ?_
    refine Go_laloadv n (v := M 97 (n)) rfl sh_97 rfl (by omega) dX4_boundOfTop_21 ?_
    refine Go_lneg dX4_boundOfTop_22 ?_
    refine Go_lstore_n (ls' := [(1, gJ _), (0, gR 95)]) rfl dX4_boundOfTop_23 (by decide) rfl ?_
    refine Go_iconst (by unfold in32; omega) dX4_boundOfTop_24 ?_
    refine Go_istore_n (ls' := [(3, gI _), (1, gJ _), (0, gR 95)]) rfl dX4_boundOfTop_25 (by decide) rfl ?_
    refine Go_pick [2, 1, 0] (ls' := [(0, gR 95), (1, gJ _), (3, gI _)]) rfl ?_
    exact loop_26 nv 0 _ (by omega) (by simp only [boS]; first | rw [if_pos (by exact h6)] | (rw [if_neg (by exact h6)]; rfl))
  · skip
    refine Go_lconst (v := 0) ⟨rfl, by unfold in64; omega⟩ dX4_boundOfTop_9 ?_
    refine Go_goto dX4_boundOfTop_10 rfl ?_
    refine Go_lstore_n (ls' := [(1, gJ _), (0, gR 95)]) rfl dX4_boundOfTop_23 (by decide) rfl ?_
    refine Go_iconst (by unfold in32; omega) dX4_boundOfTop_24 ?_
    refine Go_istore_n (ls' := [(3, gI _), (1, gJ _), (0, gR 95)]) rfl dX4_boundOfTop_25 (by decide) rfl ?_
    refine Go_pick [2, 1, 0] (ls' := [(0, gR 95), (1, gJ _), (3, gI _)]) rfl ?_
    exact loop_26 nv 0 _ (by omega) (by simp only [boS]; first | rw [if_pos (by exact h6)] | (rw [if_neg (by exact h6)]; rfl))
set_option maxHeartbeats 4000000 in
set_option maxRecDepth 100000 in
theorem fX4_giversOfTop {D : va_G} {ca : Nat → ClassId} {M : gMem} {nv np : Nat} (hC : CS M nv np) (t : Nat) (ht : M 95 4 = (t : Int)) (ht2 : t < 1024) (v : Nat) (hv : v < 12) : Fn D ca mX4_giversOfTop [gR 95, gI (v : Int)] SH M [gI (gvS (M 2) (M 91) (M 96) t v np)] SH (M) := by
  refine Fn_of okX4_giversOfTop (Nat.le_of_ble_eq_true rfl) (Or.inr (Or.inl ⟨_, rfl, rfl⟩)) (Nat.le_refl _) (Nat.le_refl _) ?_
  refine Go_ls2 (ls' := [(0, gR 95), (1, gI _)]) rfl ?_
  have hv12 := hC.2.2.1
  have hn10 := hC.2.2.2.2
  have loop_4 : ∀ (k : Nat) (p : Nat) (x : Int), p + k = np → gvS (M 2) (M 91) (M 96) t v p = x → Go D ca none (gRm mX4_giversOfTop (SH.length - SH.length) (gSz SH - gSz SH)) mX4_giversOfTop 4 [(0, gR 95), (1, gI (v : Int)), (2, gI x), (3, gI (p : Int))] [] SH M [gI (gvS (M 2) (M 91) (M 96) t v np)] SH (M) := by
    intro k
    induction k with
    | zero =>
      intro p x he hx
      obtain rfl : np = p := by omega
      refine Go_iload_n 3 rfl rfl dX4_giversOfTop_4 ?_
      refine Go_aload_n 0 rfl rfl dX4_giversOfTop_5 ?_
      refine Go_getR (c' := 1) faX4_26 sh_95 (pt_95_0 (M := M) hC.1) dX4_giversOfTop_6 ?_
      refine Go_getIv (v := (np : Int)) hC.2.2.2.1 faX4_67 sh_1 dX4_giversOfTop_9 ?_
      refine Go_icmp_ge dX4_giversOfTop_12 rfl (fun h12 => ?_) (fun h12 => ?_)
      · skip
        refine Go_iload_n 2 rfl rfl dX4_giversOfTop_51 ?_
        exact Go_ret (by rw [← hx]) dX4_giversOfTop_52
      · skip
        exact absurd h12 (by omega)
    | succ k ih_4 =>
      intro p x he hx
      refine Go_iload_n 3 rfl rfl dX4_giversOfTop_4 ?_
      refine Go_aload_n 0 rfl rfl dX4_giversOfTop_5 ?_
      refine Go_getR (c' := 1) faX4_26 sh_95 (pt_95_0 (M := M) hC.1) dX4_giversOfTop_6 ?_
      refine Go_getIv (v := (np : Int)) hC.2.2.2.1 faX4_67 sh_1 dX4_giversOfTop_9 ?_
      refine Go_icmp_ge dX4_giversOfTop_12 rfl (fun h12 => ?_) (fun h12 => ?_)
      · skip
        exact absurd h12 (by omega)
      · skip
        refine Go_iload_n 2 rfl rfl dX4_giversOfTop_15 ?_
        refine Go_aload_n 0 rfl rfl dX4_giversOfTop_16 ?_
        refine Go_getIv (v := (t : Int)) ht faX4_18 sh_95 dX4_giversOfTop_17 ?_
        refine Go_iload_n 3 rfl rfl dX4_giversOfTop_20 ?_
        refine Go_callSNI (fX8_isIn t p (by omega) (by omega)) cnX4_100 smX8_isIn ⟨Nat.le_of_ble_eq_true rfl, Nat.le_of_ble_eq_true rfl⟩ rfl (Nat.le_of_ble_eq_true rfl) sh_rf dX4_giversOfTop_21 ?_
        refine Go_if_eq dX4_giversOfTop_24 rfl (fun h24 => ?_) (fun h24 => ?_)
        · skip
          replace h24 := bI_0.mp h24
          refine Go_iconst (by unfold in32; omega) dX4_giversOfTop_42 ?_
          refine Go_iadd dX4_giversOfTop_43 ?_
          refine Go_istore_n (ls' := [(2, gI _), (0, gR 95), (1, gI _), (3, gI _)]) rfl dX4_giversOfTop_44 (by decide) rfl ?_
          refine Go_iincn p 1 rfl rfl (by omega) 3 (ls' := [(3, gI _), (2, gI _), (0, gR 95), (1, gI _)]) rfl dX4_giversOfTop_45 (by decide) rfl ?_
          refine Go_goto dX4_giversOfTop_48 rfl ?_
          refine Go_pick [2, 3, 1, 0] (ls' := [(0, gR 95), (1, gI _), (2, gI _), (3, gI _)]) rfl ?_
          exact ih_4 (p + 1) _ (by omega) (by simp only [gvS, hx]; first | rw [if_pos (by exact ⟨h24, h35⟩)] | rw [if_neg (by exact fun q => h24 q.1)] | rw [if_neg (by exact fun q => absurd q.2 (Int.not_lt.mpr h35))])
        · skip
          replace h24 := bI_n.mp h24
          refine Go_aload_n 0 rfl rfl dX4_giversOfTop_27 ?_
          refine Go_iload_n 3 rfl rfl dX4_giversOfTop_28 ?_
          refine Go_iload_n 1 rfl rfl dX4_giversOfTop_29 ?_
          refine Go_callVJ (q := vwCl[4]) (fX4_giftOf hC p v (by omega) (by omega)) cwX4_60 imX4_giftOf rfl rfl ⟨Nat.le_of_ble_eq_true rfl, Nat.le_of_ble_eq_true rfl⟩ sh_95 rfl (Nat.le_of_ble_eq_true rfl) sh_rf dX4_giversOfTop_30 ?_
          refine Go_lconst (v := 0) ⟨rfl, by unfold in64; omega⟩ dX4_giversOfTop_33 ?_
          refine Go_lcmp dX4_giversOfTop_34 ?_
          refine Go_if_le dX4_giversOfTop_35 rfl (fun h35 => ?_) (fun h35 => ?_)
          · skip
            replace h35 := cmp_le.mp h35
            refine Go_iconst (by unfold in32; omega) dX4_giversOfTop_42 ?_
            refine Go_iadd dX4_giversOfTop_43 ?_
            refine Go_istore_n (ls' := [(2, gI _), (0, gR 95), (1, gI _), (3, gI _)]) rfl dX4_giversOfTop_44 (by decide) rfl ?_
            refine Go_iincn p 1 rfl rfl (by omega) 3 (ls' := [(3, gI _), (2, gI _), (0, gR 95), (1, gI _)]) rfl dX4_giversOfTop_45 (by decide) rfl ?_
            refine Go_goto dX4_giversOfTop_48 rfl ?_
            refine Go_pick [2, 3, 1, 0] (ls' := [(0, gR 95), (1, gI _), (2, gI _), (3, gI _)]) rfl ?_
            exact ih_4 (p + 1) _ (by omega) (by simp only [gvS, hx]; first | rw [if_pos (by exact ⟨h24, h35⟩)] | rw [if_neg (by exact fun q => h24 q.1)] | rw [if_neg (by exact fun q => absurd q.2 (Int.not_lt.mpr h35))])
          · skip
            replace h35 := cmp_gt.mp h35
            refine Go_iconst (by unfold in32; omega) dX4_giversOfTop_38 ?_
            refine Go_goto dX4_giversOfTop_39 rfl ?_
            refine Go_iadd dX4_giversOfTop_43 ?_
            refine Go_istore_n (ls' := [(2, gI _), (0, gR 95), (1, gI _), (3, gI _)]) rfl dX4_giversOfTop_44 (by decide) rfl ?_
            refine Go_iincn p 1 rfl rfl (by omega) 3 (ls' := [(3, gI _), (2, gI _), (0, gR 95), (1, gI _)]) rfl dX4_giversOfTop_45 (by decide) rfl ?_
            refine Go_goto dX4_giversOfTop_48 rfl ?_
            refine Go_pick [2, 3, 1, 0] (ls' := [(0, gR 95), (1, gI _), (2, gI _), (3, gI _)]) rfl ?_
            exact ih_4 (p + 1) _ (by omega) (by simp only [gvS, hx]; first | rw [if_pos (by exact ⟨h24, h35⟩)] | rw [if_neg (by exact fun q => h24 q.1)] | rw [if_neg (by exact fun q => absurd q.2 (Int.not_lt.mpr h35))])
  refine Go_iconst (by unfold in32; omega) dX4_giversOfTop_0 ?_
  refine Go_istore_n (ls' := [(2, gI _), (0, gR 95), (1, gI _)]) rfl dX4_giversOfTop_1 (by decide) rfl ?_
  refine Go_iconst (by unfold in32; omega) dX4_giversOfTop_2 ?_
  refine Go_istore_n (ls' := [(3, gI _), (2, gI _), (0, gR 95), (1, gI _)]) rfl dX4_giversOfTop_3 (by decide) rfl ?_
  refine Go_pick [2, 3, 1, 0] (ls' := [(0, gR 95), (1, gI _), (2, gI _), (3, gI _)]) rfl ?_
  exact loop_4 np 0 _ (by omega) rfl
set_option maxHeartbeats 4000000 in
set_option maxRecDepth 100000 in
theorem fX4_movedPrice {D : va_G} {ca : Nat → ClassId} {M : gMem} (x g s : Int) : Fn D ca mX4_movedPrice [gJ x, gI g, gI s] SH M [gJ (mpF x g s)] SH (M) := by
  refine Fn_of okX4_movedPrice (Nat.le_of_ble_eq_true rfl) (Or.inr (Or.inr (Or.inr ⟨_, rfl, rfl⟩))) (Nat.le_refl _) (Nat.le_refl _) ?_
  refine Go_ls2 (ls' := [(0, gJ _), (2, gI _), (3, gI _)]) rfl ?_
  refine Go_iload_n 1 rfl rfl dX4_movedPrice_0 ?_
  refine Go_if_ne dX4_movedPrice_1 rfl (fun h1 => ?_) (fun h1 => ?_)
  · skip
    refine Go_iload_n 1 rfl rfl dX4_movedPrice_15 ?_
    refine Go_iconst (by unfold in32; omega) dX4_movedPrice_16 ?_
    refine Go_icmp_ne dX4_movedPrice_17 rfl (fun h17 => ?_) (fun h17 => ?_)
    · skip
      refine Go_lload_n 0 rfl rfl dX4_movedPrice_24 ?_
      refine Go_iload_n 2 rfl rfl dX4_movedPrice_25 ?_
      refine Go_i2l dX4_movedPrice_26 ?_
      refine Go_lsub dX4_movedPrice_27 ?_
      refine Go_lconst (v := 0) ⟨rfl, by unfold in64; omega⟩ dX4_movedPrice_28 ?_
      refine Go_mmaxJ cwX4_47 ⟨Nat.le_of_ble_eq_true rfl, Nat.le_of_ble_eq_true rfl⟩ ⟨Nat.le_refl _, Nat.le_refl _⟩ dX4_movedPrice_29 ?_
      exact Go_ret (by unfold mpF; first | rw [if_pos (by exact h1)] | rw [if_neg (by exact h1), if_pos (by exact h17)] | rw [if_neg (by exact h1), if_neg (by exact h17)]) dX4_movedPrice_32
    · skip
      refine Go_lload_n 0 rfl rfl dX4_movedPrice_20 ?_
      refine Go_goto dX4_movedPrice_21 rfl ?_
      exact Go_ret (by unfold mpF; first | rw [if_pos (by exact h1)] | rw [if_neg (by exact h1), if_pos (by exact h17)] | rw [if_neg (by exact h1), if_neg (by exact h17)]) dX4_movedPrice_32
  · skip
    refine Go_lload_n 0 rfl rfl dX4_movedPrice_4 ?_
    refine Go_iload_n 2 rfl rfl dX4_movedPrice_5 ?_
    refine Go_i2l dX4_movedPrice_6 ?_
    refine Go_ladd dX4_movedPrice_7 ?_
    refine Go_ldc2 klX4_95 (by unfold in64; omega) dX4_movedPrice_8 ?_
    refine Go_mminJ cwX4_97 ⟨Nat.le_of_ble_eq_true rfl, Nat.le_of_ble_eq_true rfl⟩ ⟨Nat.le_refl _, Nat.le_refl _⟩ dX4_movedPrice_11 ?_
    exact Go_ret (by unfold mpF; first | rw [if_pos (by exact h1)] | rw [if_neg (by exact h1), if_pos (by exact h17)] | rw [if_neg (by exact h1), if_neg (by exact h17)]) dX4_movedPrice_14
set_option maxHeartbeats 4000000 in
set_option maxRecDepth 100000 in
theorem fX4_movePrices {D : va_G} {ca : Nat → ClassId} {M : gMem} {nv np : Nat} (hC : CS M nv np) (t : Nat) (ht : M 95 4 = (t : Int)) (ht2 : t < 1024) (s : Int) (P0 : Nat → Int) : Fn D ca mX4_movePrices [gR 95, gI s] SH (gSet M 96 P0) [gI (mvP (M 2) (M 91) t np s P0 nv).1] SH (gSet M 96 (mvP (M 2) (M 91) t np s P0 nv).2) := by
  refine Fn_of okX4_movePrices (Nat.le_of_ble_eq_true rfl) (Or.inr (Or.inl ⟨_, rfl, rfl⟩)) (Nat.le_refl _) (Nat.le_refl _) ?_
  refine Go_ls2 (ls' := [(0, gR 95), (1, gI _)]) rfl ?_
  have hv12 := hC.2.2.1
  have hn10 := hC.2.2.2.2
  have loop_4 : ∀ (k : Nat) (v : Nat) (x : Int) (P : Nat → Int), v + k = nv → mvP (M 2) (M 91) t np s P0 v = (x, P) → Go D ca none (gRm mX4_movePrices (SH.length - SH.length) (gSz SH - gSz SH)) mX4_movePrices 4 [(0, gR 95), (1, gI s), (2, gI x), (3, gI (v : Int))] [] SH (gSet M 96 P) [gI (mvP (M 2) (M 91) t np s P0 nv).1] SH (gSet M 96 (mvP (M 2) (M 91) t np s P0 nv).2) := by
    intro k
    induction k with
    | zero =>
      intro v x P he hx
      obtain rfl : nv = v := by omega
      refine Go_iload_n 3 rfl rfl dX4_movePrices_4 ?_
      refine Go_aload_n 0 rfl rfl dX4_movePrices_5 ?_
      refine Go_getR (c' := 1) faX4_26 sh_95 (pt_95_0 (M := M) hC.1) dX4_movePrices_6 ?_
      refine Go_getIv (v := (nv : Int)) hC.2.1 faX4_57 sh_1 dX4_movePrices_9 ?_
      refine Go_icmp_ge dX4_movePrices_12 rfl (fun h12 => ?_) (fun h12 => ?_)
      · skip
        refine Go_iload_n 2 rfl rfl dX4_movePrices_78 ?_
        rw [hx]
        exact Go_ret rfl dX4_movePrices_79
      · skip
        exact absurd h12 (by omega)
    | succ k ih_4 =>
      intro v x P he hx
      refine Go_iload_n 3 rfl rfl dX4_movePrices_4 ?_
      refine Go_aload_n 0 rfl rfl dX4_movePrices_5 ?_
      refine Go_getR (c' := 1) faX4_26 sh_95 (pt_95_0 (M := M) hC.1) dX4_movePrices_6 ?_
      refine Go_getIv (v := (nv : Int)) hC.2.1 faX4_57 sh_1 dX4_movePrices_9 ?_
      refine Go_icmp_ge dX4_movePrices_12 rfl (fun h12 => ?_) (fun h12 => ?_)
      · skip
        exact absurd h12 (by omega)
      · skip
        refine Go_aload_n 0 rfl rfl dX4_movePrices_15 ?_
        refine Go_getR (c' := 1) faX4_26 sh_95 (pt_95_0 (M := M) hC.1) dX4_movePrices_16 ?_
        refine Go_getR (c' := 2) faX4_40 sh_1 (pt_1_3 (M := M) hC.1) dX4_movePrices_19 ?_
        refine Go_iload_n 3 rfl rfl dX4_movePrices_22 ?_
        refine Go_ialoadv v (v := M 2 (v)) rfl sh_2 rfl (by omega) dX4_movePrices_23 ?_
        refine Go_if_le dX4_movePrices_24 rfl (fun h24 => ?_) (fun h24 => ?_)
        · skip
          refine Go_iincn v 1 rfl rfl (by omega) 3 (ls' := [(3, gI _), (0, gR 95), (1, gI _), (2, gI _)]) rfl dX4_movePrices_72 (by decide) rfl ?_
          refine Go_goto dX4_movePrices_75 rfl ?_
          refine Go_pick [1, 2, 3, 0] (ls' := [(0, gR 95), (1, gI _), (2, gI _), (3, gI _)]) rfl ?_
          exact ih_4 (v + 1) _ _ (by omega) (by simp only [mvP, hx]; first | rw [if_neg (by exact Int.not_lt.mpr h24)] | rw [if_pos (by exact h24), if_neg (by exact fun q => q h62)] | rw [if_pos (by exact h24), if_pos (by exact h62)])
        · skip
          refine Go_aload_n 0 rfl rfl dX4_movePrices_27 ?_
          refine Go_getR (c' := 96) faX4_9 sh_95 (pt_95_2 (M := M) hC.1) dX4_movePrices_28 ?_
          refine Go_iload_n 3 rfl rfl dX4_movePrices_31 ?_
          refine Go_laloadv v (v := P (v)) rfl sh_96 rfl (by omega) dX4_movePrices_32 ?_
          refine Go_lstore (ls' := [(4, gJ _), (0, gR 95), (1, gI _), (2, gI _), (3, gI _)]) dX4_movePrices_33 (by decide) rfl ?_
          refine Go_aload_n 1 rfl rfl dX4_movePrices_35 ?_
          refine Go_getR (c' := 96) faX4_9 sh_95 (pt_95_2 (M := M) hC.1) dX4_movePrices_36 ?_
          refine Go_iload_n 4 rfl rfl dX4_movePrices_39 ?_
          refine Go_lload 0 rfl dX4_movePrices_40 ?_
          refine Go_aload_n 1 rfl rfl dX4_movePrices_42 ?_
          refine Go_iload_n 4 rfl rfl dX4_movePrices_43 ?_
          refine Go_callVI (q := vwCl[4]) (fX4_giversOfTop (CS_row (i := 96) (r := P) hC rfl) t ht ht2 v (by omega)) cwX4_88 imX4_giversOfTop rfl rfl ⟨Nat.le_of_ble_eq_true rfl, Nat.le_of_ble_eq_true rfl⟩ sh_95 rfl (Nat.le_of_ble_eq_true rfl) sh_rf dX4_movePrices_44 ?_
          refine Go_topI (v := gvS (M 2) (M 91) P t v np) rfl ?_
          refine Go_iload_n 2 rfl rfl dX4_movePrices_47 ?_
          refine Go_callSJ (fX4_movedPrice _ _ _) cwX4_91 smX4_movedPrice ⟨Nat.le_of_ble_eq_true rfl, Nat.le_of_ble_eq_true rfl⟩ rfl (Nat.le_of_ble_eq_true rfl) sh_rf dX4_movePrices_48 ?_
          refine Go_lastoreS v sh_96 rfl (by omega) dX4_movePrices_51 ?_
          refine Go_iload_n 3 rfl rfl dX4_movePrices_52 ?_
          refine Go_aload_n 1 rfl rfl dX4_movePrices_53 ?_
          refine Go_getR (c' := 96) faX4_9 sh_95 (pt_95_2 (M := M) hC.1) dX4_movePrices_54 ?_
          refine Go_iload_n 4 rfl rfl dX4_movePrices_57 ?_
          refine Go_laloadv v (v := (mpF (P v) (gvS (M 2) (M 91) P t v np) s)) (gUp_s P v _) sh_96 rfl (by omega) dX4_movePrices_58 ?_
          refine Go_lload 0 rfl dX4_movePrices_59 ?_
          refine Go_lcmp dX4_movePrices_61 ?_
          refine Go_if_eq dX4_movePrices_62 rfl (fun h62 => ?_) (fun h62 => ?_)
          · skip
            replace h62 := cmp_eq.mp h62
            refine Go_iconst (by unfold in32; omega) dX4_movePrices_69 ?_
            refine Go_iadd dX4_movePrices_70 ?_
            refine Go_istore_n (ls' := [(2, gI _), (4, gJ _), (0, gR 95), (1, gI _), (3, gI _)]) rfl dX4_movePrices_71 (by decide) rfl ?_
            refine Go_iincn v 1 rfl rfl (by omega) 4 (ls' := [(3, gI _), (2, gI _), (4, gJ _), (0, gR 95), (1, gI _)]) rfl dX4_movePrices_72 (by decide) rfl ?_
            refine Go_goto dX4_movePrices_75 rfl ?_
            refine Go_pick [3, 4, 1, 0] (ls' := [(0, gR 95), (1, gI _), (2, gI _), (3, gI _)]) rfl ?_
            exact ih_4 (v + 1) _ _ (by omega) (by simp only [mvP, hx]; first | rw [if_neg (by exact Int.not_lt.mpr h24)] | rw [if_pos (by exact h24), if_neg (by exact fun q => q h62)] | rw [if_pos (by exact h24), if_pos (by exact h62)])
          · skip
            replace h62 := cmp_ne.mp h62
            refine Go_iconst (by unfold in32; omega) dX4_movePrices_65 ?_
            refine Go_goto dX4_movePrices_66 rfl ?_
            refine Go_iadd dX4_movePrices_70 ?_
            refine Go_istore_n (ls' := [(2, gI _), (4, gJ _), (0, gR 95), (1, gI _), (3, gI _)]) rfl dX4_movePrices_71 (by decide) rfl ?_
            refine Go_iincn v 1 rfl rfl (by omega) 4 (ls' := [(3, gI _), (2, gI _), (4, gJ _), (0, gR 95), (1, gI _)]) rfl dX4_movePrices_72 (by decide) rfl ?_
            refine Go_goto dX4_movePrices_75 rfl ?_
            refine Go_pick [3, 4, 1, 0] (ls' := [(0, gR 95), (1, gI _), (2, gI _), (3, gI _)]) rfl ?_
            exact ih_4 (v + 1) _ _ (by omega) (by simp only [mvP, hx]; first | rw [if_neg (by exact Int.not_lt.mpr h24)] | rw [if_pos (by exact h24), if_neg (by exact fun q => q h62)] | rw [if_pos (by exact h24), if_pos (by exact h62)])
  refine Go_iconst (by unfold in32; omega) dX4_movePrices_0 ?_
  refine Go_istore_n (ls' := [(2, gI _), (0, gR 95), (1, gI _)]) rfl dX4_movePrices_1 (by decide) rfl ?_
  refine Go_iconst (by unfold in32; omega) dX4_movePrices_2 ?_
  refine Go_istore_n (ls' := [(3, gI _), (2, gI _), (0, gR 95), (1, gI _)]) rfl dX4_movePrices_3 (by decide) rfl ?_
  refine Go_pick [2, 3, 1, 0] (ls' := [(0, gR 95), (1, gI _), (2, gI _), (3, gI _)]) rfl ?_
  exact loop_4 nv 0 _ _ (by omega) rfl
def cbM (M : gMem) (P Y : Nat → Int) (t h : Int) : gMem := gSet (gSet (gSet M 96 P) 97 Y) 95 (gUp (gUp (M 95) 4 t) 5 h)
theorem cb_96 (M : gMem) (P Y : Nat → Int) (t h : Int) : cbM M P Y t h = gSet (gSet (gSet M 97 Y) 95 (gUp (gUp (M 95) 4 t) 5 h)) 96 P := by
  unfold cbM
  rw [gSet_cm (i := 96) (j := 97) (by decide), gSet_cm (i := 96) (j := 95) (by decide)]
theorem cb_0 {M : gMem} {t h : Int} (ht : M 95 4 = t) : gSet M 95 (gUp (M 95) 5 h) = cbM M (M 96) (M 97) t h := by
  unfold cbM
  rw [gSet_id, gSet_id, ← ht, gUp_id]
theorem cb_t (M : gMem) (P Y Z : Nat → Int) (t h z : Int) : gSet (gSet (cbM M P Y t h) 97 Z) 95 (gUp (cbM M P Y t h 95) 4 z) = cbM M P Z z h := by
  have e1 : cbM M P Y t h 95 = gUp (gUp (M 95) 4 t) 5 h := rfl
  rw [e1, gUp_cm (i := 5) (j := 4) (by decide), gUp_uu]
  unfold cbM
  rw [gSet_cm (i := 95) (j := 97) (by decide), gSet_ss, gSet_ss]
theorem cb_h (M : gMem) (P Y : Nat → Int) (t h z : Int) : gSet (cbM M P Y t h) 95 (gUp (cbM M P Y t h 95) 5 z) = cbM M P Y t z := by
  have e1 : cbM M P Y t h 95 = gUp (gUp (M 95) 4 t) 5 h := rfl
  rw [e1, gUp_uu]
  unfold cbM
  rw [gSet_ss]
theorem CS_cb {M : gMem} {nv np : Nat} (hC : CS M nv np) (P Y : Nat → Int) (t h : Int) : CS (cbM M P Y t h) nv np := CS_pu (CS_row (CS_row hC rfl) rfl) (fun j hj => by rw [gUp_n (by omega), gUp_n (by omega)]; rfl)
theorem CS_cn {M : gMem} {nv np : Nat} (hC : CS M nv np) (Y : Nat → Int) (t h : Int) : CS (gSet (gSet M 97 Y) 95 (gUp (gUp (M 95) 4 t) 5 h)) nv np := CS_pu (CS_row hC rfl) (fun j hj => by rw [gUp_n (by omega), gUp_n (by omega)]; rfl)
theorem ftS_some {ok : Nat → Bool} {Y : Nat → Int} {n : Nat} (h : ∃ c, c < n ∧ ok c = true) : ∃ t : Nat, t < n ∧ ftS ok Y n = (t : Int) := by
  rcases ftS_nat ok Y n with h1 | h1
  · exfalso
    obtain ⟨c, hc, hk⟩ := h
    have : ∀ m, c < m → ftS ok Y m ≠ -4 := by
      intro m hm
      induction m with
      | zero => omega
      | succ m ih =>
        simp only [ftS]
        split
        · omega
        · rename_i h2
          by_cases e0 : c = m
          · subst e0
            intro h3
            exact h2 ⟨hk, Or.inl h3⟩
          · exact ih (by omega)
    exact this n hc h1
  · exact h1
abbrev cbT : Type := Int × (Nat → Int) × (Nat → Int) × Nat × Int
def cbN (ok : Nat → Bool) (B K U car : Nat → Int) (nv np : Nat) (s : Int) (z : cbT) : cbT :=
  let mv := mvP B car z.2.2.2.1 np s z.2.1 nv
  let Y := auO (fun p => woS B K U car mv.2 nv p) z.2.2.1 np
  let t := (ftS ok Y (2 ^ np)).toNat
  (w32 (z.1 + mv.1), mv.2, Y, t, max z.2.2.2.2 (btF (t : Int) Y B mv.2 nv))
def cbS (ok : Nat → Bool) (B K U car : Nat → Int) (nv np : Nat) (s : Int) (z : cbT) : Nat → cbT
  | 0 => z
  | i + 1 => cbN ok B K U car nv np s (cbS ok B K U car nv np s z i)
set_option maxHeartbeats 4000000 in
set_option maxRecDepth 100000 in
theorem fX4_climbFromTop {D : va_G} {ca : Nat → ClassId} {M : gMem} {nv np : Nat} (hC : CS M nv np) (t0 : Nat) (ht : M 95 4 = (t0 : Int)) (ht2 : t0 < 1024) (hok : ∃ c : Nat, c < 2 ^ np ∧ msB (M 90 2) (M 90 3) (M 1 2) (c : Int) = true) (n : Nat) (hn : n ≤ 100) (s : Int) : Fn D ca mX4_climbFromTop [gR 95, gI (n : Int), gI s] SH M [gI (cbS (fun c => msB (M 90 2) (M 90 3) (M 1 2) (c : Int)) (M 2) (M 5) (M 6) (M 91) nv np s (0, M 96, M 97, t0, btF (t0 : Int) (M 97) (M 2) (M 96) nv) n).1] SH (cbM M (cbS (fun c => msB (M 90 2) (M 90 3) (M 1 2) (c : Int)) (M 2) (M 5) (M 6) (M 91) nv np s (0, M 96, M 97, t0, btF (t0 : Int) (M 97) (M 2) (M 96) nv) n).2.1 (cbS (fun c => msB (M 90 2) (M 90 3) (M 1 2) (c : Int)) (M 2) (M 5) (M 6) (M 91) nv np s (0, M 96, M 97, t0, btF (t0 : Int) (M 97) (M 2) (M 96) nv) n).2.2.1 ((cbS (fun c => msB (M 90 2) (M 90 3) (M 1 2) (c : Int)) (M 2) (M 5) (M 6) (M 91) nv np s (0, M 96, M 97, t0, btF (t0 : Int) (M 97) (M 2) (M 96) nv) n).2.2.2.1 : Int) (cbS (fun c => msB (M 90 2) (M 90 3) (M 1 2) (c : Int)) (M 2) (M 5) (M 6) (M 91) nv np s (0, M 96, M 97, t0, btF (t0 : Int) (M 97) (M 2) (M 96) nv) n).2.2.2.2) := by
  refine Fn_of okX4_climbFromTop (Nat.le_of_ble_eq_true rfl) (Or.inr (Or.inl ⟨_, rfl, rfl⟩)) (Nat.le_refl _) (Nat.le_refl _) ?_
  refine Go_ls2 (ls' := [(0, gR 95), (1, gI _), (2, gI _)]) rfl ?_
  have hv12 := hC.2.2.1
  have hn10 := hC.2.2.2.2
  have hpw := p10 hn10
  have loop_13 : ∀ (k : Nat) (i : Nat) (x : Int) (P Y : Nat → Int) (t : Nat) (h : Int), i + k = n → cbS (fun c => msB (M 90 2) (M 90 3) (M 1 2) (c : Int)) (M 2) (M 5) (M 6) (M 91) nv np s (0, M 96, M 97, t0, btF (t0 : Int) (M 97) (M 2) (M 96) nv) i = (x, P, Y, t, h) → t < 1024 → Go D ca none (gRm mX4_climbFromTop (SH.length - SH.length) (gSz SH - gSz SH)) mX4_climbFromTop 13 [(0, gR 95), (1, gI (n : Int)), (2, gI s), (3, gI x), (4, gI (i : Int))] [] SH (cbM M P Y (t : Int) h) [gI (cbS (fun c => msB (M 90 2) (M 90 3) (M 1 2) (c : Int)) (M 2) (M 5) (M 6) (M 91) nv np s (0, M 96, M 97, t0, btF (t0 : Int) (M 97) (M 2) (M 96) nv) n).1] SH (cbM M (cbS (fun c => msB (M 90 2) (M 90 3) (M 1 2) (c : Int)) (M 2) (M 5) (M 6) (M 91) nv np s (0, M 96, M 97, t0, btF (t0 : Int) (M 97) (M 2) (M 96) nv) n).2.1 (cbS (fun c => msB (M 90 2) (M 90 3) (M 1 2) (c : Int)) (M 2) (M 5) (M 6) (M 91) nv np s (0, M 96, M 97, t0, btF (t0 : Int) (M 97) (M 2) (M 96) nv) n).2.2.1 ((cbS (fun c => msB (M 90 2) (M 90 3) (M 1 2) (c : Int)) (M 2) (M 5) (M 6) (M 91) nv np s (0, M 96, M 97, t0, btF (t0 : Int) (M 97) (M 2) (M 96) nv) n).2.2.2.1 : Int) (cbS (fun c => msB (M 90 2) (M 90 3) (M 1 2) (c : Int)) (M 2) (M 5) (M 6) (M 91) nv np s (0, M 96, M 97, t0, btF (t0 : Int) (M 97) (M 2) (M 96) nv) n).2.2.2.2) := by
    intro k
    induction k with
    | zero =>
      intro i x P Y t h he hx hlt
      obtain rfl : n = i := by omega
      refine Go_iload 4 rfl dX4_climbFromTop_13 ?_
      refine Go_iload_n 1 rfl rfl dX4_climbFromTop_15 ?_
      refine Go_icmp_ge dX4_climbFromTop_16 rfl (fun h16 => ?_) (fun h16 => ?_)
      · skip
        refine Go_iload_n 3 rfl rfl dX4_climbFromTop_52 ?_
        rw [hx]
        exact Go_ret rfl dX4_climbFromTop_53
      · skip
        exact absurd h16 (by omega)
    | succ k ih_13 =>
      intro i x P Y t h he hx hlt
      refine Go_iload 4 rfl dX4_climbFromTop_13 ?_
      refine Go_iload_n 1 rfl rfl dX4_climbFromTop_15 ?_
      refine Go_icmp_ge dX4_climbFromTop_16 rfl (fun h16 => ?_) (fun h16 => ?_)
      · skip
        exact absurd h16 (by omega)
      · skip
        refine Go_iload_n 3 rfl rfl dX4_climbFromTop_19 ?_
        refine Go_aload_n 0 rfl rfl dX4_climbFromTop_20 ?_
        refine Go_iload_n 2 rfl rfl dX4_climbFromTop_21 ?_
        refine Go_M (M2 := gSet (gSet (gSet M 97 Y) 95 (gUp (gUp (M 95) 4 (t : Int)) 5 h)) 96 P) (cb_96 _ _ _ _ _) ?_
        refine Go_callVI (q := vwCl[4]) (fX4_movePrices (CS_cn hC Y (t : Int) h) t rfl hlt s P) cwX4_82 imX4_movePrices rfl rfl ⟨Nat.le_of_ble_eq_true rfl, Nat.le_of_ble_eq_true rfl⟩ sh_95 rfl (Nat.le_of_ble_eq_true rfl) sh_rf dX4_climbFromTop_22 ?_
        refine Go_topI (v := (mvP (M 2) (M 91) t np s P nv).1) rfl ?_
        refine Go_M (M2 := cbM M (mvP (M 2) (M 91) t np s P nv).2 Y (t : Int) h) (cb_96 _ _ _ _ _).symm ?_
        refine Go_iadd dX4_climbFromTop_25 ?_
        refine Go_istore_n (ls' := [(3, gI _), (0, gR 95), (1, gI _), (2, gI _), (4, gI _)]) rfl dX4_climbFromTop_26 (by decide) rfl ?_
        refine Go_aload_n 1 rfl rfl dX4_climbFromTop_27 ?_
        refine Go_callV0 (q := vwCl[4]) (fX4_findTop (CS_cb hC (mvP (M 2) (M 91) t np s P nv).2 Y (t : Int) h)) cwX4_85 imX4_findTop rfl rfl ⟨Nat.le_of_ble_eq_true rfl, Nat.le_of_ble_eq_true rfl⟩ sh_95 rfl (Nat.le_of_ble_eq_true rfl) sh_rf dX4_climbFromTop_28 ?_
        refine Go_M (M2 := cbM M (mvP (M 2) (M 91) t np s P nv).2 (auO (fun p => woS (M 2) (M 5) (M 6) (M 91) (mvP (M 2) (M 91) t np s P nv).2 nv p) Y np) (ftS (fun c => msB (M 90 2) (M 90 3) (M 1 2) (c : Int)) (auO (fun p => woS (M 2) (M 5) (M 6) (M 91) (mvP (M 2) (M 91) t np s P nv).2 nv p) Y np) (2 ^ np)) h) (cb_t _ _ _ _ _ _ _) ?_
        obtain ⟨t2, ht3, et⟩ := ftS_some (ok := (fun c => msB (M 90 2) (M 90 3) (M 1 2) (c : Int))) (Y := (auO (fun p => woS (M 2) (M 5) (M 6) (M 91) (mvP (M 2) (M 91) t np s P nv).2 nv p) Y np)) hok
        rw [et]
        refine Go_aload_n 1 rfl rfl dX4_climbFromTop_31 ?_
        refine Go_aload_n 1 rfl rfl dX4_climbFromTop_32 ?_
        refine Go_getJv (v := h) rfl faX4_22 sh_95 dX4_climbFromTop_33 ?_
        refine Go_aload_n 1 rfl rfl dX4_climbFromTop_36 ?_
        refine Go_callVJ (q := vwCl[4]) (fX4_boundOfTop (CS_cb hC (mvP (M 2) (M 91) t np s P nv).2 (auO (fun p => woS (M 2) (M 5) (M 6) (M 91) (mvP (M 2) (M 91) t np s P nv).2 nv p) Y np) (t2 : Int) h) (t2 : Int) rfl (Or.inr ⟨t2, by omega, rfl⟩)) cwX4_78 imX4_boundOfTop rfl rfl ⟨Nat.le_of_ble_eq_true rfl, Nat.le_of_ble_eq_true rfl⟩ sh_95 rfl (Nat.le_of_ble_eq_true rfl) sh_rf dX4_climbFromTop_37 ?_
        refine Go_topJ (v := btF (t2 : Int) (auO (fun p => woS (M 2) (M 5) (M 6) (M 91) (mvP (M 2) (M 91) t np s P nv).2 nv p) Y np) (M 2) (mvP (M 2) (M 91) t np s P nv).2 nv) rfl ?_
        refine Go_mmaxJ cwX4_47 ⟨Nat.le_of_ble_eq_true rfl, Nat.le_of_ble_eq_true rfl⟩ ⟨Nat.le_refl _, Nat.le_refl _⟩ dX4_climbFromTop_40 ?_
        refine Go_putJ fpX4_22 sh_95 dX4_climbFromTop_43 ?_
        refine Go_M (M2 := cbM M (mvP (M 2) (M 91) t np s P nv).2 (auO (fun p => woS (M 2) (M 5) (M 6) (M 91) (mvP (M 2) (M 91) t np s P nv).2 nv p) Y np) (t2 : Int) (max h (btF (t2 : Int) (auO (fun p => woS (M 2) (M 5) (M 6) (M 91) (mvP (M 2) (M 91) t np s P nv).2 nv p) Y np) (M 2) (mvP (M 2) (M 91) t np s P nv).2 nv))) (cb_h _ _ _ _ _ _) ?_
        refine Go_iincn i 1 rfl rfl (by omega) 4 (ls' := [(4, gI _), (3, gI _), (0, gR 95), (1, gI _), (2, gI _)]) rfl dX4_climbFromTop_46 (by decide) rfl ?_
        refine Go_goto dX4_climbFromTop_49 rfl ?_
        refine Go_pick [2, 3, 4, 1, 0] (ls' := [(0, gR 95), (1, gI _), (2, gI _), (3, gI _), (4, gI _)]) rfl ?_
        exact ih_13 (i + 1) _ _ _ _ _ (by omega) (by simp only [cbS, hx, cbN, et, Int.toNat_natCast]) (by omega)
  refine Go_iconst (by unfold in32; omega) dX4_climbFromTop_0 ?_
  refine Go_istore_n (ls' := [(3, gI _), (0, gR 95), (1, gI _), (2, gI _)]) rfl dX4_climbFromTop_1 (by decide) rfl ?_
  refine Go_aload_n 1 rfl rfl dX4_climbFromTop_2 ?_
  refine Go_aload_n 1 rfl rfl dX4_climbFromTop_3 ?_
  refine Go_callVJ (q := vwCl[4]) (fX4_boundOfTop hC (t0 : Int) ht (Or.inr ⟨t0, ht2, rfl⟩)) cwX4_78 imX4_boundOfTop rfl rfl ⟨Nat.le_of_ble_eq_true rfl, Nat.le_of_ble_eq_true rfl⟩ sh_95 rfl (Nat.le_of_ble_eq_true rfl) sh_rf dX4_climbFromTop_4 ?_
  refine Go_putJ fpX4_22 sh_95 dX4_climbFromTop_7 ?_
  refine Go_M (M2 := cbM M (M 96) (M 97) (t0 : Int) (btF (t0 : Int) (M 97) (M 2) (M 96) nv)) (cb_0 ht) ?_
  refine Go_iconst (by unfold in32; omega) dX4_climbFromTop_10 ?_
  refine Go_istore (ls' := [(4, gI _), (3, gI _), (0, gR 95), (1, gI _), (2, gI _)]) dX4_climbFromTop_11 (by decide) rfl ?_
  refine Go_pick [2, 3, 4, 1, 0] (ls' := [(0, gR 95), (1, gI _), (2, gI _), (3, gI _), (4, gI _)]) rfl ?_
  exact loop_13 n 0 _ _ _ _ _ (by omega) rfl ht2
