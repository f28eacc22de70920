def rdI (L : Nat → Int) (a : Nat) (x : Int) : Nat → Int
  | 0 => x
  | b + 1 => w32 (rdI L a x b + if 0 < L (a * 12 + b) then 1 else 0)
def rdO (L : Nat → Int) : Nat → Int
  | 0 => 0
  | a + 1 => rdI L a (rdO L a) a
def cpr (n : Nat) (f g : Nat → Int) : Nat → Int := fun j => if j < n then f j else g j
/-- a valley is copied from the cells from s on to those from d on -/
def cpV (M : gMem) (d s : Nat) : gMem := gSet (gSet (gSet (gSet (gSet (gSet (gSet M d (gUp (gUp (gUp (M d) 0 (M s 0)) 1 (M s 1)) 2 (M s 2))) (d + 1) (cpr 12 (M (s + 1)) (M (d + 1)))) (d + 2) (cpr 144 (M (s + 2)) (M (d + 2)))) (d + 3) (cpr 10 (M (s + 3)) (M (d + 3)))) (d + 4) (cpr 10 (M (s + 4)) (M (d + 4)))) (d + 5) (cpr 10 (M (s + 5)) (M (d + 5)))) (d + 6) (cpr 10 (M (s + 6)) (M (d + 6)))
def likeV (M : gMem) (d s : Nat) : Prop := M d 0 = M s 0 ∧ M d 1 = M s 1 ∧ M d 2 = M s 2 ∧ (∀ j, j < 12 → M (d + 1) j = M (s + 1) j) ∧ (∀ j, j < 144 → M (d + 2) j = M (s + 2) j) ∧ (∀ j, j < 10 → M (d + 6) j = M (s + 6) j)
def eqR (n : Nat) (f g : Nat → Int) : Bool := (List.range n).all (fun j => decide (f j = g j))
theorem eqR_iff {n : Nat} {f g : Nat → Int} : eqR n f g = true ↔ ∀ j, j < n → f j = g j := by
  unfold eqR
  simp only [List.all_eq_true, List.mem_range, decide_eq_true_eq]
def likeB (M : gMem) (d s : Nat) : Bool := decide (M d 0 = M s 0) && (decide (M d 1 = M s 1) && (decide (M d 2 = M s 2) && (eqR 12 (M (d + 1)) (M (s + 1)) && (eqR 144 (M (d + 2)) (M (s + 2)) && eqR 10 (M (d + 6)) (M (s + 6))))))
theorem Go_copyv {D : va_G} {ca : Nat → ClassId} {sc : gScr} {R : Room} {m : gMd} {pc : Nat} {ls : gLs} {st : List gAV} {sh sh' : gShp} {M M' : gMem} {rv : List gAV} {a b idx n : Nat} {x : Int} (f g : Nat → Int) (hf : M a = f) (hg : M b = g) (ol : Cond.methodLink (gOwn m) idx arraycopyName ∈ gTb ∧ Cond.native arraycopyName ∈ gTb ∧ Cond.static arraycopyName ∈ gTb ∧ Cond.initialized "java/lang/System" ∈ gTb) (ha : sh[a]? = some (1, n)) (hb : sh[b]? = some (1, n)) (hx : x = (n : Int)) (hR : 1 ≤ R.frames ∧ gWd st + (nativeFrameWords "java/lang/System" "arraycopy" 5 + 11) ≤ R.locals) (hd : decode (gCode m) pc = .ok (.invokestatic idx, 3))
    (k : Go D ca sc R m (pc + 3) ls st sh (gSet M b (cpr n f g)) rv sh' M') : Go D ca sc R m pc ls (gI x :: gI 0 :: gR b :: gI 0 :: gR a :: st) sh M rv sh' M' := by
  subst hf; subst hg
  exact Go_copy ol ha hb hx hR hd k
theorem likeB_iff {M : gMem} {d s : Nat} : likeB M d s = true ↔ likeV M d s := by
  unfold likeB likeV
  simp only [Bool.and_eq_true, decide_eq_true_eq, eqR_iff]
theorem likeB_t {M : gMem} {d s : Nat} (h : likeV M d s) : likeB M d s = true := likeB_iff.mpr h
theorem likeB_f {M : gMem} {d s : Nat} (h : ¬ likeV M d s) : ¬ likeB M d s = true := fun q => h (likeB_iff.mp q)
set_option maxHeartbeats 4000000 in
set_option maxRecDepth 100000 in
theorem fX6_roads {D : va_G} {ca : Nat → ClassId} {M : gMem} {nv np : Nat} (hC : CS M nv np) : Fn D ca mX6_roads [gR 1] SH M [gI (rdO (M 3) nv)] SH (M) := by
  refine Fn_of okX6_roads (Nat.le_of_ble_eq_true rfl) (Or.inr (Or.inl ⟨_, rfl, rfl⟩)) (Nat.le_refl _) (Nat.le_refl _) ?_
  refine Go_ls2 (ls' := [(0, gR 1)]) rfl ?_
  have hv12 := hC.2.2.1
  have hn10 := hC.2.2.2.2
  have loop_4 : ∀ (k : Nat) (a : Nat) (x : Int), a + k = nv → rdO (M 3) a = x → Go D ca none (gRm mX6_roads (SH.length - SH.length) (gSz SH - gSz SH)) mX6_roads 4 [(0, gR 1), (1, gI x), (2, gI (a : Int))] [] SH M [gI (rdO (M 3) nv)] SH (M) := by
    intro k
    induction k with
    | zero =>
      intro a x ha hx
      obtain rfl : nv = a := by omega
      refine Go_iload_n 2 rfl rfl dX6_roads_4 ?_
      refine Go_aload_n 0 rfl rfl dX6_roads_5 ?_
      refine Go_getIv (v := (nv : Int)) hC.2.1 faX6_9 sh_1 dX6_roads_6 ?_
      refine Go_icmp_ge dX6_roads_9 rfl (fun h9 => ?_) (fun h9 => ?_)
      · skip
        refine Go_iload_n 1 rfl rfl dX6_roads_48 ?_
        exact Go_ret (by rw [← hx]) dX6_roads_49
      · skip
        exact absurd h9 (by omega)
    | succ k ih_4 =>
      intro a x ha hx
      have loop_14 : ∀ (k : Nat) (b : Nat) (y : Int), b + k = a → rdI (M 3) a x b = y → Go D ca none (gRm mX6_roads (SH.length - SH.length) (gSz SH - gSz SH)) mX6_roads 14 [(0, gR 1), (1, gI y), (2, gI (a : Int)), (3, gI (b : Int))] [] SH M [gI (rdO (M 3) nv)] SH (M) := by
        intro k
        induction k with
        | zero =>
          intro b y hb hy
          obtain rfl : a = b := by omega
          refine Go_iload_n 3 rfl rfl dX6_roads_14 ?_
          refine Go_iload_n 2 rfl rfl dX6_roads_15 ?_
          refine Go_icmp_ge dX6_roads_16 rfl (fun h16 => ?_) (fun h16 => ?_)
          · skip
            refine Go_iincn a 1 rfl rfl (by omega) 2 (ls' := [(2, gI _), (0, gR 1), (1, gI _), (3, gI _)]) rfl dX6_roads_42 (by decide) rfl ?_
            refine Go_goto dX6_roads_45 rfl ?_
            refine Go_pick [1, 2, 0] (ls' := [(0, gR 1), (1, gI _), (2, gI _)]) rfl ?_
            exact ih_4 (a + 1) _ (by omega) (by simp only [rdO, hx, hy])
          · skip
            exact absurd h16 (by omega)
        | succ k ih_14 =>
          intro b y hb hy
          refine Go_iload_n 3 rfl rfl dX6_roads_14 ?_
          refine Go_iload_n 2 rfl rfl dX6_roads_15 ?_
          refine Go_icmp_ge dX6_roads_16 rfl (fun h16 => ?_) (fun h16 => ?_)
          · skip
            exact absurd h16 (by omega)
          · skip
            refine Go_iload_n 1 rfl rfl dX6_roads_19 ?_
            refine Go_aload_n 0 rfl rfl dX6_roads_20 ?_
            refine Go_iload_n 2 rfl rfl dX6_roads_21 ?_
            refine Go_iload_n 3 rfl rfl dX6_roads_22 ?_
            refine Go_callVI (q := vwCl[6]) (fX6_lengthOf hC.1 a b (by omega) (by omega) (v := M 3 (a * 12 + b)) rfl) cwX6_50 imX6_lengthOf rfl rfl ⟨Nat.le_of_ble_eq_true rfl, Nat.le_of_ble_eq_true rfl⟩ sh_1 rfl (Nat.le_of_ble_eq_true rfl) sh_rf dX6_roads_23 ?_
            refine Go_if_le dX6_roads_26 rfl (fun h26 => ?_) (fun h26 => ?_)
            · skip
              refine Go_iconst (by unfold in32; omega) dX6_roads_33 ?_
              refine Go_iadd dX6_roads_34 ?_
              refine Go_istore_n (ls' := [(1, gI _), (0, gR 1), (2, gI _), (3, gI _)]) rfl dX6_roads_35 (by decide) rfl ?_
              refine Go_iincn b 1 rfl rfl (by omega) 3 (ls' := [(3, gI _), (1, gI _), (0, gR 1), (2, gI _)]) rfl dX6_roads_36 (by decide) rfl ?_
              refine Go_goto dX6_roads_39 rfl ?_
              refine Go_pick [2, 1, 3, 0] (ls' := [(0, gR 1), (1, gI _), (2, gI _), (3, gI _)]) rfl ?_
              exact ih_14 (b + 1) _ (by omega) (by simp only [rdI, hy]; repeat (first | rw [if_pos (by omega)] | rw [if_neg (by omega)]))
            · skip
              refine Go_iconst (by unfold in32; omega) dX6_roads_29 ?_
              refine Go_goto dX6_roads_30 rfl ?_
              refine Go_iadd dX6_roads_34 ?_
              refine Go_istore_n (ls' := [(1, gI _), (0, gR 1), (2, gI _), (3, gI _)]) rfl dX6_roads_35 (by decide) rfl ?_
              refine Go_iincn b 1 rfl rfl (by omega) 3 (ls' := [(3, gI _), (1, gI _), (0, gR 1), (2, gI _)]) rfl dX6_roads_36 (by decide) rfl ?_
              refine Go_goto dX6_roads_39 rfl ?_
              refine Go_pick [2, 1, 3, 0] (ls' := [(0, gR 1), (1, gI _), (2, gI _), (3, gI _)]) rfl ?_
              exact ih_14 (b + 1) _ (by omega) (by simp only [rdI, hy]; repeat (first | rw [if_pos (by omega)] | rw [if_neg (by omega)]))
      refine Go_iload_n 2 rfl rfl dX6_roads_4 ?_
      refine Go_aload_n 0 rfl rfl dX6_roads_5 ?_
      refine Go_getIv (v := (nv : Int)) hC.2.1 faX6_9 sh_1 dX6_roads_6 ?_
      refine Go_icmp_ge dX6_roads_9 rfl (fun h9 => ?_) (fun h9 => ?_)
      · skip
        exact absurd h9 (by omega)
      · skip
        refine Go_iconst (by unfold in32; omega) dX6_roads_12 ?_
        refine Go_istore_n (ls' := [(3, gI _), (0, gR 1), (1, gI _), (2, gI _)]) rfl dX6_roads_13 (by decide) rfl ?_
        refine Go_pick [1, 2, 3, 0] (ls' := [(0, gR 1), (1, gI _), (2, gI _), (3, gI _)]) rfl ?_
        exact loop_14 a 0 _ (by omega) rfl
  refine Go_iconst (by unfold in32; omega) dX6_roads_0 ?_
  refine Go_istore_n (ls' := [(1, gI _), (0, gR 1)]) rfl dX6_roads_1 (by decide) rfl ?_
  refine Go_iconst (by unfold in32; omega) dX6_roads_2 ?_
  refine Go_istore_n (ls' := [(2, gI _), (1, gI _), (0, gR 1)]) rfl dX6_roads_3 (by decide) rfl ?_
  refine Go_pick [2, 1, 0] (ls' := [(0, gR 1), (1, gI _), (2, gI _)]) rfl ?_
  exact loop_4 nv 0 _ (by omega) rfl
set_option maxHeartbeats 4000000 in
set_option maxRecDepth 100000 in
theorem fX6_settle {D : va_G} {ca : Nat → ClassId} {M : gMem} {nv np : Nat} (hC : CS M nv np) (h12 : nv < 12) (x : Int) : Fn D ca mX6_settle [gR 1, gI x] SH M [gI (nv : Int)] SH (gSet (gSet M 2 (gUp (M 2) nv x)) 1 (gUp (M 1) 0 ((nv + 1 : Nat) : Int))) := by
  refine Fn_of okX6_settle (Nat.le_of_ble_eq_true rfl) (Or.inr (Or.inl ⟨_, rfl, rfl⟩)) (Nat.le_refl _) (Nat.le_refl _) ?_
  refine Go_ls2 (ls' := [(0, gR 1), (1, gI _)]) rfl ?_
  refine Go_aload_n 0 rfl rfl dX6_settle_0 ?_
  refine Go_getR (c' := 2) faX6_21 sh_1 (pt_1_3 (M := M) hC.1) dX6_settle_1 ?_
  refine Go_aload_n 0 rfl rfl dX6_settle_4 ?_
  refine Go_getIv (v := (nv : Int)) hC.2.1 faX6_9 sh_1 dX6_settle_5 ?_
  refine Go_iload_n 1 rfl rfl dX6_settle_8 ?_
  refine Go_iastore nv sh_2 rfl (by omega) dX6_settle_9 ?_
  refine Go_aload_n 0 rfl rfl dX6_settle_10 ?_
  refine Go_dupR dX6_settle_11 ?_
  refine Go_getIv (v := (nv : Int)) hC.2.1 faX6_9 sh_1 dX6_settle_12 ?_
  refine Go_iconst (by unfold in32; omega) dX6_settle_15 ?_
  refine Go_iaddn nv 1 rfl rfl (by omega) dX6_settle_16 ?_
  refine Go_putI fpX6_9 sh_1 dX6_settle_17 ?_
  refine Go_aload_n 0 rfl rfl dX6_settle_20 ?_
  refine Go_getIv (v := ((nv + 1 : Nat) : Int)) rfl faX6_9 sh_1 dX6_settle_21 ?_
  refine Go_iconst (by unfold in32; omega) dX6_settle_24 ?_
  refine Go_isubn (nv + 1) 1 rfl rfl (by omega) dX6_settle_25 ?_
  exact Go_ret rfl dX6_settle_26
set_option maxHeartbeats 4000000 in
set_option maxRecDepth 100000 in
theorem fX6_stake {D : va_G} {ca : Nat → ClassId} {M : gMem} {nv np : Nat} (hC : CS M nv np) (h10 : np < 10) (x y z : Int) : Fn D ca mX6_stake [gR 1, gI x, gI y, gI z] SH M [gI (np : Int)] SH (gSet (gSet (gSet (gSet (gSet M 4 (gUp (M 4) np x)) 5 (gUp (M 5) np y)) 6 (gUp (M 6) np z)) 7 (gUp (M 7) np 20)) 1 (gUp (M 1) 1 ((np + 1 : Nat) : Int))) := by
  refine Fn_of okX6_stake (Nat.le_of_ble_eq_true rfl) (Or.inr (Or.inl ⟨_, rfl, rfl⟩)) (Nat.le_refl _) (Nat.le_refl _) ?_
  refine Go_ls2 (ls' := [(0, gR 1), (1, gI _), (2, gI _), (3, gI _)]) rfl ?_
  refine Go_aload_n 0 rfl rfl dX6_stake_0 ?_
  refine Go_getR (c' := 4) faX6_28 sh_1 (pt_1_5 (M := M) hC.1) dX6_stake_1 ?_
  refine Go_aload_n 0 rfl rfl dX6_stake_4 ?_
  refine Go_getIv (v := (np : Int)) hC.2.2.2.1 faX6_15 sh_1 dX6_stake_5 ?_
  refine Go_iload_n 1 rfl rfl dX6_stake_8 ?_
  refine Go_iastore np sh_4 rfl (by omega) dX6_stake_9 ?_
  refine Go_aload_n 0 rfl rfl dX6_stake_10 ?_
  refine Go_getR (c' := 5) faX6_31 sh_1 (pt_1_6 (M := M) hC.1) dX6_stake_11 ?_
  refine Go_aload_n 0 rfl rfl dX6_stake_14 ?_
  refine Go_getIv (v := (np : Int)) hC.2.2.2.1 faX6_15 sh_1 dX6_stake_15 ?_
  refine Go_iload_n 2 rfl rfl dX6_stake_18 ?_
  refine Go_iastore np sh_5 rfl (by omega) dX6_stake_19 ?_
  refine Go_aload_n 0 rfl rfl dX6_stake_20 ?_
  refine Go_getR (c' := 6) faX6_34 sh_1 (pt_1_7 (M := M) hC.1) dX6_stake_21 ?_
  refine Go_aload_n 0 rfl rfl dX6_stake_24 ?_
  refine Go_getIv (v := (np : Int)) hC.2.2.2.1 faX6_15 sh_1 dX6_stake_25 ?_
  refine Go_iload_n 3 rfl rfl dX6_stake_28 ?_
  refine Go_iastore np sh_6 rfl (by omega) dX6_stake_29 ?_
  refine Go_aload_n 0 rfl rfl dX6_stake_30 ?_
  refine Go_getR (c' := 7) faX6_37 sh_1 (pt_1_8 (M := M) hC.1) dX6_stake_31 ?_
  refine Go_aload_n 0 rfl rfl dX6_stake_34 ?_
  refine Go_getIv (v := (np : Int)) hC.2.2.2.1 faX6_15 sh_1 dX6_stake_35 ?_
  refine Go_bipush ⟨by decide, by unfold in32; omega⟩ dX6_stake_38 ?_
  refine Go_iastore np sh_7 rfl (by omega) dX6_stake_40 ?_
  refine Go_aload_n 0 rfl rfl dX6_stake_41 ?_
  refine Go_dupR dX6_stake_42 ?_
  refine Go_getIv (v := (np : Int)) hC.2.2.2.1 faX6_15 sh_1 dX6_stake_43 ?_
  refine Go_iconst (by unfold in32; omega) dX6_stake_46 ?_
  refine Go_iaddn np 1 rfl rfl (by omega) dX6_stake_47 ?_
  refine Go_putI fpX6_15 sh_1 dX6_stake_48 ?_
  refine Go_aload_n 0 rfl rfl dX6_stake_51 ?_
  refine Go_getIv (v := ((np + 1 : Nat) : Int)) rfl faX6_15 sh_1 dX6_stake_52 ?_
  refine Go_iconst (by unfold in32; omega) dX6_stake_55 ?_
  refine Go_isubn (np + 1) 1 rfl rfl (by omega) dX6_stake_56 ?_
  exact Go_ret rfl dX6_stake_57
set_option maxHeartbeats 4000000 in
set_option maxRecDepth 100000 in
theorem fX6_pave {D : va_G} {ca : Nat → ClassId} {M : gMem} (hp : gPtr M) (L : Nat → Int) (a b : Nat) (ha : a < 12) (hb : b < 12) (z : Int) : Fn D ca mX6_pave [gR 1, gI (a : Int), gI (b : Int), gI z] SH (gSet M 3 L) [] SH (gSet M 3 (gUp (gUp L (a * 12 + b) z) (b * 12 + a) z)) := by
  refine Fn_of okX6_pave (Nat.le_of_ble_eq_true rfl) (Or.inl ⟨rfl, rfl⟩) (Nat.le_refl _) (Nat.le_refl _) ?_
  refine Go_ls2 (ls' := [(0, gR 1), (1, gI _), (2, gI _), (3, gI _)]) rfl ?_
  refine Go_aload_n 0 rfl rfl dX6_pave_0 ?_
  refine Go_getR (c' := 3) faX6_25 sh_1 (pt_1_4 (M := M) hp) dX6_pave_1 ?_
  refine Go_iload_n 1 rfl rfl dX6_pave_4 ?_
  refine Go_bipush ⟨by decide, by unfold in32; omega⟩ dX6_pave_5 ?_
  refine Go_imuln a 12 rfl rfl (by omega) dX6_pave_7 ?_
  refine Go_iload_n 2 rfl rfl dX6_pave_8 ?_
  refine Go_iaddn (a * 12) b rfl rfl (by omega) dX6_pave_9 ?_
  refine Go_iload_n 3 rfl rfl dX6_pave_10 ?_
  refine Go_iastoreS ((a * 12) + b) sh_3 rfl (by omega) dX6_pave_11 ?_
  refine Go_aload_n 0 rfl rfl dX6_pave_12 ?_
  refine Go_getR (c' := 3) faX6_25 sh_1 (pt_1_4 (M := M) hp) dX6_pave_13 ?_
  refine Go_iload_n 2 rfl rfl dX6_pave_16 ?_
  refine Go_bipush ⟨by decide, by unfold in32; omega⟩ dX6_pave_17 ?_
  refine Go_imuln b 12 rfl rfl (by omega) dX6_pave_19 ?_
  refine Go_iload_n 1 rfl rfl dX6_pave_20 ?_
  refine Go_iaddn (b * 12) a rfl rfl (by omega) dX6_pave_21 ?_
  refine Go_iload_n 3 rfl rfl dX6_pave_22 ?_
  refine Go_iastoreS ((b * 12) + a) sh_3 rfl (by omega) dX6_pave_23 ?_
  exact Go_ret rfl dX6_pave_24
set_option maxHeartbeats 4000000 in
set_option maxRecDepth 100000 in
theorem fX6_sameRows {D : va_G} {ca : Nat → ClassId} {M : gMem} (a b n : Nat) (ha : SH[a]? = some (1, n)) (hb : SH[b]? = some (1, n)) (hn : n < 2147483648) : Fn D ca mX6_sameRows [gR a, gR b] SH M [gI (bI (eqR n (M a) (M b) = true))] SH (M) := by
  refine Fn_of okX6_sameRows (Nat.le_of_ble_eq_true rfl) (Or.inr (Or.inr (Or.inl ⟨_, rfl, rfl, bI_01 _⟩))) (Nat.le_refl _) (Nat.le_refl _) ?_
  refine Go_ls2 (ls' := [(0, gR (a)), (1, gR (b))]) rfl ?_
  have loop_2 : ∀ (k : Nat) (i : Nat), i + k = n → (∀ j, j < i → M a j = M b j) → Go D ca none (gRm mX6_sameRows (SH.length - SH.length) (gSz SH - gSz SH)) mX6_sameRows 2 [(0, gR a), (1, gR b), (2, gI (i : Int))] [] SH M [gI (bI (eqR n (M a) (M b) = true))] SH (M) := by
    intro k
    induction k with
    | zero =>
      intro i he hx
      have ei : i = n := by omega
      refine Go_iload_n 2 rfl rfl dX6_sameRows_2 ?_
      refine Go_aload_n 0 rfl rfl dX6_sameRows_3 ?_
      refine Go_alen ha (Or.inl rfl) hn dX6_sameRows_4 ?_
      refine Go_icmp_ge dX6_sameRows_5 rfl (fun h5 => ?_) (fun h5 => ?_)
      · skip
        refine Go_aload_n 0 rfl rfl dX6_sameRows_31 ?_
        refine Go_alen ha (Or.inl rfl) hn dX6_sameRows_32 ?_
        refine Go_aload_n 1 rfl rfl dX6_sameRows_33 ?_
        refine Go_alen hb (Or.inl rfl) hn dX6_sameRows_34 ?_
        refine Go_icmp_ne dX6_sameRows_35 rfl (fun h35 => ?_) (fun h35 => ?_)
        · skip
          exact absurd h35 (by omega)
        · skip
          refine Go_iconst (by unfold in32; omega) dX6_sameRows_38 ?_
          refine Go_goto dX6_sameRows_39 rfl ?_
          exact Go_ret (by rw [bI_t (eqR_iff.mpr (by rw [← ei]; exact hx))]) dX6_sameRows_43
      · skip
        exact absurd h5 (by omega)
    | succ k ih_2 =>
      intro i he hx
      refine Go_iload_n 2 rfl rfl dX6_sameRows_2 ?_
      refine Go_aload_n 0 rfl rfl dX6_sameRows_3 ?_
      refine Go_alen ha (Or.inl rfl) hn dX6_sameRows_4 ?_
      refine Go_icmp_ge dX6_sameRows_5 rfl (fun h5 => ?_) (fun h5 => ?_)
      · skip
        exact absurd h5 (by omega)
      · skip
        refine Go_iload_n 2 rfl rfl dX6_sameRows_8 ?_
        refine Go_aload_n 1 rfl rfl dX6_sameRows_9 ?_
        refine Go_alen hb (Or.inl rfl) hn dX6_sameRows_10 ?_
        refine Go_icmp_ge dX6_sameRows_11 rfl (fun h11 => ?_) (fun h11 => ?_)
        · skip
          exact absurd h11 (by omega)
        · skip
          refine Go_aload_n 0 rfl rfl dX6_sameRows_14 ?_
          refine Go_iload_n 2 rfl rfl dX6_sameRows_15 ?_
          refine Go_iaload i ha rfl (by omega) dX6_sameRows_16 ?_
          refine Go_aload_n 1 rfl rfl dX6_sameRows_17 ?_
          refine Go_iload_n 2 rfl rfl dX6_sameRows_18 ?_
          refine Go_iaload i hb rfl (by omega) dX6_sameRows_19 ?_
          refine Go_icmp_eq dX6_sameRows_20 rfl (fun h20 => ?_) (fun h20 => ?_)
          · skip
            refine Go_iincn i 1 rfl rfl (by omega) 2 (ls' := [(2, gI _), (0, gR (a)), (1, gR (b))]) rfl dX6_sameRows_25 (by decide) rfl ?_
            refine Go_goto dX6_sameRows_28 rfl ?_
            refine Go_pick [1, 2, 0] (ls' := [(0, gR (a)), (1, gR (b)), (2, gI _)]) rfl ?_
            exact ih_2 (i + 1) (by omega) (fun j hj => by
              by_cases e0 : j = i
              · subst e0; exact h20
              · exact hx j (by omega))
          · skip
            refine Go_iconst (by unfold in32; omega) dX6_sameRows_23 ?_
            exact Go_ret (by rw [bI_f (fun q => h20 (eqR_iff.mp q i (by omega)))]) dX6_sameRows_24
  refine Go_iconst (by unfold in32; omega) dX6_sameRows_0 ?_
  refine Go_istore_n (ls' := [(2, gI _), (0, gR (a)), (1, gR (b))]) rfl dX6_sameRows_1 (by decide) rfl ?_
  refine Go_pick [1, 2, 0] (ls' := [(0, gR (a)), (1, gR (b)), (2, gI _)]) rfl ?_
  exact loop_2 n 0 (by omega) (fun j hj => by omega)
set_option maxHeartbeats 4000000 in
set_option maxRecDepth 100000 in
theorem cp_10_1 {D : va_G} {ca : Nat → ClassId} {M : gMem} (hp : gPtr M) : Fn D ca mX6_copyFrom [gR 10, gR 1] SH M [] SH (cpV M 10 1) := by
  refine Fn_of okX6_copyFrom (Nat.le_of_ble_eq_true rfl) (Or.inl ⟨rfl, rfl⟩) (Nat.le_refl _) (Nat.le_refl _) ?_
  refine Go_ls2 (ls' := [(0, gR 10), (1, gR 1)]) rfl ?_
  refine Go_o 10 ?_
  refine Go_aload_n 0 rfl rfl dX6_copyFrom_0 ?_
  refine Go_aload_n 1 rfl rfl dX6_copyFrom_1 ?_
  refine Go_getIv (v := M 1 0) rfl faX6_9 sh_1 dX6_copyFrom_2 ?_
  refine Go_putIS fpX6_9 sh_10 dX6_copyFrom_5 ?_
  refine Go_aload_n 0 rfl rfl dX6_copyFrom_8 ?_
  refine Go_aload_n 1 rfl rfl dX6_copyFrom_9 ?_
  refine Go_getIv (v := M 1 1) rfl faX6_15 sh_1 dX6_copyFrom_10 ?_
  refine Go_putIS fpX6_15 sh_10 dX6_copyFrom_13 ?_
  refine Go_aload_n 0 rfl rfl dX6_copyFrom_16 ?_
  refine Go_aload_n 1 rfl rfl dX6_copyFrom_17 ?_
  refine Go_getIv (v := M 1 2) rfl faX6_18 sh_1 dX6_copyFrom_18 ?_
  refine Go_putIS fpX6_18 sh_10 dX6_copyFrom_21 ?_
  refine Go_aload_n 1 rfl rfl dX6_copyFrom_24 ?_
  refine Go_getR (c' := 2) faX6_21 sh_1 (pt_1_3 (M := M) hp) dX6_copyFrom_25 ?_
  refine Go_iconst (by unfold in32; omega) dX6_copyFrom_28 ?_
  refine Go_aload_n 0 rfl rfl dX6_copyFrom_29 ?_
  refine Go_getR (c' := 11) faX6_21 sh_10 (pt_10_3 (M := M) hp) dX6_copyFrom_30 ?_
  refine Go_iconst (by unfold in32; omega) dX6_copyFrom_33 ?_
  refine Go_bipush ⟨by decide, by unfold in32; omega⟩ dX6_copyFrom_34 ?_
  refine Go_copyv (M 2) (M 11) rfl rfl cpX6_54 sh_2 sh_11 rfl ⟨Nat.le_of_ble_eq_true rfl, Nat.le_of_ble_eq_true rfl⟩ dX6_copyFrom_36 ?_
  refine Go_aload_n 1 rfl rfl dX6_copyFrom_39 ?_
  refine Go_getR (c' := 3) faX6_25 sh_1 (pt_1_4 (M := M) hp) dX6_copyFrom_40 ?_
  refine Go_iconst (by unfold in32; omega) dX6_copyFrom_43 ?_
  refine Go_aload_n 0 rfl rfl dX6_copyFrom_44 ?_
  refine Go_getR (c' := 12) faX6_25 sh_10 (pt_10_4 (M := M) hp) dX6_copyFrom_45 ?_
  refine Go_iconst (by unfold in32; omega) dX6_copyFrom_48 ?_
  refine Go_sipush ⟨by decide, by unfold in32; omega⟩ dX6_copyFrom_49 ?_
  refine Go_copyv (M 3) (M 12) rfl rfl cpX6_54 sh_3 sh_12 rfl ⟨Nat.le_of_ble_eq_true rfl, Nat.le_of_ble_eq_true rfl⟩ dX6_copyFrom_52 ?_
  refine Go_aload_n 1 rfl rfl dX6_copyFrom_55 ?_
  refine Go_getR (c' := 4) faX6_28 sh_1 (pt_1_5 (M := M) hp) dX6_copyFrom_56 ?_
  refine Go_iconst (by unfold in32; omega) dX6_copyFrom_59 ?_
  refine Go_aload_n 0 rfl rfl dX6_copyFrom_60 ?_
  refine Go_getR (c' := 13) faX6_28 sh_10 (pt_10_5 (M := M) hp) dX6_copyFrom_61 ?_
  refine Go_iconst (by unfold in32; omega) dX6_copyFrom_64 ?_
  refine Go_bipush ⟨by decide, by unfold in32; omega⟩ dX6_copyFrom_65 ?_
  refine Go_copyv (M 4) (M 13) rfl rfl cpX6_54 sh_4 sh_13 rfl ⟨Nat.le_of_ble_eq_true rfl, Nat.le_of_ble_eq_true rfl⟩ dX6_copyFrom_67 ?_
  refine Go_aload_n 1 rfl rfl dX6_copyFrom_70 ?_
  refine Go_getR (c' := 5) faX6_31 sh_1 (pt_1_6 (M := M) hp) dX6_copyFrom_71 ?_
  refine Go_iconst (by unfold in32; omega) dX6_copyFrom_74 ?_
  refine Go_aload_n 0 rfl rfl dX6_copyFrom_75 ?_
  refine Go_getR (c' := 14) faX6_31 sh_10 (pt_10_6 (M := M) hp) dX6_copyFrom_76 ?_
  refine Go_iconst (by unfold in32; omega) dX6_copyFrom_79 ?_
  refine Go_bipush ⟨by decide, by unfold in32; omega⟩ dX6_copyFrom_80 ?_
  refine Go_copyv (M 5) (M 14) rfl rfl cpX6_54 sh_5 sh_14 rfl ⟨Nat.le_of_ble_eq_true rfl, Nat.le_of_ble_eq_true rfl⟩ dX6_copyFrom_82 ?_
  refine Go_aload_n 1 rfl rfl dX6_copyFrom_85 ?_
  refine Go_getR (c' := 6) faX6_34 sh_1 (pt_1_7 (M := M) hp) dX6_copyFrom_86 ?_
  refine Go_iconst (by unfold in32; omega) dX6_copyFrom_89 ?_
  refine Go_aload_n 0 rfl rfl dX6_copyFrom_90 ?_
  refine Go_getR (c' := 15) faX6_34 sh_10 (pt_10_7 (M := M) hp) dX6_copyFrom_91 ?_
  refine Go_iconst (by unfold in32; omega) dX6_copyFrom_94 ?_
  refine Go_bipush ⟨by decide, by unfold in32; omega⟩ dX6_copyFrom_95 ?_
  refine Go_copyv (M 6) (M 15) rfl rfl cpX6_54 sh_6 sh_15 rfl ⟨Nat.le_of_ble_eq_true rfl, Nat.le_of_ble_eq_true rfl⟩ dX6_copyFrom_97 ?_
  refine Go_aload_n 1 rfl rfl dX6_copyFrom_100 ?_
  refine Go_getR (c' := 7) faX6_37 sh_1 (pt_1_8 (M := M) hp) dX6_copyFrom_101 ?_
  refine Go_iconst (by unfold in32; omega) dX6_copyFrom_104 ?_
  refine Go_aload_n 0 rfl rfl dX6_copyFrom_105 ?_
  refine Go_getR (c' := 16) faX6_37 sh_10 (pt_10_8 (M := M) hp) dX6_copyFrom_106 ?_
  refine Go_iconst (by unfold in32; omega) dX6_copyFrom_109 ?_
  refine Go_bipush ⟨by decide, by unfold in32; omega⟩ dX6_copyFrom_110 ?_
  refine Go_copyv (M 7) (M 16) rfl rfl cpX6_54 sh_7 sh_16 rfl ⟨Nat.le_of_ble_eq_true rfl, Nat.le_of_ble_eq_true rfl⟩ dX6_copyFrom_112 ?_
  exact Go_ret rfl dX6_copyFrom_115
set_option maxHeartbeats 4000000 in
set_option maxRecDepth 100000 in
theorem cp_1_10 {D : va_G} {ca : Nat → ClassId} {M : gMem} (hp : gPtr M) : Fn D ca mX6_copyFrom [gR 1, gR 10] SH M [] SH (cpV M 1 10) := by
  refine Fn_of okX6_copyFrom (Nat.le_of_ble_eq_true rfl) (Or.inl ⟨rfl, rfl⟩) (Nat.le_refl _) (Nat.le_refl _) ?_
  refine Go_ls2 (ls' := [(0, gR 1), (1, gR 10)]) rfl ?_
  refine Go_o 1 ?_
  refine Go_aload_n 0 rfl rfl dX6_copyFrom_0 ?_
  refine Go_aload_n 1 rfl rfl dX6_copyFrom_1 ?_
  refine Go_getIv (v := M 10 0) rfl faX6_9 sh_10 dX6_copyFrom_2 ?_
  refine Go_putIS fpX6_9 sh_1 dX6_copyFrom_5 ?_
  refine Go_aload_n 0 rfl rfl dX6_copyFrom_8 ?_
  refine Go_aload_n 1 rfl rfl dX6_copyFrom_9 ?_
  refine Go_getIv (v := M 10 1) rfl faX6_15 sh_10 dX6_copyFrom_10 ?_
  refine Go_putIS fpX6_15 sh_1 dX6_copyFrom_13 ?_
  refine Go_aload_n 0 rfl rfl dX6_copyFrom_16 ?_
  refine Go_aload_n 1 rfl rfl dX6_copyFrom_17 ?_
  refine Go_getIv (v := M 10 2) rfl faX6_18 sh_10 dX6_copyFrom_18 ?_
  refine Go_putIS fpX6_18 sh_1 dX6_copyFrom_21 ?_
  refine Go_aload_n 1 rfl rfl dX6_copyFrom_24 ?_
  refine Go_getR (c' := 11) faX6_21 sh_10 (pt_10_3 (M := M) hp) dX6_copyFrom_25 ?_
  refine Go_iconst (by unfold in32; omega) dX6_copyFrom_28 ?_
  refine Go_aload_n 0 rfl rfl dX6_copyFrom_29 ?_
  refine Go_getR (c' := 2) faX6_21 sh_1 (pt_1_3 (M := M) hp) dX6_copyFrom_30 ?_
  refine Go_iconst (by unfold in32; omega) dX6_copyFrom_33 ?_
  refine Go_bipush ⟨by decide, by unfold in32; omega⟩ dX6_copyFrom_34 ?_
  refine Go_copyv (M 11) (M 2) rfl rfl cpX6_54 sh_11 sh_2 rfl ⟨Nat.le_of_ble_eq_true rfl, Nat.le_of_ble_eq_true rfl⟩ dX6_copyFrom_36 ?_
  refine Go_aload_n 1 rfl rfl dX6_copyFrom_39 ?_
  refine Go_getR (c' := 12) faX6_25 sh_10 (pt_10_4 (M := M) hp) dX6_copyFrom_40 ?_
  refine Go_iconst (by unfold in32; omega) dX6_copyFrom_43 ?_
  refine Go_aload_n 0 rfl rfl dX6_copyFrom_44 ?_
  refine Go_getR (c' := 3) faX6_25 sh_1 (pt_1_4 (M := M) hp) dX6_copyFrom_45 ?_
  refine Go_iconst (by unfold in32; omega) dX6_copyFrom_48 ?_
  refine Go_sipush ⟨by decide, by unfold in32; omega⟩ dX6_copyFrom_49 ?_
  refine Go_copyv (M 12) (M 3) rfl rfl cpX6_54 sh_12 sh_3 rfl ⟨Nat.le_of_ble_eq_true rfl, Nat.le_of_ble_eq_true rfl⟩ dX6_copyFrom_52 ?_
  refine Go_aload_n 1 rfl rfl dX6_copyFrom_55 ?_
  refine Go_getR (c' := 13) faX6_28 sh_10 (pt_10_5 (M := M) hp) dX6_copyFrom_56 ?_
  refine Go_iconst (by unfold in32; omega) dX6_copyFrom_59 ?_
  refine Go_aload_n 0 rfl rfl dX6_copyFrom_60 ?_
  refine Go_getR (c' := 4) faX6_28 sh_1 (pt_1_5 (M := M) hp) dX6_copyFrom_61 ?_
  refine Go_iconst (by unfold in32; omega) dX6_copyFrom_64 ?_
  refine Go_bipush ⟨by decide, by unfold in32; omega⟩ dX6_copyFrom_65 ?_
  refine Go_copyv (M 13) (M 4) rfl rfl cpX6_54 sh_13 sh_4 rfl ⟨Nat.le_of_ble_eq_true rfl, Nat.le_of_ble_eq_true rfl⟩ dX6_copyFrom_67 ?_
  refine Go_aload_n 1 rfl rfl dX6_copyFrom_70 ?_
  refine Go_getR (c' := 14) faX6_31 sh_10 (pt_10_6 (M := M) hp) dX6_copyFrom_71 ?_
  refine Go_iconst (by unfold in32; omega) dX6_copyFrom_74 ?_
  refine Go_aload_n 0 rfl rfl dX6_copyFrom_75 ?_
  refine Go_getR (c' := 5) faX6_31 sh_1 (pt_1_6 (M := M) hp) dX6_copyFrom_76 ?_
  refine Go_iconst (by unfold in32; omega) dX6_copyFrom_79 ?_
  refine Go_bipush ⟨by decide, by unfold in32; omega⟩ dX6_copyFrom_80 ?_
  refine Go_copyv (M 14) (M 5) rfl rfl cpX6_54 sh_14 sh_5 rfl ⟨Nat.le_of_ble_eq_true rfl, Nat.le_of_ble_eq_true rfl⟩ dX6_copyFrom_82 ?_
  refine Go_aload_n 1 rfl rfl dX6_copyFrom_85 ?_
  refine Go_getR (c' := 15) faX6_34 sh_10 (pt_10_7 (M := M) hp) dX6_copyFrom_86 ?_
  refine Go_iconst (by unfold in32; omega) dX6_copyFrom_89 ?_
  refine Go_aload_n 0 rfl rfl dX6_copyFrom_90 ?_
  refine Go_getR (c' := 6) faX6_34 sh_1 (pt_1_7 (M := M) hp) dX6_copyFrom_91 ?_
  refine Go_iconst (by unfold in32; omega) dX6_copyFrom_94 ?_
  refine Go_bipush ⟨by decide, by unfold in32; omega⟩ dX6_copyFrom_95 ?_
  refine Go_copyv (M 15) (M 6) rfl rfl cpX6_54 sh_15 sh_6 rfl ⟨Nat.le_of_ble_eq_true rfl, Nat.le_of_ble_eq_true rfl⟩ dX6_copyFrom_97 ?_
  refine Go_aload_n 1 rfl rfl dX6_copyFrom_100 ?_
  refine Go_getR (c' := 16) faX6_37 sh_10 (pt_10_8 (M := M) hp) dX6_copyFrom_101 ?_
  refine Go_iconst (by unfold in32; omega) dX6_copyFrom_104 ?_
  refine Go_aload_n 0 rfl rfl dX6_copyFrom_105 ?_
  refine Go_getR (c' := 7) faX6_37 sh_1 (pt_1_8 (M := M) hp) dX6_copyFrom_106 ?_
  refine Go_iconst (by unfold in32; omega) dX6_copyFrom_109 ?_
  refine Go_bipush ⟨by decide, by unfold in32; omega⟩ dX6_copyFrom_110 ?_
  refine Go_copyv (M 16) (M 7) rfl rfl cpX6_54 sh_16 sh_7 rfl ⟨Nat.le_of_ble_eq_true rfl, Nat.le_of_ble_eq_true rfl⟩ dX6_copyFrom_112 ?_
  exact Go_ret rfl dX6_copyFrom_115
set_option maxHeartbeats 4000000 in
set_option maxRecDepth 100000 in
theorem lk_10 {D : va_G} {ca : Nat → ClassId} {M : gMem} (hp : gPtr M) : Fn D ca mX6_isLike [gR 10, gR 1] SH M [gI (bI (likeB M 10 1 = true))] SH (M) := by
  refine Fn_of okX6_isLike (Nat.le_of_ble_eq_true rfl) (Or.inr (Or.inr (Or.inl ⟨_, rfl, rfl, bI_01 _⟩))) (Nat.le_refl _) (Nat.le_refl _) ?_
  refine Go_ls2 (ls' := [(0, gR 10), (1, gR 1)]) rfl ?_
  refine Go_aload_n 0 rfl rfl dX6_isLike_0 ?_
  refine Go_getI faX6_9 sh_10 dX6_isLike_1 ?_
  refine Go_aload_n 1 rfl rfl dX6_isLike_4 ?_
  refine Go_getI faX6_9 sh_1 dX6_isLike_5 ?_
  refine Go_icmp_ne dX6_isLike_8 rfl (fun h8 => ?_) (fun h8 => ?_)
  · skip
    refine Go_iconst (by unfold in32; omega) dX6_isLike_79 ?_
    exact Go_ret (by rw [bI_f (likeB_f (fun q => by first | exact h8 q.1 | exact h19 q.2.1 | exact h30 q.2.2.1 | exact h44 (eqR_iff.mpr q.2.2.2.1) | exact h58 (eqR_iff.mpr q.2.2.2.2.1) | exact h72 (eqR_iff.mpr q.2.2.2.2.2)))]) dX6_isLike_80
  · skip
    refine Go_aload_n 0 rfl rfl dX6_isLike_11 ?_
    refine Go_getI faX6_15 sh_10 dX6_isLike_12 ?_
    refine Go_aload_n 1 rfl rfl dX6_isLike_15 ?_
    refine Go_getI faX6_15 sh_1 dX6_isLike_16 ?_
    refine Go_icmp_ne dX6_isLike_19 rfl (fun h19 => ?_) (fun h19 => ?_)
    · skip
      refine Go_iconst (by unfold in32; omega) dX6_isLike_79 ?_
      exact Go_ret (by rw [bI_f (likeB_f (fun q => by first | exact h8 q.1 | exact h19 q.2.1 | exact h30 q.2.2.1 | exact h44 (eqR_iff.mpr q.2.2.2.1) | exact h58 (eqR_iff.mpr q.2.2.2.2.1) | exact h72 (eqR_iff.mpr q.2.2.2.2.2)))]) dX6_isLike_80
    · skip
      refine Go_aload_n 0 rfl rfl dX6_isLike_22 ?_
      refine Go_getI faX6_18 sh_10 dX6_isLike_23 ?_
      refine Go_aload_n 1 rfl rfl dX6_isLike_26 ?_
      refine Go_getI faX6_18 sh_1 dX6_isLike_27 ?_
      refine Go_icmp_ne dX6_isLike_30 rfl (fun h30 => ?_) (fun h30 => ?_)
      · skip
        refine Go_iconst (by unfold in32; omega) dX6_isLike_79 ?_
        exact Go_ret (by rw [bI_f (likeB_f (fun q => by first | exact h8 q.1 | exact h19 q.2.1 | exact h30 q.2.2.1 | exact h44 (eqR_iff.mpr q.2.2.2.1) | exact h58 (eqR_iff.mpr q.2.2.2.2.1) | exact h72 (eqR_iff.mpr q.2.2.2.2.2)))]) dX6_isLike_80
      · skip
        refine Go_aload_n 0 rfl rfl dX6_isLike_33 ?_
        refine Go_getR (c' := 11) faX6_21 sh_10 (pt_10_3 (M := M) hp) dX6_isLike_34 ?_
        refine Go_aload_n 1 rfl rfl dX6_isLike_37 ?_
        refine Go_getR (c' := 2) faX6_21 sh_1 (pt_1_3 (M := M) hp) dX6_isLike_38 ?_
        refine Go_callSI (fX6_sameRows 11 2 12 sh_11 sh_2 (by decide)) cwX6_60 smX6_sameRows ⟨Nat.le_of_ble_eq_true rfl, Nat.le_of_ble_eq_true rfl⟩ rfl (Nat.le_of_ble_eq_true rfl) sh_rf dX6_isLike_41 ?_
        refine Go_if_eq dX6_isLike_44 rfl (fun h44 => ?_) (fun h44 => ?_)
        · skip
          replace h44 := bI_0.mp h44
          refine Go_iconst (by unfold in32; omega) dX6_isLike_79 ?_
          exact Go_ret (by rw [bI_f (likeB_f (fun q => by first | exact h8 q.1 | exact h19 q.2.1 | exact h30 q.2.2.1 | exact h44 (eqR_iff.mpr q.2.2.2.1) | exact h58 (eqR_iff.mpr q.2.2.2.2.1) | exact h72 (eqR_iff.mpr q.2.2.2.2.2)))]) dX6_isLike_80
        · skip
          replace h44 := bI_n.mp h44
          refine Go_aload_n 0 rfl rfl dX6_isLike_47 ?_
          refine Go_getR (c' := 12) faX6_25 sh_10 (pt_10_4 (M := M) hp) dX6_isLike_48 ?_
          refine Go_aload_n 1 rfl rfl dX6_isLike_51 ?_
          refine Go_getR (c' := 3) faX6_25 sh_1 (pt_1_4 (M := M) hp) dX6_isLike_52 ?_
          refine Go_callSI (fX6_sameRows 12 3 144 sh_12 sh_3 (by decide)) cwX6_60 smX6_sameRows ⟨Nat.le_of_ble_eq_true rfl, Nat.le_of_ble_eq_true rfl⟩ rfl (Nat.le_of_ble_eq_true rfl) sh_rf dX6_isLike_55 ?_
          refine Go_if_eq dX6_isLike_58 rfl (fun h58 => ?_) (fun h58 => ?_)
          · skip
            replace h58 := bI_0.mp h58
            refine Go_iconst (by unfold in32; omega) dX6_isLike_79 ?_
            exact Go_ret (by rw [bI_f (likeB_f (fun q => by first | exact h8 q.1 | exact h19 q.2.1 | exact h30 q.2.2.1 | exact h44 (eqR_iff.mpr q.2.2.2.1) | exact h58 (eqR_iff.mpr q.2.2.2.2.1) | exact h72 (eqR_iff.mpr q.2.2.2.2.2)))]) dX6_isLike_80
          · skip
            replace h58 := bI_n.mp h58
            refine Go_aload_n 0 rfl rfl dX6_isLike_61 ?_
            refine Go_getR (c' := 16) faX6_37 sh_10 (pt_10_8 (M := M) hp) dX6_isLike_62 ?_
            refine Go_aload_n 1 rfl rfl dX6_isLike_65 ?_
            refine Go_getR (c' := 7) faX6_37 sh_1 (pt_1_8 (M := M) hp) dX6_isLike_66 ?_
            refine Go_callSI (fX6_sameRows 16 7 10 sh_16 sh_7 (by decide)) cwX6_60 smX6_sameRows ⟨Nat.le_of_ble_eq_true rfl, Nat.le_of_ble_eq_true rfl⟩ rfl (Nat.le_of_ble_eq_true rfl) sh_rf dX6_isLike_69 ?_
            refine Go_if_eq dX6_isLike_72 rfl (fun h72 => ?_) (fun h72 => ?_)
            · skip
              replace h72 := bI_0.mp h72
              refine Go_iconst (by unfold in32; omega) dX6_isLike_79 ?_
              exact Go_ret (by rw [bI_f (likeB_f (fun q => by first | exact h8 q.1 | exact h19 q.2.1 | exact h30 q.2.2.1 | exact h44 (eqR_iff.mpr q.2.2.2.1) | exact h58 (eqR_iff.mpr q.2.2.2.2.1) | exact h72 (eqR_iff.mpr q.2.2.2.2.2)))]) dX6_isLike_80
            · skip
              replace h72 := bI_n.mp h72
              refine Go_iconst (by unfold in32; omega) dX6_isLike_75 ?_
              refine Go_goto dX6_isLike_76 rfl ?_
              exact Go_ret (by rw [bI_t (likeB_t ⟨h8, h19, h30, eqR_iff.mp h44, eqR_iff.mp h58, eqR_iff.mp h72⟩)]) dX6_isLike_80
set_option maxHeartbeats 4000000 in
set_option maxRecDepth 100000 in
theorem cp_17_1 {D : va_G} {ca : Nat → ClassId} {M : gMem} (hp : gPtr M) : Fn D ca mX6_copyFrom [gR 17, gR 1] SH M [] SH (cpV M 17 1) := by
  refine Fn_of okX6_copyFrom (Nat.le_of_ble_eq_true rfl) (Or.inl ⟨rfl, rfl⟩) (Nat.le_refl _) (Nat.le_refl _) ?_
  refine Go_ls2 (ls' := [(0, gR 17), (1, gR 1)]) rfl ?_
  refine Go_o 17 ?_
  refine Go_aload_n 0 rfl rfl dX6_copyFrom_0 ?_
  refine Go_aload_n 1 rfl rfl dX6_copyFrom_1 ?_
  refine Go_getIv (v := M 1 0) rfl faX6_9 sh_1 dX6_copyFrom_2 ?_
  refine Go_putIS fpX6_9 sh_17 dX6_copyFrom_5 ?_
  refine Go_aload_n 0 rfl rfl dX6_copyFrom_8 ?_
  refine Go_aload_n 1 rfl rfl dX6_copyFrom_9 ?_
  refine Go_getIv (v := M 1 1) rfl faX6_15 sh_1 dX6_copyFrom_10 ?_
  refine Go_putIS fpX6_15 sh_17 dX6_copyFrom_13 ?_
  refine Go_aload_n 0 rfl rfl dX6_copyFrom_16 ?_
  refine Go_aload_n 1 rfl rfl dX6_copyFrom_17 ?_
  refine Go_getIv (v := M 1 2) rfl faX6_18 sh_1 dX6_copyFrom_18 ?_
  refine Go_putIS fpX6_18 sh_17 dX6_copyFrom_21 ?_
  refine Go_aload_n 1 rfl rfl dX6_copyFrom_24 ?_
  refine Go_getR (c' := 2) faX6_21 sh_1 (pt_1_3 (M := M) hp) dX6_copyFrom_25 ?_
  refine Go_iconst (by unfold in32; omega) dX6_copyFrom_28 ?_
  refine Go_aload_n 0 rfl rfl dX6_copyFrom_29 ?_
  refine Go_getR (c' := 18) faX6_21 sh_17 (pt_17_3 (M := M) hp) dX6_copyFrom_30 ?_
  refine Go_iconst (by unfold in32; omega) dX6_copyFrom_33 ?_
  refine Go_bipush ⟨by decide, by unfold in32; omega⟩ dX6_copyFrom_34 ?_
  refine Go_copyv (M 2) (M 18) rfl rfl cpX6_54 sh_2 sh_18 rfl ⟨Nat.le_of_ble_eq_true rfl, Nat.le_of_ble_eq_true rfl⟩ dX6_copyFrom_36 ?_
  refine Go_aload_n 1 rfl rfl dX6_copyFrom_39 ?_
  refine Go_getR (c' := 3) faX6_25 sh_1 (pt_1_4 (M := M) hp) dX6_copyFrom_40 ?_
  refine Go_iconst (by unfold in32; omega) dX6_copyFrom_43 ?_
  refine Go_aload_n 0 rfl rfl dX6_copyFrom_44 ?_
  refine Go_getR (c' := 19) faX6_25 sh_17 (pt_17_4 (M := M) hp) dX6_copyFrom_45 ?_
  refine Go_iconst (by unfold in32; omega) dX6_copyFrom_48 ?_
  refine Go_sipush ⟨by decide, by unfold in32; omega⟩ dX6_copyFrom_49 ?_
  refine Go_copyv (M 3) (M 19) rfl rfl cpX6_54 sh_3 sh_19 rfl ⟨Nat.le_of_ble_eq_true rfl, Nat.le_of_ble_eq_true rfl⟩ dX6_copyFrom_52 ?_
  refine Go_aload_n 1 rfl rfl dX6_copyFrom_55 ?_
  refine Go_getR (c' := 4) faX6_28 sh_1 (pt_1_5 (M := M) hp) dX6_copyFrom_56 ?_
  refine Go_iconst (by unfold in32; omega) dX6_copyFrom_59 ?_
  refine Go_aload_n 0 rfl rfl dX6_copyFrom_60 ?_
  refine Go_getR (c' := 20) faX6_28 sh_17 (pt_17_5 (M := M) hp) dX6_copyFrom_61 ?_
  refine Go_iconst (by unfold in32; omega) dX6_copyFrom_64 ?_
  refine Go_bipush ⟨by decide, by unfold in32; omega⟩ dX6_copyFrom_65 ?_
  refine Go_copyv (M 4) (M 20) rfl rfl cpX6_54 sh_4 sh_20 rfl ⟨Nat.le_of_ble_eq_true rfl, Nat.le_of_ble_eq_true rfl⟩ dX6_copyFrom_67 ?_
  refine Go_aload_n 1 rfl rfl dX6_copyFrom_70 ?_
  refine Go_getR (c' := 5) faX6_31 sh_1 (pt_1_6 (M := M) hp) dX6_copyFrom_71 ?_
  refine Go_iconst (by unfold in32; omega) dX6_copyFrom_74 ?_
  refine Go_aload_n 0 rfl rfl dX6_copyFrom_75 ?_
  refine Go_getR (c' := 21) faX6_31 sh_17 (pt_17_6 (M := M) hp) dX6_copyFrom_76 ?_
  refine Go_iconst (by unfold in32; omega) dX6_copyFrom_79 ?_
  refine Go_bipush ⟨by decide, by unfold in32; omega⟩ dX6_copyFrom_80 ?_
  refine Go_copyv (M 5) (M 21) rfl rfl cpX6_54 sh_5 sh_21 rfl ⟨Nat.le_of_ble_eq_true rfl, Nat.le_of_ble_eq_true rfl⟩ dX6_copyFrom_82 ?_
  refine Go_aload_n 1 rfl rfl dX6_copyFrom_85 ?_
  refine Go_getR (c' := 6) faX6_34 sh_1 (pt_1_7 (M := M) hp) dX6_copyFrom_86 ?_
  refine Go_iconst (by unfold in32; omega) dX6_copyFrom_89 ?_
  refine Go_aload_n 0 rfl rfl dX6_copyFrom_90 ?_
  refine Go_getR (c' := 22) faX6_34 sh_17 (pt_17_7 (M := M) hp) dX6_copyFrom_91 ?_
  refine Go_iconst (by unfold in32; omega) dX6_copyFrom_94 ?_
  refine Go_bipush ⟨by decide, by unfold in32; omega⟩ dX6_copyFrom_95 ?_
  refine Go_copyv (M 6) (M 22) rfl rfl cpX6_54 sh_6 sh_22 rfl ⟨Nat.le_of_ble_eq_true rfl, Nat.le_of_ble_eq_true rfl⟩ dX6_copyFrom_97 ?_
  refine Go_aload_n 1 rfl rfl dX6_copyFrom_100 ?_
  refine Go_getR (c' := 7) faX6_37 sh_1 (pt_1_8 (M := M) hp) dX6_copyFrom_101 ?_
  refine Go_iconst (by unfold in32; omega) dX6_copyFrom_104 ?_
  refine Go_aload_n 0 rfl rfl dX6_copyFrom_105 ?_
  refine Go_getR (c' := 23) faX6_37 sh_17 (pt_17_8 (M := M) hp) dX6_copyFrom_106 ?_
  refine Go_iconst (by unfold in32; omega) dX6_copyFrom_109 ?_
  refine Go_bipush ⟨by decide, by unfold in32; omega⟩ dX6_copyFrom_110 ?_
  refine Go_copyv (M 7) (M 23) rfl rfl cpX6_54 sh_7 sh_23 rfl ⟨Nat.le_of_ble_eq_true rfl, Nat.le_of_ble_eq_true rfl⟩ dX6_copyFrom_112 ?_
  exact Go_ret rfl dX6_copyFrom_115
set_option maxHeartbeats 4000000 in
set_option maxRecDepth 100000 in
theorem cp_1_17 {D : va_G} {ca : Nat → ClassId} {M : gMem} (hp : gPtr M) : Fn D ca mX6_copyFrom [gR 1, gR 17] SH M [] SH (cpV M 1 17) := by
  refine Fn_of okX6_copyFrom (Nat.le_of_ble_eq_true rfl) (Or.inl ⟨rfl, rfl⟩) (Nat.le_refl _) (Nat.le_refl _) ?_
  refine Go_ls2 (ls' := [(0, gR 1), (1, gR 17)]) rfl ?_
  refine Go_o 1 ?_
  refine Go_aload_n 0 rfl rfl dX6_copyFrom_0 ?_
  refine Go_aload_n 1 rfl rfl dX6_copyFrom_1 ?_
  refine Go_getIv (v := M 17 0) rfl faX6_9 sh_17 dX6_copyFrom_2 ?_
  refine Go_putIS fpX6_9 sh_1 dX6_copyFrom_5 ?_
  refine Go_aload_n 0 rfl rfl dX6_copyFrom_8 ?_
  refine Go_aload_n 1 rfl rfl dX6_copyFrom_9 ?_
  refine Go_getIv (v := M 17 1) rfl faX6_15 sh_17 dX6_copyFrom_10 ?_
  refine Go_putIS fpX6_15 sh_1 dX6_copyFrom_13 ?_
  refine Go_aload_n 0 rfl rfl dX6_copyFrom_16 ?_
  refine Go_aload_n 1 rfl rfl dX6_copyFrom_17 ?_
  refine Go_getIv (v := M 17 2) rfl faX6_18 sh_17 dX6_copyFrom_18 ?_
  refine Go_putIS fpX6_18 sh_1 dX6_copyFrom_21 ?_
  refine Go_aload_n 1 rfl rfl dX6_copyFrom_24 ?_
  refine Go_getR (c' := 18) faX6_21 sh_17 (pt_17_3 (M := M) hp) dX6_copyFrom_25 ?_
  refine Go_iconst (by unfold in32; omega) dX6_copyFrom_28 ?_
  refine Go_aload_n 0 rfl rfl dX6_copyFrom_29 ?_
  refine Go_getR (c' := 2) faX6_21 sh_1 (pt_1_3 (M := M) hp) dX6_copyFrom_30 ?_
  refine Go_iconst (by unfold in32; omega) dX6_copyFrom_33 ?_
  refine Go_bipush ⟨by decide, by unfold in32; omega⟩ dX6_copyFrom_34 ?_
  refine Go_copyv (M 18) (M 2) rfl rfl cpX6_54 sh_18 sh_2 rfl ⟨Nat.le_of_ble_eq_true rfl, Nat.le_of_ble_eq_true rfl⟩ dX6_copyFrom_36 ?_
  refine Go_aload_n 1 rfl rfl dX6_copyFrom_39 ?_
  refine Go_getR (c' := 19) faX6_25 sh_17 (pt_17_4 (M := M) hp) dX6_copyFrom_40 ?_
  refine Go_iconst (by unfold in32; omega) dX6_copyFrom_43 ?_
  refine Go_aload_n 0 rfl rfl dX6_copyFrom_44 ?_
  refine Go_getR (c' := 3) faX6_25 sh_1 (pt_1_4 (M := M) hp) dX6_copyFrom_45 ?_
  refine Go_iconst (by unfold in32; omega) dX6_copyFrom_48 ?_
  refine Go_sipush ⟨by decide, by unfold in32; omega⟩ dX6_copyFrom_49 ?_
  refine Go_copyv (M 19) (M 3) rfl rfl cpX6_54 sh_19 sh_3 rfl ⟨Nat.le_of_ble_eq_true rfl, Nat.le_of_ble_eq_true rfl⟩ dX6_copyFrom_52 ?_
  refine Go_aload_n 1 rfl rfl dX6_copyFrom_55 ?_
  refine Go_getR (c' := 20) faX6_28 sh_17 (pt_17_5 (M := M) hp) dX6_copyFrom_56 ?_
  refine Go_iconst (by unfold in32; omega) dX6_copyFrom_59 ?_
  refine Go_aload_n 0 rfl rfl dX6_copyFrom_60 ?_
  refine Go_getR (c' := 4) faX6_28 sh_1 (pt_1_5 (M := M) hp) dX6_copyFrom_61 ?_
  refine Go_iconst (by unfold in32; omega) dX6_copyFrom_64 ?_
  refine Go_bipush ⟨by decide, by unfold in32; omega⟩ dX6_copyFrom_65 ?_
  refine Go_copyv (M 20) (M 4) rfl rfl cpX6_54 sh_20 sh_4 rfl ⟨Nat.le_of_ble_eq_true rfl, Nat.le_of_ble_eq_true rfl⟩ dX6_copyFrom_67 ?_
  refine Go_aload_n 1 rfl rfl dX6_copyFrom_70 ?_
  refine Go_getR (c' := 21) faX6_31 sh_17 (pt_17_6 (M := M) hp) dX6_copyFrom_71 ?_
  refine Go_iconst (by unfold in32; omega) dX6_copyFrom_74 ?_
  refine Go_aload_n 0 rfl rfl dX6_copyFrom_75 ?_
  refine Go_getR (c' := 5) faX6_31 sh_1 (pt_1_6 (M := M) hp) dX6_copyFrom_76 ?_
  refine Go_iconst (by unfold in32; omega) dX6_copyFrom_79 ?_
  refine Go_bipush ⟨by decide, by unfold in32; omega⟩ dX6_copyFrom_80 ?_
  refine Go_copyv (M 21) (M 5) rfl rfl cpX6_54 sh_21 sh_5 rfl ⟨Nat.le_of_ble_eq_true rfl, Nat.le_of_ble_eq_true rfl⟩ dX6_copyFrom_82 ?_
  refine Go_aload_n 1 rfl rfl dX6_copyFrom_85 ?_
  refine Go_getR (c' := 22) faX6_34 sh_17 (pt_17_7 (M := M) hp) dX6_copyFrom_86 ?_
  refine Go_iconst (by unfold in32; omega) dX6_copyFrom_89 ?_
  refine Go_aload_n 0 rfl rfl dX6_copyFrom_90 ?_
  refine Go_getR (c' := 6) faX6_34 sh_1 (pt_1_7 (M := M) hp) dX6_copyFrom_91 ?_
  refine Go_iconst (by unfold in32; omega) dX6_copyFrom_94 ?_
  refine Go_bipush ⟨by decide, by unfold in32; omega⟩ dX6_copyFrom_95 ?_
  refine Go_copyv (M 22) (M 6) rfl rfl cpX6_54 sh_22 sh_6 rfl ⟨Nat.le_of_ble_eq_true rfl, Nat.le_of_ble_eq_true rfl⟩ dX6_copyFrom_97 ?_
  refine Go_aload_n 1 rfl rfl dX6_copyFrom_100 ?_
  refine Go_getR (c' := 23) faX6_37 sh_17 (pt_17_8 (M := M) hp) dX6_copyFrom_101 ?_
  refine Go_iconst (by unfold in32; omega) dX6_copyFrom_104 ?_
  refine Go_aload_n 0 rfl rfl dX6_copyFrom_105 ?_
  refine Go_getR (c' := 7) faX6_37 sh_1 (pt_1_8 (M := M) hp) dX6_copyFrom_106 ?_
  refine Go_iconst (by unfold in32; omega) dX6_copyFrom_109 ?_
  refine Go_bipush ⟨by decide, by unfold in32; omega⟩ dX6_copyFrom_110 ?_
  refine Go_copyv (M 23) (M 7) rfl rfl cpX6_54 sh_23 sh_7 rfl ⟨Nat.le_of_ble_eq_true rfl, Nat.le_of_ble_eq_true rfl⟩ dX6_copyFrom_112 ?_
  exact Go_ret rfl dX6_copyFrom_115
set_option maxHeartbeats 4000000 in
set_option maxRecDepth 100000 in
theorem lk_17 {D : va_G} {ca : Nat → ClassId} {M : gMem} (hp : gPtr M) : Fn D ca mX6_isLike [gR 17, gR 1] SH M [gI (bI (likeB M 17 1 = true))] SH (M) := by
  refine Fn_of okX6_isLike (Nat.le_of_ble_eq_true rfl) (Or.inr (Or.inr (Or.inl ⟨_, rfl, rfl, bI_01 _⟩))) (Nat.le_refl _) (Nat.le_refl _) ?_
  refine Go_ls2 (ls' := [(0, gR 17), (1, gR 1)]) rfl ?_
  refine Go_aload_n 0 rfl rfl dX6_isLike_0 ?_
  refine Go_getI faX6_9 sh_17 dX6_isLike_1 ?_
  refine Go_aload_n 1 rfl rfl dX6_isLike_4 ?_
  refine Go_getI faX6_9 sh_1 dX6_isLike_5 ?_
  refine Go_icmp_ne dX6_isLike_8 rfl (fun h8 => ?_) (fun h8 => ?_)
  · skip
    refine Go_iconst (by unfold in32; omega) dX6_isLike_79 ?_
    exact Go_ret (by rw [bI_f (likeB_f (fun q => by first | exact h8 q.1 | exact h19 q.2.1 | exact h30 q.2.2.1 | exact h44 (eqR_iff.mpr q.2.2.2.1) | exact h58 (eqR_iff.mpr q.2.2.2.2.1) | exact h72 (eqR_iff.mpr q.2.2.2.2.2)))]) dX6_isLike_80
  · skip
    refine Go_aload_n 0 rfl rfl dX6_isLike_11 ?_
    refine Go_getI faX6_15 sh_17 dX6_isLike_12 ?_
    refine Go_aload_n 1 rfl rfl dX6_isLike_15 ?_
    refine Go_getI faX6_15 sh_1 dX6_isLike_16 ?_
    refine Go_icmp_ne dX6_isLike_19 rfl (fun h19 => ?_) (fun h19 => ?_)
    · skip
      refine Go_iconst (by unfold in32; omega) dX6_isLike_79 ?_
      exact Go_ret (by rw [bI_f (likeB_f (fun q => by first | exact h8 q.1 | exact h19 q.2.1 | exact h30 q.2.2.1 | exact h44 (eqR_iff.mpr q.2.2.2.1) | exact h58 (eqR_iff.mpr q.2.2.2.2.1) | exact h72 (eqR_iff.mpr q.2.2.2.2.2)))]) dX6_isLike_80
    · skip
      refine Go_aload_n 0 rfl rfl dX6_isLike_22 ?_
      refine Go_getI faX6_18 sh_17 dX6_isLike_23 ?_
      refine Go_aload_n 1 rfl rfl dX6_isLike_26 ?_
      refine Go_getI faX6_18 sh_1 dX6_isLike_27 ?_
      refine Go_icmp_ne dX6_isLike_30 rfl (fun h30 => ?_) (fun h30 => ?_)
      · skip
        refine Go_iconst (by unfold in32; omega) dX6_isLike_79 ?_
        exact Go_ret (by rw [bI_f (likeB_f (fun q => by first | exact h8 q.1 | exact h19 q.2.1 | exact h30 q.2.2.1 | exact h44 (eqR_iff.mpr q.2.2.2.1) | exact h58 (eqR_iff.mpr q.2.2.2.2.1) | exact h72 (eqR_iff.mpr q.2.2.2.2.2)))]) dX6_isLike_80
      · skip
        refine Go_aload_n 0 rfl rfl dX6_isLike_33 ?_
        refine Go_getR (c' := 18) faX6_21 sh_17 (pt_17_3 (M := M) hp) dX6_isLike_34 ?_
        refine Go_aload_n 1 rfl rfl dX6_isLike_37 ?_
        refine Go_getR (c' := 2) faX6_21 sh_1 (pt_1_3 (M := M) hp) dX6_isLike_38 ?_
        refine Go_callSI (fX6_sameRows 18 2 12 sh_18 sh_2 (by decide)) cwX6_60 smX6_sameRows ⟨Nat.le_of_ble_eq_true rfl, Nat.le_of_ble_eq_true rfl⟩ rfl (Nat.le_of_ble_eq_true rfl) sh_rf dX6_isLike_41 ?_
        refine Go_if_eq dX6_isLike_44 rfl (fun h44 => ?_) (fun h44 => ?_)
        · skip
          replace h44 := bI_0.mp h44
          refine Go_iconst (by unfold in32; omega) dX6_isLike_79 ?_
          exact Go_ret (by rw [bI_f (likeB_f (fun q => by first | exact h8 q.1 | exact h19 q.2.1 | exact h30 q.2.2.1 | exact h44 (eqR_iff.mpr q.2.2.2.1) | exact h58 (eqR_iff.mpr q.2.2.2.2.1) | exact h72 (eqR_iff.mpr q.2.2.2.2.2)))]) dX6_isLike_80
        · skip
          replace h44 := bI_n.mp h44
          refine Go_aload_n 0 rfl rfl dX6_isLike_47 ?_
          refine Go_getR (c' := 19) faX6_25 sh_17 (pt_17_4 (M := M) hp) dX6_isLike_48 ?_
          refine Go_aload_n 1 rfl rfl dX6_isLike_51 ?_
          refine Go_getR (c' := 3) faX6_25 sh_1 (pt_1_4 (M := M) hp) dX6_isLike_52 ?_
          refine Go_callSI (fX6_sameRows 19 3 144 sh_19 sh_3 (by decide)) cwX6_60 smX6_sameRows ⟨Nat.le_of_ble_eq_true rfl, Nat.le_of_ble_eq_true rfl⟩ rfl (Nat.le_of_ble_eq_true rfl) sh_rf dX6_isLike_55 ?_
          refine Go_if_eq dX6_isLike_58 rfl (fun h58 => ?_) (fun h58 => ?_)
          · skip
            replace h58 := bI_0.mp h58
            refine Go_iconst (by unfold in32; omega) dX6_isLike_79 ?_
            exact Go_ret (by rw [bI_f (likeB_f (fun q => by first | exact h8 q.1 | exact h19 q.2.1 | exact h30 q.2.2.1 | exact h44 (eqR_iff.mpr q.2.2.2.1) | exact h58 (eqR_iff.mpr q.2.2.2.2.1) | exact h72 (eqR_iff.mpr q.2.2.2.2.2)))]) dX6_isLike_80
          · skip
            replace h58 := bI_n.mp h58
            refine Go_aload_n 0 rfl rfl dX6_isLike_61 ?_
            refine Go_getR (c' := 23) faX6_37 sh_17 (pt_17_8 (M := M) hp) dX6_isLike_62 ?_
            refine Go_aload_n 1 rfl rfl dX6_isLike_65 ?_
            refine Go_getR (c' := 7) faX6_37 sh_1 (pt_1_8 (M := M) hp) dX6_isLike_66 ?_
            refine Go_callSI (fX6_sameRows 23 7 10 sh_23 sh_7 (by decide)) cwX6_60 smX6_sameRows ⟨Nat.le_of_ble_eq_true rfl, Nat.le_of_ble_eq_true rfl⟩ rfl (Nat.le_of_ble_eq_true rfl) sh_rf dX6_isLike_69 ?_
            refine Go_if_eq dX6_isLike_72 rfl (fun h72 => ?_) (fun h72 => ?_)
            · skip
              replace h72 := bI_0.mp h72
              refine Go_iconst (by unfold in32; omega) dX6_isLike_79 ?_
              exact Go_ret (by rw [bI_f (likeB_f (fun q => by first | exact h8 q.1 | exact h19 q.2.1 | exact h30 q.2.2.1 | exact h44 (eqR_iff.mpr q.2.2.2.1) | exact h58 (eqR_iff.mpr q.2.2.2.2.1) | exact h72 (eqR_iff.mpr q.2.2.2.2.2)))]) dX6_isLike_80
            · skip
              replace h72 := bI_n.mp h72
              refine Go_iconst (by unfold in32; omega) dX6_isLike_75 ?_
              refine Go_goto dX6_isLike_76 rfl ?_
              exact Go_ret (by rw [bI_t (likeB_t ⟨h8, h19, h30, eqR_iff.mp h44, eqR_iff.mp h58, eqR_iff.mp h72⟩)]) dX6_isLike_80
set_option maxHeartbeats 4000000 in
set_option maxRecDepth 100000 in
theorem cp_24_1 {D : va_G} {ca : Nat → ClassId} {M : gMem} (hp : gPtr M) : Fn D ca mX6_copyFrom [gR 24, gR 1] SH M [] SH (cpV M 24 1) := by
  refine Fn_of okX6_copyFrom (Nat.le_of_ble_eq_true rfl) (Or.inl ⟨rfl, rfl⟩) (Nat.le_refl _) (Nat.le_refl _) ?_
  refine Go_ls2 (ls' := [(0, gR 24), (1, gR 1)]) rfl ?_
  refine Go_o 24 ?_
  refine Go_aload_n 0 rfl rfl dX6_copyFrom_0 ?_
  refine Go_aload_n 1 rfl rfl dX6_copyFrom_1 ?_
  refine Go_getIv (v := M 1 0) rfl faX6_9 sh_1 dX6_copyFrom_2 ?_
  refine Go_putIS fpX6_9 sh_24 dX6_copyFrom_5 ?_
  refine Go_aload_n 0 rfl rfl dX6_copyFrom_8 ?_
  refine Go_aload_n 1 rfl rfl dX6_copyFrom_9 ?_
  refine Go_getIv (v := M 1 1) rfl faX6_15 sh_1 dX6_copyFrom_10 ?_
  refine Go_putIS fpX6_15 sh_24 dX6_copyFrom_13 ?_
  refine Go_aload_n 0 rfl rfl dX6_copyFrom_16 ?_
  refine Go_aload_n 1 rfl rfl dX6_copyFrom_17 ?_
  refine Go_getIv (v := M 1 2) rfl faX6_18 sh_1 dX6_copyFrom_18 ?_
  refine Go_putIS fpX6_18 sh_24 dX6_copyFrom_21 ?_
  refine Go_aload_n 1 rfl rfl dX6_copyFrom_24 ?_
  refine Go_getR (c' := 2) faX6_21 sh_1 (pt_1_3 (M := M) hp) dX6_copyFrom_25 ?_
  refine Go_iconst (by unfold in32; omega) dX6_copyFrom_28 ?_
  refine Go_aload_n 0 rfl rfl dX6_copyFrom_29 ?_
  refine Go_getR (c' := 25) faX6_21 sh_24 (pt_24_3 (M := M) hp) dX6_copyFrom_30 ?_
  refine Go_iconst (by unfold in32; omega) dX6_copyFrom_33 ?_
  refine Go_bipush ⟨by decide, by unfold in32; omega⟩ dX6_copyFrom_34 ?_
  refine Go_copyv (M 2) (M 25) rfl rfl cpX6_54 sh_2 sh_25 rfl ⟨Nat.le_of_ble_eq_true rfl, Nat.le_of_ble_eq_true rfl⟩ dX6_copyFrom_36 ?_
  refine Go_aload_n 1 rfl rfl dX6_copyFrom_39 ?_
  refine Go_getR (c' := 3) faX6_25 sh_1 (pt_1_4 (M := M) hp) dX6_copyFrom_40 ?_
  refine Go_iconst (by unfold in32; omega) dX6_copyFrom_43 ?_
  refine Go_aload_n 0 rfl rfl dX6_copyFrom_44 ?_
  refine Go_getR (c' := 26) faX6_25 sh_24 (pt_24_4 (M := M) hp) dX6_copyFrom_45 ?_
  refine Go_iconst (by unfold in32; omega) dX6_copyFrom_48 ?_
  refine Go_sipush ⟨by decide, by unfold in32; omega⟩ dX6_copyFrom_49 ?_
  refine Go_copyv (M 3) (M 26) rfl rfl cpX6_54 sh_3 sh_26 rfl ⟨Nat.le_of_ble_eq_true rfl, Nat.le_of_ble_eq_true rfl⟩ dX6_copyFrom_52 ?_
  refine Go_aload_n 1 rfl rfl dX6_copyFrom_55 ?_
  refine Go_getR (c' := 4) faX6_28 sh_1 (pt_1_5 (M := M) hp) dX6_copyFrom_56 ?_
  refine Go_iconst (by unfold in32; omega) dX6_copyFrom_59 ?_
  refine Go_aload_n 0 rfl rfl dX6_copyFrom_60 ?_
  refine Go_getR (c' := 27) faX6_28 sh_24 (pt_24_5 (M := M) hp) dX6_copyFrom_61 ?_
  refine Go_iconst (by unfold in32; omega) dX6_copyFrom_64 ?_
  refine Go_bipush ⟨by decide, by unfold in32; omega⟩ dX6_copyFrom_65 ?_
  refine Go_copyv (M 4) (M 27) rfl rfl cpX6_54 sh_4 sh_27 rfl ⟨Nat.le_of_ble_eq_true rfl, Nat.le_of_ble_eq_true rfl⟩ dX6_copyFrom_67 ?_
  refine Go_aload_n 1 rfl rfl dX6_copyFrom_70 ?_
  refine Go_getR (c' := 5) faX6_31 sh_1 (pt_1_6 (M := M) hp) dX6_copyFrom_71 ?_
  refine Go_iconst (by unfold in32; omega) dX6_copyFrom_74 ?_
  refine Go_aload_n 0 rfl rfl dX6_copyFrom_75 ?_
  refine Go_getR (c' := 28) faX6_31 sh_24 (pt_24_6 (M := M) hp) dX6_copyFrom_76 ?_
  refine Go_iconst (by unfold in32; omega) dX6_copyFrom_79 ?_
  refine Go_bipush ⟨by decide, by unfold in32; omega⟩ dX6_copyFrom_80 ?_
  refine Go_copyv (M 5) (M 28) rfl rfl cpX6_54 sh_5 sh_28 rfl ⟨Nat.le_of_ble_eq_true rfl, Nat.le_of_ble_eq_true rfl⟩ dX6_copyFrom_82 ?_
  refine Go_aload_n 1 rfl rfl dX6_copyFrom_85 ?_
  refine Go_getR (c' := 6) faX6_34 sh_1 (pt_1_7 (M := M) hp) dX6_copyFrom_86 ?_
  refine Go_iconst (by unfold in32; omega) dX6_copyFrom_89 ?_
  refine Go_aload_n 0 rfl rfl dX6_copyFrom_90 ?_
  refine Go_getR (c' := 29) faX6_34 sh_24 (pt_24_7 (M := M) hp) dX6_copyFrom_91 ?_
  refine Go_iconst (by unfold in32; omega) dX6_copyFrom_94 ?_
  refine Go_bipush ⟨by decide, by unfold in32; omega⟩ dX6_copyFrom_95 ?_
  refine Go_copyv (M 6) (M 29) rfl rfl cpX6_54 sh_6 sh_29 rfl ⟨Nat.le_of_ble_eq_true rfl, Nat.le_of_ble_eq_true rfl⟩ dX6_copyFrom_97 ?_
  refine Go_aload_n 1 rfl rfl dX6_copyFrom_100 ?_
  refine Go_getR (c' := 7) faX6_37 sh_1 (pt_1_8 (M := M) hp) dX6_copyFrom_101 ?_
  refine Go_iconst (by unfold in32; omega) dX6_copyFrom_104 ?_
  refine Go_aload_n 0 rfl rfl dX6_copyFrom_105 ?_
  refine Go_getR (c' := 30) faX6_37 sh_24 (pt_24_8 (M := M) hp) dX6_copyFrom_106 ?_
  refine Go_iconst (by unfold in32; omega) dX6_copyFrom_109 ?_
  refine Go_bipush ⟨by decide, by unfold in32; omega⟩ dX6_copyFrom_110 ?_
  refine Go_copyv (M 7) (M 30) rfl rfl cpX6_54 sh_7 sh_30 rfl ⟨Nat.le_of_ble_eq_true rfl, Nat.le_of_ble_eq_true rfl⟩ dX6_copyFrom_112 ?_
  exact Go_ret rfl dX6_copyFrom_115
set_option maxHeartbeats 4000000 in
set_option maxRecDepth 100000 in
theorem cp_1_24 {D : va_G} {ca : Nat → ClassId} {M : gMem} (hp : gPtr M) : Fn D ca mX6_copyFrom [gR 1, gR 24] SH M [] SH (cpV M 1 24) := by
  refine Fn_of okX6_copyFrom (Nat.le_of_ble_eq_true rfl) (Or.inl ⟨rfl, rfl⟩) (Nat.le_refl _) (Nat.le_refl _) ?_
  refine Go_ls2 (ls' := [(0, gR 1), (1, gR 24)]) rfl ?_
  refine Go_o 1 ?_
  refine Go_aload_n 0 rfl rfl dX6_copyFrom_0 ?_
  refine Go_aload_n 1 rfl rfl dX6_copyFrom_1 ?_
  refine Go_getIv (v := M 24 0) rfl faX6_9 sh_24 dX6_copyFrom_2 ?_
  refine Go_putIS fpX6_9 sh_1 dX6_copyFrom_5 ?_
  refine Go_aload_n 0 rfl rfl dX6_copyFrom_8 ?_
  refine Go_aload_n 1 rfl rfl dX6_copyFrom_9 ?_
  refine Go_getIv (v := M 24 1) rfl faX6_15 sh_24 dX6_copyFrom_10 ?_
  refine Go_putIS fpX6_15 sh_1 dX6_copyFrom_13 ?_
  refine Go_aload_n 0 rfl rfl dX6_copyFrom_16 ?_
  refine Go_aload_n 1 rfl rfl dX6_copyFrom_17 ?_
  refine Go_getIv (v := M 24 2) rfl faX6_18 sh_24 dX6_copyFrom_18 ?_
  refine Go_putIS fpX6_18 sh_1 dX6_copyFrom_21 ?_
  refine Go_aload_n 1 rfl rfl dX6_copyFrom_24 ?_
  refine Go_getR (c' := 25) faX6_21 sh_24 (pt_24_3 (M := M) hp) dX6_copyFrom_25 ?_
  refine Go_iconst (by unfold in32; omega) dX6_copyFrom_28 ?_
  refine Go_aload_n 0 rfl rfl dX6_copyFrom_29 ?_
  refine Go_getR (c' := 2) faX6_21 sh_1 (pt_1_3 (M := M) hp) dX6_copyFrom_30 ?_
  refine Go_iconst (by unfold in32; omega) dX6_copyFrom_33 ?_
  refine Go_bipush ⟨by decide, by unfold in32; omega⟩ dX6_copyFrom_34 ?_
  refine Go_copyv (M 25) (M 2) rfl rfl cpX6_54 sh_25 sh_2 rfl ⟨Nat.le_of_ble_eq_true rfl, Nat.le_of_ble_eq_true rfl⟩ dX6_copyFrom_36 ?_
  refine Go_aload_n 1 rfl rfl dX6_copyFrom_39 ?_
  refine Go_getR (c' := 26) faX6_25 sh_24 (pt_24_4 (M := M) hp) dX6_copyFrom_40 ?_
  refine Go_iconst (by unfold in32; omega) dX6_copyFrom_43 ?_
  refine Go_aload_n 0 rfl rfl dX6_copyFrom_44 ?_
  refine Go_getR (c' := 3) faX6_25 sh_1 (pt_1_4 (M := M) hp) dX6_copyFrom_45 ?_
  refine Go_iconst (by unfold in32; omega) dX6_copyFrom_48 ?_
  refine Go_sipush ⟨by decide, by unfold in32; omega⟩ dX6_copyFrom_49 ?_
  refine Go_copyv (M 26) (M 3) rfl rfl cpX6_54 sh_26 sh_3 rfl ⟨Nat.le_of_ble_eq_true rfl, Nat.le_of_ble_eq_true rfl⟩ dX6_copyFrom_52 ?_
  refine Go_aload_n 1 rfl rfl dX6_copyFrom_55 ?_
  refine Go_getR (c' := 27) faX6_28 sh_24 (pt_24_5 (M := M) hp) dX6_copyFrom_56 ?_
  refine Go_iconst (by unfold in32; omega) dX6_copyFrom_59 ?_
  refine Go_aload_n 0 rfl rfl dX6_copyFrom_60 ?_
  refine Go_getR (c' := 4) faX6_28 sh_1 (pt_1_5 (M := M) hp) dX6_copyFrom_61 ?_
  refine Go_iconst (by unfold in32; omega) dX6_copyFrom_64 ?_
  refine Go_bipush ⟨by decide, by unfold in32; omega⟩ dX6_copyFrom_65 ?_
  refine Go_copyv (M 27) (M 4) rfl rfl cpX6_54 sh_27 sh_4 rfl ⟨Nat.le_of_ble_eq_true rfl, Nat.le_of_ble_eq_true rfl⟩ dX6_copyFrom_67 ?_
  refine Go_aload_n 1 rfl rfl dX6_copyFrom_70 ?_
  refine Go_getR (c' := 28) faX6_31 sh_24 (pt_24_6 (M := M) hp) dX6_copyFrom_71 ?_
  refine Go_iconst (by unfold in32; omega) dX6_copyFrom_74 ?_
  refine Go_aload_n 0 rfl rfl dX6_copyFrom_75 ?_
  refine Go_getR (c' := 5) faX6_31 sh_1 (pt_1_6 (M := M) hp) dX6_copyFrom_76 ?_
  refine Go_iconst (by unfold in32; omega) dX6_copyFrom_79 ?_
  refine Go_bipush ⟨by decide, by unfold in32; omega⟩ dX6_copyFrom_80 ?_
  refine Go_copyv (M 28) (M 5) rfl rfl cpX6_54 sh_28 sh_5 rfl ⟨Nat.le_of_ble_eq_true rfl, Nat.le_of_ble_eq_true rfl⟩ dX6_copyFrom_82 ?_
  refine Go_aload_n 1 rfl rfl dX6_copyFrom_85 ?_
  refine Go_getR (c' := 29) faX6_34 sh_24 (pt_24_7 (M := M) hp) dX6_copyFrom_86 ?_
  refine Go_iconst (by unfold in32; omega) dX6_copyFrom_89 ?_
  refine Go_aload_n 0 rfl rfl dX6_copyFrom_90 ?_
  refine Go_getR (c' := 6) faX6_34 sh_1 (pt_1_7 (M := M) hp) dX6_copyFrom_91 ?_
  refine Go_iconst (by unfold in32; omega) dX6_copyFrom_94 ?_
  refine Go_bipush ⟨by decide, by unfold in32; omega⟩ dX6_copyFrom_95 ?_
  refine Go_copyv (M 29) (M 6) rfl rfl cpX6_54 sh_29 sh_6 rfl ⟨Nat.le_of_ble_eq_true rfl, Nat.le_of_ble_eq_true rfl⟩ dX6_copyFrom_97 ?_
  refine Go_aload_n 1 rfl rfl dX6_copyFrom_100 ?_
  refine Go_getR (c' := 30) faX6_37 sh_24 (pt_24_8 (M := M) hp) dX6_copyFrom_101 ?_
  refine Go_iconst (by unfold in32; omega) dX6_copyFrom_104 ?_
  refine Go_aload_n 0 rfl rfl dX6_copyFrom_105 ?_
  refine Go_getR (c' := 7) faX6_37 sh_1 (pt_1_8 (M := M) hp) dX6_copyFrom_106 ?_
  refine Go_iconst (by unfold in32; omega) dX6_copyFrom_109 ?_
  refine Go_bipush ⟨by decide, by unfold in32; omega⟩ dX6_copyFrom_110 ?_
  refine Go_copyv (M 30) (M 7) rfl rfl cpX6_54 sh_30 sh_7 rfl ⟨Nat.le_of_ble_eq_true rfl, Nat.le_of_ble_eq_true rfl⟩ dX6_copyFrom_112 ?_
  exact Go_ret rfl dX6_copyFrom_115
set_option maxHeartbeats 4000000 in
set_option maxRecDepth 100000 in
theorem lk_24 {D : va_G} {ca : Nat → ClassId} {M : gMem} (hp : gPtr M) : Fn D ca mX6_isLike [gR 24, gR 1] SH M [gI (bI (likeB M 24 1 = true))] SH (M) := by
  refine Fn_of okX6_isLike (Nat.le_of_ble_eq_true rfl) (Or.inr (Or.inr (Or.inl ⟨_, rfl, rfl, bI_01 _⟩))) (Nat.le_refl _) (Nat.le_refl _) ?_
  refine Go_ls2 (ls' := [(0, gR 24), (1, gR 1)]) rfl ?_
  refine Go_aload_n 0 rfl rfl dX6_isLike_0 ?_
  refine Go_getI faX6_9 sh_24 dX6_isLike_1 ?_
  refine Go_aload_n 1 rfl rfl dX6_isLike_4 ?_
  refine Go_getI faX6_9 sh_1 dX6_isLike_5 ?_
  refine Go_icmp_ne dX6_isLike_8 rfl (fun h8 => ?_) (fun h8 => ?_)
  · skip
    refine Go_iconst (by unfold in32; omega) dX6_isLike_79 ?_
    exact Go_ret (by rw [bI_f (likeB_f (fun q => by first | exact h8 q.1 | exact h19 q.2.1 | exact h30 q.2.2.1 | exact h44 (eqR_iff.mpr q.2.2.2.1) | exact h58 (eqR_iff.mpr q.2.2.2.2.1) | exact h72 (eqR_iff.mpr q.2.2.2.2.2)))]) dX6_isLike_80
  · skip
    refine Go_aload_n 0 rfl rfl dX6_isLike_11 ?_
    refine Go_getI faX6_15 sh_24 dX6_isLike_12 ?_
    refine Go_aload_n 1 rfl rfl dX6_isLike_15 ?_
    refine Go_getI faX6_15 sh_1 dX6_isLike_16 ?_
    refine Go_icmp_ne dX6_isLike_19 rfl (fun h19 => ?_) (fun h19 => ?_)
    · skip
      refine Go_iconst (by unfold in32; omega) dX6_isLike_79 ?_
      exact Go_ret (by rw [bI_f (likeB_f (fun q => by first | exact h8 q.1 | exact h19 q.2.1 | exact h30 q.2.2.1 | exact h44 (eqR_iff.mpr q.2.2.2.1) | exact h58 (eqR_iff.mpr q.2.2.2.2.1) | exact h72 (eqR_iff.mpr q.2.2.2.2.2)))]) dX6_isLike_80
    · skip
      refine Go_aload_n 0 rfl rfl dX6_isLike_22 ?_
      refine Go_getI faX6_18 sh_24 dX6_isLike_23 ?_
      refine Go_aload_n 1 rfl rfl dX6_isLike_26 ?_
      refine Go_getI faX6_18 sh_1 dX6_isLike_27 ?_
      refine Go_icmp_ne dX6_isLike_30 rfl (fun h30 => ?_) (fun h30 => ?_)
      · skip
        refine Go_iconst (by unfold in32; omega) dX6_isLike_79 ?_
        exact Go_ret (by rw [bI_f (likeB_f (fun q => by first | exact h8 q.1 | exact h19 q.2.1 | exact h30 q.2.2.1 | exact h44 (eqR_iff.mpr q.2.2.2.1) | exact h58 (eqR_iff.mpr q.2.2.2.2.1) | exact h72 (eqR_iff.mpr q.2.2.2.2.2)))]) dX6_isLike_80
      · skip
        refine Go_aload_n 0 rfl rfl dX6_isLike_33 ?_
        refine Go_getR (c' := 25) faX6_21 sh_24 (pt_24_3 (M := M) hp) dX6_isLike_34 ?_
        refine Go_aload_n 1 rfl rfl dX6_isLike_37 ?_
        refine Go_getR (c' := 2) faX6_21 sh_1 (pt_1_3 (M := M) hp) dX6_isLike_38 ?_
        refine Go_callSI (fX6_sameRows 25 2 12 sh_25 sh_2 (by decide)) cwX6_60 smX6_sameRows ⟨Nat.le_of_ble_eq_true rfl, Nat.le_of_ble_eq_true rfl⟩ rfl (Nat.le_of_ble_eq_true rfl) sh_rf dX6_isLike_41 ?_
        refine Go_if_eq dX6_isLike_44 rfl (fun h44 => ?_) (fun h44 => ?_)
        · skip
          replace h44 := bI_0.mp h44
          refine Go_iconst (by unfold in32; omega) dX6_isLike_79 ?_
          exact Go_ret (by rw [bI_f (likeB_f (fun q => by first | exact h8 q.1 | exact h19 q.2.1 | exact h30 q.2.2.1 | exact h44 (eqR_iff.mpr q.2.2.2.1) | exact h58 (eqR_iff.mpr q.2.2.2.2.1) | exact h72 (eqR_iff.mpr q.2.2.2.2.2)))]) dX6_isLike_80
        · skip
          replace h44 := bI_n.mp h44
          refine Go_aload_n 0 rfl rfl dX6_isLike_47 ?_
          refine Go_getR (c' := 26) faX6_25 sh_24 (pt_24_4 (M := M) hp) dX6_isLike_48 ?_
          refine Go_aload_n 1 rfl rfl dX6_isLike_51 ?_
          refine Go_getR (c' := 3) faX6_25 sh_1 (pt_1_4 (M := M) hp) dX6_isLike_52 ?_
          refine Go_callSI (fX6_sameRows 26 3 144 sh_26 sh_3 (by decide)) cwX6_60 smX6_sameRows ⟨Nat.le_of_ble_eq_true rfl, Nat.le_of_ble_eq_true rfl⟩ rfl (Nat.le_of_ble_eq_true rfl) sh_rf dX6_isLike_55 ?_
          refine Go_if_eq dX6_isLike_58 rfl (fun h58 => ?_) (fun h58 => ?_)
          · skip
            replace h58 := bI_0.mp h58
            refine Go_iconst (by unfold in32; omega) dX6_isLike_79 ?_
            exact Go_ret (by rw [bI_f (likeB_f (fun q => by first | exact h8 q.1 | exact h19 q.2.1 | exact h30 q.2.2.1 | exact h44 (eqR_iff.mpr q.2.2.2.1) | exact h58 (eqR_iff.mpr q.2.2.2.2.1) | exact h72 (eqR_iff.mpr q.2.2.2.2.2)))]) dX6_isLike_80
          · skip
            replace h58 := bI_n.mp h58
            refine Go_aload_n 0 rfl rfl dX6_isLike_61 ?_
            refine Go_getR (c' := 30) faX6_37 sh_24 (pt_24_8 (M := M) hp) dX6_isLike_62 ?_
            refine Go_aload_n 1 rfl rfl dX6_isLike_65 ?_
            refine Go_getR (c' := 7) faX6_37 sh_1 (pt_1_8 (M := M) hp) dX6_isLike_66 ?_
            refine Go_callSI (fX6_sameRows 30 7 10 sh_30 sh_7 (by decide)) cwX6_60 smX6_sameRows ⟨Nat.le_of_ble_eq_true rfl, Nat.le_of_ble_eq_true rfl⟩ rfl (Nat.le_of_ble_eq_true rfl) sh_rf dX6_isLike_69 ?_
            refine Go_if_eq dX6_isLike_72 rfl (fun h72 => ?_) (fun h72 => ?_)
            · skip
              replace h72 := bI_0.mp h72
              refine Go_iconst (by unfold in32; omega) dX6_isLike_79 ?_
              exact Go_ret (by rw [bI_f (likeB_f (fun q => by first | exact h8 q.1 | exact h19 q.2.1 | exact h30 q.2.2.1 | exact h44 (eqR_iff.mpr q.2.2.2.1) | exact h58 (eqR_iff.mpr q.2.2.2.2.1) | exact h72 (eqR_iff.mpr q.2.2.2.2.2)))]) dX6_isLike_80
            · skip
              replace h72 := bI_n.mp h72
              refine Go_iconst (by unfold in32; omega) dX6_isLike_75 ?_
              refine Go_goto dX6_isLike_76 rfl ?_
              exact Go_ret (by rw [bI_t (likeB_t ⟨h8, h19, h30, eqR_iff.mp h44, eqR_iff.mp h58, eqR_iff.mp h72⟩)]) dX6_isLike_80
set_option maxHeartbeats 4000000 in
set_option maxRecDepth 100000 in
theorem cp_31_1 {D : va_G} {ca : Nat → ClassId} {M : gMem} (hp : gPtr M) : Fn D ca mX6_copyFrom [gR 31, gR 1] SH M [] SH (cpV M 31 1) := by
  refine Fn_of okX6_copyFrom (Nat.le_of_ble_eq_true rfl) (Or.inl ⟨rfl, rfl⟩) (Nat.le_refl _) (Nat.le_refl _) ?_
  refine Go_ls2 (ls' := [(0, gR 31), (1, gR 1)]) rfl ?_
  refine Go_o 31 ?_
  refine Go_aload_n 0 rfl rfl dX6_copyFrom_0 ?_
  refine Go_aload_n 1 rfl rfl dX6_copyFrom_1 ?_
  refine Go_getIv (v := M 1 0) rfl faX6_9 sh_1 dX6_copyFrom_2 ?_
  refine Go_putIS fpX6_9 sh_31 dX6_copyFrom_5 ?_
  refine Go_aload_n 0 rfl rfl dX6_copyFrom_8 ?_
  refine Go_aload_n 1 rfl rfl dX6_copyFrom_9 ?_
  refine Go_getIv (v := M 1 1) rfl faX6_15 sh_1 dX6_copyFrom_10 ?_
  refine Go_putIS fpX6_15 sh_31 dX6_copyFrom_13 ?_
  refine Go_aload_n 0 rfl rfl dX6_copyFrom_16 ?_
  refine Go_aload_n 1 rfl rfl dX6_copyFrom_17 ?_
  refine Go_getIv (v := M 1 2) rfl faX6_18 sh_1 dX6_copyFrom_18 ?_
  refine Go_putIS fpX6_18 sh_31 dX6_copyFrom_21 ?_
  refine Go_aload_n 1 rfl rfl dX6_copyFrom_24 ?_
  refine Go_getR (c' := 2) faX6_21 sh_1 (pt_1_3 (M := M) hp) dX6_copyFrom_25 ?_
  refine Go_iconst (by unfold in32; omega) dX6_copyFrom_28 ?_
  refine Go_aload_n 0 rfl rfl dX6_copyFrom_29 ?_
  refine Go_getR (c' := 32) faX6_21 sh_31 (pt_31_3 (M := M) hp) dX6_copyFrom_30 ?_
  refine Go_iconst (by unfold in32; omega) dX6_copyFrom_33 ?_
  refine Go_bipush ⟨by decide, by unfold in32; omega⟩ dX6_copyFrom_34 ?_
  refine Go_copyv (M 2) (M 32) rfl rfl cpX6_54 sh_2 sh_32 rfl ⟨Nat.le_of_ble_eq_true rfl, Nat.le_of_ble_eq_true rfl⟩ dX6_copyFrom_36 ?_
  refine Go_aload_n 1 rfl rfl dX6_copyFrom_39 ?_
  refine Go_getR (c' := 3) faX6_25 sh_1 (pt_1_4 (M := M) hp) dX6_copyFrom_40 ?_
  refine Go_iconst (by unfold in32; omega) dX6_copyFrom_43 ?_
  refine Go_aload_n 0 rfl rfl dX6_copyFrom_44 ?_
  refine Go_getR (c' := 33) faX6_25 sh_31 (pt_31_4 (M := M) hp) dX6_copyFrom_45 ?_
  refine Go_iconst (by unfold in32; omega) dX6_copyFrom_48 ?_
  refine Go_sipush ⟨by decide, by unfold in32; omega⟩ dX6_copyFrom_49 ?_
  refine Go_copyv (M 3) (M 33) rfl rfl cpX6_54 sh_3 sh_33 rfl ⟨Nat.le_of_ble_eq_true rfl, Nat.le_of_ble_eq_true rfl⟩ dX6_copyFrom_52 ?_
  refine Go_aload_n 1 rfl rfl dX6_copyFrom_55 ?_
  refine Go_getR (c' := 4) faX6_28 sh_1 (pt_1_5 (M := M) hp) dX6_copyFrom_56 ?_
  refine Go_iconst (by unfold in32; omega) dX6_copyFrom_59 ?_
  refine Go_aload_n 0 rfl rfl dX6_copyFrom_60 ?_
  refine Go_getR (c' := 34) faX6_28 sh_31 (pt_31_5 (M := M) hp) dX6_copyFrom_61 ?_
  refine Go_iconst (by unfold in32; omega) dX6_copyFrom_64 ?_
  refine Go_bipush ⟨by decide, by unfold in32; omega⟩ dX6_copyFrom_65 ?_
  refine Go_copyv (M 4) (M 34) rfl rfl cpX6_54 sh_4 sh_34 rfl ⟨Nat.le_of_ble_eq_true rfl, Nat.le_of_ble_eq_true rfl⟩ dX6_copyFrom_67 ?_
  refine Go_aload_n 1 rfl rfl dX6_copyFrom_70 ?_
  refine Go_getR (c' := 5) faX6_31 sh_1 (pt_1_6 (M := M) hp) dX6_copyFrom_71 ?_
  refine Go_iconst (by unfold in32; omega) dX6_copyFrom_74 ?_
  refine Go_aload_n 0 rfl rfl dX6_copyFrom_75 ?_
  refine Go_getR (c' := 35) faX6_31 sh_31 (pt_31_6 (M := M) hp) dX6_copyFrom_76 ?_
  refine Go_iconst (by unfold in32; omega) dX6_copyFrom_79 ?_
  refine Go_bipush ⟨by decide, by unfold in32; omega⟩ dX6_copyFrom_80 ?_
  refine Go_copyv (M 5) (M 35) rfl rfl cpX6_54 sh_5 sh_35 rfl ⟨Nat.le_of_ble_eq_true rfl, Nat.le_of_ble_eq_true rfl⟩ dX6_copyFrom_82 ?_
  refine Go_aload_n 1 rfl rfl dX6_copyFrom_85 ?_
  refine Go_getR (c' := 6) faX6_34 sh_1 (pt_1_7 (M := M) hp) dX6_copyFrom_86 ?_
  refine Go_iconst (by unfold in32; omega) dX6_copyFrom_89 ?_
  refine Go_aload_n 0 rfl rfl dX6_copyFrom_90 ?_
  refine Go_getR (c' := 36) faX6_34 sh_31 (pt_31_7 (M := M) hp) dX6_copyFrom_91 ?_
  refine Go_iconst (by unfold in32; omega) dX6_copyFrom_94 ?_
  refine Go_bipush ⟨by decide, by unfold in32; omega⟩ dX6_copyFrom_95 ?_
  refine Go_copyv (M 6) (M 36) rfl rfl cpX6_54 sh_6 sh_36 rfl ⟨Nat.le_of_ble_eq_true rfl, Nat.le_of_ble_eq_true rfl⟩ dX6_copyFrom_97 ?_
  refine Go_aload_n 1 rfl rfl dX6_copyFrom_100 ?_
  refine Go_getR (c' := 7) faX6_37 sh_1 (pt_1_8 (M := M) hp) dX6_copyFrom_101 ?_
  refine Go_iconst (by unfold in32; omega) dX6_copyFrom_104 ?_
  refine Go_aload_n 0 rfl rfl dX6_copyFrom_105 ?_
  refine Go_getR (c' := 37) faX6_37 sh_31 (pt_31_8 (M := M) hp) dX6_copyFrom_106 ?_
  refine Go_iconst (by unfold in32; omega) dX6_copyFrom_109 ?_
  refine Go_bipush ⟨by decide, by unfold in32; omega⟩ dX6_copyFrom_110 ?_
  refine Go_copyv (M 7) (M 37) rfl rfl cpX6_54 sh_7 sh_37 rfl ⟨Nat.le_of_ble_eq_true rfl, Nat.le_of_ble_eq_true rfl⟩ dX6_copyFrom_112 ?_
  exact Go_ret rfl dX6_copyFrom_115
set_option maxHeartbeats 4000000 in
set_option maxRecDepth 100000 in
theorem cp_1_31 {D : va_G} {ca : Nat → ClassId} {M : gMem} (hp : gPtr M) : Fn D ca mX6_copyFrom [gR 1, gR 31] SH M [] SH (cpV M 1 31) := by
  refine Fn_of okX6_copyFrom (Nat.le_of_ble_eq_true rfl) (Or.inl ⟨rfl, rfl⟩) (Nat.le_refl _) (Nat.le_refl _) ?_
  refine Go_ls2 (ls' := [(0, gR 1), (1, gR 31)]) rfl ?_
  refine Go_o 1 ?_
  refine Go_aload_n 0 rfl rfl dX6_copyFrom_0 ?_
  refine Go_aload_n 1 rfl rfl dX6_copyFrom_1 ?_
  refine Go_getIv (v := M 31 0) rfl faX6_9 sh_31 dX6_copyFrom_2 ?_
  refine Go_putIS fpX6_9 sh_1 dX6_copyFrom_5 ?_
  refine Go_aload_n 0 rfl rfl dX6_copyFrom_8 ?_
  refine Go_aload_n 1 rfl rfl dX6_copyFrom_9 ?_
  refine Go_getIv (v := M 31 1) rfl faX6_15 sh_31 dX6_copyFrom_10 ?_
  refine Go_putIS fpX6_15 sh_1 dX6_copyFrom_13 ?_
  refine Go_aload_n 0 rfl rfl dX6_copyFrom_16 ?_
  refine Go_aload_n 1 rfl rfl dX6_copyFrom_17 ?_
  refine Go_getIv (v := M 31 2) rfl faX6_18 sh_31 dX6_copyFrom_18 ?_
  refine Go_putIS fpX6_18 sh_1 dX6_copyFrom_21 ?_
  refine Go_aload_n 1 rfl rfl dX6_copyFrom_24 ?_
  refine Go_getR (c' := 32) faX6_21 sh_31 (pt_31_3 (M := M) hp) dX6_copyFrom_25 ?_
  refine Go_iconst (by unfold in32; omega) dX6_copyFrom_28 ?_
  refine Go_aload_n 0 rfl rfl dX6_copyFrom_29 ?_
  refine Go_getR (c' := 2) faX6_21 sh_1 (pt_1_3 (M := M) hp) dX6_copyFrom_30 ?_
  refine Go_iconst (by unfold in32; omega) dX6_copyFrom_33 ?_
  refine Go_bipush ⟨by decide, by unfold in32; omega⟩ dX6_copyFrom_34 ?_
  refine Go_copyv (M 32) (M 2) rfl rfl cpX6_54 sh_32 sh_2 rfl ⟨Nat.le_of_ble_eq_true rfl, Nat.le_of_ble_eq_true rfl⟩ dX6_copyFrom_36 ?_
  refine Go_aload_n 1 rfl rfl dX6_copyFrom_39 ?_
  refine Go_getR (c' := 33) faX6_25 sh_31 (pt_31_4 (M := M) hp) dX6_copyFrom_40 ?_
  refine Go_iconst (by unfold in32; omega) dX6_copyFrom_43 ?_
  refine Go_aload_n 0 rfl rfl dX6_copyFrom_44 ?_
  refine Go_getR (c' := 3) faX6_25 sh_1 (pt_1_4 (M := M) hp) dX6_copyFrom_45 ?_
  refine Go_iconst (by unfold in32; omega) dX6_copyFrom_48 ?_
  refine Go_sipush ⟨by decide, by unfold in32; omega⟩ dX6_copyFrom_49 ?_
  refine Go_copyv (M 33) (M 3) rfl rfl cpX6_54 sh_33 sh_3 rfl ⟨Nat.le_of_ble_eq_true rfl, Nat.le_of_ble_eq_true rfl⟩ dX6_copyFrom_52 ?_
  refine Go_aload_n 1 rfl rfl dX6_copyFrom_55 ?_
  refine Go_getR (c' := 34) faX6_28 sh_31 (pt_31_5 (M := M) hp) dX6_copyFrom_56 ?_
  refine Go_iconst (by unfold in32; omega) dX6_copyFrom_59 ?_
  refine Go_aload_n 0 rfl rfl dX6_copyFrom_60 ?_
  refine Go_getR (c' := 4) faX6_28 sh_1 (pt_1_5 (M := M) hp) dX6_copyFrom_61 ?_
  refine Go_iconst (by unfold in32; omega) dX6_copyFrom_64 ?_
  refine Go_bipush ⟨by decide, by unfold in32; omega⟩ dX6_copyFrom_65 ?_
  refine Go_copyv (M 34) (M 4) rfl rfl cpX6_54 sh_34 sh_4 rfl ⟨Nat.le_of_ble_eq_true rfl, Nat.le_of_ble_eq_true rfl⟩ dX6_copyFrom_67 ?_
  refine Go_aload_n 1 rfl rfl dX6_copyFrom_70 ?_
  refine Go_getR (c' := 35) faX6_31 sh_31 (pt_31_6 (M := M) hp) dX6_copyFrom_71 ?_
  refine Go_iconst (by unfold in32; omega) dX6_copyFrom_74 ?_
  refine Go_aload_n 0 rfl rfl dX6_copyFrom_75 ?_
  refine Go_getR (c' := 5) faX6_31 sh_1 (pt_1_6 (M := M) hp) dX6_copyFrom_76 ?_
  refine Go_iconst (by unfold in32; omega) dX6_copyFrom_79 ?_
  refine Go_bipush ⟨by decide, by unfold in32; omega⟩ dX6_copyFrom_80 ?_
  refine Go_copyv (M 35) (M 5) rfl rfl cpX6_54 sh_35 sh_5 rfl ⟨Nat.le_of_ble_eq_true rfl, Nat.le_of_ble_eq_true rfl⟩ dX6_copyFrom_82 ?_
  refine Go_aload_n 1 rfl rfl dX6_copyFrom_85 ?_
  refine Go_getR (c' := 36) faX6_34 sh_31 (pt_31_7 (M := M) hp) dX6_copyFrom_86 ?_
  refine Go_iconst (by unfold in32; omega) dX6_copyFrom_89 ?_
  refine Go_aload_n 0 rfl rfl dX6_copyFrom_90 ?_
  refine Go_getR (c' := 6) faX6_34 sh_1 (pt_1_7 (M := M) hp) dX6_copyFrom_91 ?_
  refine Go_iconst (by unfold in32; omega) dX6_copyFrom_94 ?_
  refine Go_bipush ⟨by decide, by unfold in32; omega⟩ dX6_copyFrom_95 ?_
  refine Go_copyv (M 36) (M 6) rfl rfl cpX6_54 sh_36 sh_6 rfl ⟨Nat.le_of_ble_eq_true rfl, Nat.le_of_ble_eq_true rfl⟩ dX6_copyFrom_97 ?_
  refine Go_aload_n 1 rfl rfl dX6_copyFrom_100 ?_
  refine Go_getR (c' := 37) faX6_37 sh_31 (pt_31_8 (M := M) hp) dX6_copyFrom_101 ?_
  refine Go_iconst (by unfold in32; omega) dX6_copyFrom_104 ?_
  refine Go_aload_n 0 rfl rfl dX6_copyFrom_105 ?_
  refine Go_getR (c' := 7) faX6_37 sh_1 (pt_1_8 (M := M) hp) dX6_copyFrom_106 ?_
  refine Go_iconst (by unfold in32; omega) dX6_copyFrom_109 ?_
  refine Go_bipush ⟨by decide, by unfold in32; omega⟩ dX6_copyFrom_110 ?_
  refine Go_copyv (M 37) (M 7) rfl rfl cpX6_54 sh_37 sh_7 rfl ⟨Nat.le_of_ble_eq_true rfl, Nat.le_of_ble_eq_true rfl⟩ dX6_copyFrom_112 ?_
  exact Go_ret rfl dX6_copyFrom_115
set_option maxHeartbeats 4000000 in
set_option maxRecDepth 100000 in
theorem lk_31 {D : va_G} {ca : Nat → ClassId} {M : gMem} (hp : gPtr M) : Fn D ca mX6_isLike [gR 31, gR 1] SH M [gI (bI (likeB M 31 1 = true))] SH (M) := by
  refine Fn_of okX6_isLike (Nat.le_of_ble_eq_true rfl) (Or.inr (Or.inr (Or.inl ⟨_, rfl, rfl, bI_01 _⟩))) (Nat.le_refl _) (Nat.le_refl _) ?_
  refine Go_ls2 (ls' := [(0, gR 31), (1, gR 1)]) rfl ?_
  refine Go_aload_n 0 rfl rfl dX6_isLike_0 ?_
  refine Go_getI faX6_9 sh_31 dX6_isLike_1 ?_
  refine Go_aload_n 1 rfl rfl dX6_isLike_4 ?_
  refine Go_getI faX6_9 sh_1 dX6_isLike_5 ?_
  refine Go_icmp_ne dX6_isLike_8 rfl (fun h8 => ?_) (fun h8 => ?_)
  · skip
    refine Go_iconst (by unfold in32; omega) dX6_isLike_79 ?_
    exact Go_ret (by rw [bI_f (likeB_f (fun q => by first | exact h8 q.1 | exact h19 q.2.1 | exact h30 q.2.2.1 | exact h44 (eqR_iff.mpr q.2.2.2.1) | exact h58 (eqR_iff.mpr q.2.2.2.2.1) | exact h72 (eqR_iff.mpr q.2.2.2.2.2)))]) dX6_isLike_80
  · skip
    refine Go_aload_n 0 rfl rfl dX6_isLike_11 ?_
    refine Go_getI faX6_15 sh_31 dX6_isLike_12 ?_
    refine Go_aload_n 1 rfl rfl dX6_isLike_15 ?_
    refine Go_getI faX6_15 sh_1 dX6_isLike_16 ?_
    refine Go_icmp_ne dX6_isLike_19 rfl (fun h19 => ?_) (fun h19 => ?_)
    · skip
      refine Go_iconst (by unfold in32; omega) dX6_isLike_79 ?_
      exact Go_ret (by rw [bI_f (likeB_f (fun q => by first | exact h8 q.1 | exact h19 q.2.1 | exact h30 q.2.2.1 | exact h44 (eqR_iff.mpr q.2.2.2.1) | exact h58 (eqR_iff.mpr q.2.2.2.2.1) | exact h72 (eqR_iff.mpr q.2.2.2.2.2)))]) dX6_isLike_80
    · skip
      refine Go_aload_n 0 rfl rfl dX6_isLike_22 ?_
      refine Go_getI faX6_18 sh_31 dX6_isLike_23 ?_
      refine Go_aload_n 1 rfl rfl dX6_isLike_26 ?_
      refine Go_getI faX6_18 sh_1 dX6_isLike_27 ?_
      refine Go_icmp_ne dX6_isLike_30 rfl (fun h30 => ?_) (fun h30 => ?_)
      · skip
        refine Go_iconst (by unfold in32; omega) dX6_isLike_79 ?_
        exact Go_ret (by rw [bI_f (likeB_f (fun q => by first | exact h8 q.1 | exact h19 q.2.1 | exact h30 q.2.2.1 | exact h44 (eqR_iff.mpr q.2.2.2.1) | exact h58 (eqR_iff.mpr q.2.2.2.2.1) | exact h72 (eqR_iff.mpr q.2.2.2.2.2)))]) dX6_isLike_80
      · skip
        refine Go_aload_n 0 rfl rfl dX6_isLike_33 ?_
        refine Go_getR (c' := 32) faX6_21 sh_31 (pt_31_3 (M := M) hp) dX6_isLike_34 ?_
        refine Go_aload_n 1 rfl rfl dX6_isLike_37 ?_
        refine Go_getR (c' := 2) faX6_21 sh_1 (pt_1_3 (M := M) hp) dX6_isLike_38 ?_
        refine Go_callSI (fX6_sameRows 32 2 12 sh_32 sh_2 (by decide)) cwX6_60 smX6_sameRows ⟨Nat.le_of_ble_eq_true rfl, Nat.le_of_ble_eq_true rfl⟩ rfl (Nat.le_of_ble_eq_true rfl) sh_rf dX6_isLike_41 ?_
        refine Go_if_eq dX6_isLike_44 rfl (fun h44 => ?_) (fun h44 => ?_)
        · skip
          replace h44 := bI_0.mp h44
          refine Go_iconst (by unfold in32; omega) dX6_isLike_79 ?_
          exact Go_ret (by rw [bI_f (likeB_f (fun q => by first | exact h8 q.1 | exact h19 q.2.1 | exact h30 q.2.2.1 | exact h44 (eqR_iff.mpr q.2.2.2.1) | exact h58 (eqR_iff.mpr q.2.2.2.2.1) | exact h72 (eqR_iff.mpr q.2.2.2.2.2)))]) dX6_isLike_80
        · skip
          replace h44 := bI_n.mp h44
          refine Go_aload_n 0 rfl rfl dX6_isLike_47 ?_
          refine Go_getR (c' := 33) faX6_25 sh_31 (pt_31_4 (M := M) hp) dX6_isLike_48 ?_
          refine Go_aload_n 1 rfl rfl dX6_isLike_51 ?_
          refine Go_getR (c' := 3) faX6_25 sh_1 (pt_1_4 (M := M) hp) dX6_isLike_52 ?_
          refine Go_callSI (fX6_sameRows 33 3 144 sh_33 sh_3 (by decide)) cwX6_60 smX6_sameRows ⟨Nat.le_of_ble_eq_true rfl, Nat.le_of_ble_eq_true rfl⟩ rfl (Nat.le_of_ble_eq_true rfl) sh_rf dX6_isLike_55 ?_
          refine Go_if_eq dX6_isLike_58 rfl (fun h58 => ?_) (fun h58 => ?_)
          · skip
            replace h58 := bI_0.mp h58
            refine Go_iconst (by unfold in32; omega) dX6_isLike_79 ?_
            exact Go_ret (by rw [bI_f (likeB_f (fun q => by first | exact h8 q.1 | exact h19 q.2.1 | exact h30 q.2.2.1 | exact h44 (eqR_iff.mpr q.2.2.2.1) | exact h58 (eqR_iff.mpr q.2.2.2.2.1) | exact h72 (eqR_iff.mpr q.2.2.2.2.2)))]) dX6_isLike_80
          · skip
            replace h58 := bI_n.mp h58
            refine Go_aload_n 0 rfl rfl dX6_isLike_61 ?_
            refine Go_getR (c' := 37) faX6_37 sh_31 (pt_31_8 (M := M) hp) dX6_isLike_62 ?_
            refine Go_aload_n 1 rfl rfl dX6_isLike_65 ?_
            refine Go_getR (c' := 7) faX6_37 sh_1 (pt_1_8 (M := M) hp) dX6_isLike_66 ?_
            refine Go_callSI (fX6_sameRows 37 7 10 sh_37 sh_7 (by decide)) cwX6_60 smX6_sameRows ⟨Nat.le_of_ble_eq_true rfl, Nat.le_of_ble_eq_true rfl⟩ rfl (Nat.le_of_ble_eq_true rfl) sh_rf dX6_isLike_69 ?_
            refine Go_if_eq dX6_isLike_72 rfl (fun h72 => ?_) (fun h72 => ?_)
            · skip
              replace h72 := bI_0.mp h72
              refine Go_iconst (by unfold in32; omega) dX6_isLike_79 ?_
              exact Go_ret (by rw [bI_f (likeB_f (fun q => by first | exact h8 q.1 | exact h19 q.2.1 | exact h30 q.2.2.1 | exact h44 (eqR_iff.mpr q.2.2.2.1) | exact h58 (eqR_iff.mpr q.2.2.2.2.1) | exact h72 (eqR_iff.mpr q.2.2.2.2.2)))]) dX6_isLike_80
            · skip
              replace h72 := bI_n.mp h72
              refine Go_iconst (by unfold in32; omega) dX6_isLike_75 ?_
              refine Go_goto dX6_isLike_76 rfl ?_
              exact Go_ret (by rw [bI_t (likeB_t ⟨h8, h19, h30, eqR_iff.mp h44, eqR_iff.mp h58, eqR_iff.mp h72⟩)]) dX6_isLike_80
set_option maxHeartbeats 4000000 in
set_option maxRecDepth 100000 in
theorem cp_38_1 {D : va_G} {ca : Nat → ClassId} {M : gMem} (hp : gPtr M) : Fn D ca mX6_copyFrom [gR 38, gR 1] SH M [] SH (cpV M 38 1) := by
  refine Fn_of okX6_copyFrom (Nat.le_of_ble_eq_true rfl) (Or.inl ⟨rfl, rfl⟩) (Nat.le_refl _) (Nat.le_refl _) ?_
  refine Go_ls2 (ls' := [(0, gR 38), (1, gR 1)]) rfl ?_
  refine Go_o 38 ?_
  refine Go_aload_n 0 rfl rfl dX6_copyFrom_0 ?_
  refine Go_aload_n 1 rfl rfl dX6_copyFrom_1 ?_
  refine Go_getIv (v := M 1 0) rfl faX6_9 sh_1 dX6_copyFrom_2 ?_
  refine Go_putIS fpX6_9 sh_38 dX6_copyFrom_5 ?_
  refine Go_aload_n 0 rfl rfl dX6_copyFrom_8 ?_
  refine Go_aload_n 1 rfl rfl dX6_copyFrom_9 ?_
  refine Go_getIv (v := M 1 1) rfl faX6_15 sh_1 dX6_copyFrom_10 ?_
  refine Go_putIS fpX6_15 sh_38 dX6_copyFrom_13 ?_
  refine Go_aload_n 0 rfl rfl dX6_copyFrom_16 ?_
  refine Go_aload_n 1 rfl rfl dX6_copyFrom_17 ?_
  refine Go_getIv (v := M 1 2) rfl faX6_18 sh_1 dX6_copyFrom_18 ?_
  refine Go_putIS fpX6_18 sh_38 dX6_copyFrom_21 ?_
  refine Go_aload_n 1 rfl rfl dX6_copyFrom_24 ?_
  refine Go_getR (c' := 2) faX6_21 sh_1 (pt_1_3 (M := M) hp) dX6_copyFrom_25 ?_
  refine Go_iconst (by unfold in32; omega) dX6_copyFrom_28 ?_
  refine Go_aload_n 0 rfl rfl dX6_copyFrom_29 ?_
  refine Go_getR (c' := 39) faX6_21 sh_38 (pt_38_3 (M := M) hp) dX6_copyFrom_30 ?_
  refine Go_iconst (by unfold in32; omega) dX6_copyFrom_33 ?_
  refine Go_bipush ⟨by decide, by unfold in32; omega⟩ dX6_copyFrom_34 ?_
  refine Go_copyv (M 2) (M 39) rfl rfl cpX6_54 sh_2 sh_39 rfl ⟨Nat.le_of_ble_eq_true rfl, Nat.le_of_ble_eq_true rfl⟩ dX6_copyFrom_36 ?_
  refine Go_aload_n 1 rfl rfl dX6_copyFrom_39 ?_
  refine Go_getR (c' := 3) faX6_25 sh_1 (pt_1_4 (M := M) hp) dX6_copyFrom_40 ?_
  refine Go_iconst (by unfold in32; omega) dX6_copyFrom_43 ?_
  refine Go_aload_n 0 rfl rfl dX6_copyFrom_44 ?_
  refine Go_getR (c' := 40) faX6_25 sh_38 (pt_38_4 (M := M) hp) dX6_copyFrom_45 ?_
  refine Go_iconst (by unfold in32; omega) dX6_copyFrom_48 ?_
  refine Go_sipush ⟨by decide, by unfold in32; omega⟩ dX6_copyFrom_49 ?_
  refine Go_copyv (M 3) (M 40) rfl rfl cpX6_54 sh_3 sh_40 rfl ⟨Nat.le_of_ble_eq_true rfl, Nat.le_of_ble_eq_true rfl⟩ dX6_copyFrom_52 ?_
  refine Go_aload_n 1 rfl rfl dX6_copyFrom_55 ?_
  refine Go_getR (c' := 4) faX6_28 sh_1 (pt_1_5 (M := M) hp) dX6_copyFrom_56 ?_
  refine Go_iconst (by unfold in32; omega) dX6_copyFrom_59 ?_
  refine Go_aload_n 0 rfl rfl dX6_copyFrom_60 ?_
  refine Go_getR (c' := 41) faX6_28 sh_38 (pt_38_5 (M := M) hp) dX6_copyFrom_61 ?_
  refine Go_iconst (by unfold in32; omega) dX6_copyFrom_64 ?_
  refine Go_bipush ⟨by decide, by unfold in32; omega⟩ dX6_copyFrom_65 ?_
  refine Go_copyv (M 4) (M 41) rfl rfl cpX6_54 sh_4 sh_41 rfl ⟨Nat.le_of_ble_eq_true rfl, Nat.le_of_ble_eq_true rfl⟩ dX6_copyFrom_67 ?_
  refine Go_aload_n 1 rfl rfl dX6_copyFrom_70 ?_
  refine Go_getR (c' := 5) faX6_31 sh_1 (pt_1_6 (M := M) hp) dX6_copyFrom_71 ?_
  refine Go_iconst (by unfold in32; omega) dX6_copyFrom_74 ?_
  refine Go_aload_n 0 rfl rfl dX6_copyFrom_75 ?_
  refine Go_getR (c' := 42) faX6_31 sh_38 (pt_38_6 (M := M) hp) dX6_copyFrom_76 ?_
  refine Go_iconst (by unfold in32; omega) dX6_copyFrom_79 ?_
  refine Go_bipush ⟨by decide, by unfold in32; omega⟩ dX6_copyFrom_80 ?_
  refine Go_copyv (M 5) (M 42) rfl rfl cpX6_54 sh_5 sh_42 rfl ⟨Nat.le_of_ble_eq_true rfl, Nat.le_of_ble_eq_true rfl⟩ dX6_copyFrom_82 ?_
  refine Go_aload_n 1 rfl rfl dX6_copyFrom_85 ?_
  refine Go_getR (c' := 6) faX6_34 sh_1 (pt_1_7 (M := M) hp) dX6_copyFrom_86 ?_
  refine Go_iconst (by unfold in32; omega) dX6_copyFrom_89 ?_
  refine Go_aload_n 0 rfl rfl dX6_copyFrom_90 ?_
  refine Go_getR (c' := 43) faX6_34 sh_38 (pt_38_7 (M := M) hp) dX6_copyFrom_91 ?_
  refine Go_iconst (by unfold in32; omega) dX6_copyFrom_94 ?_
  refine Go_bipush ⟨by decide, by unfold in32; omega⟩ dX6_copyFrom_95 ?_
  refine Go_copyv (M 6) (M 43) rfl rfl cpX6_54 sh_6 sh_43 rfl ⟨Nat.le_of_ble_eq_true rfl, Nat.le_of_ble_eq_true rfl⟩ dX6_copyFrom_97 ?_
  refine Go_aload_n 1 rfl rfl dX6_copyFrom_100 ?_
  refine Go_getR (c' := 7) faX6_37 sh_1 (pt_1_8 (M := M) hp) dX6_copyFrom_101 ?_
  refine Go_iconst (by unfold in32; omega) dX6_copyFrom_104 ?_
  refine Go_aload_n 0 rfl rfl dX6_copyFrom_105 ?_
  refine Go_getR (c' := 44) faX6_37 sh_38 (pt_38_8 (M := M) hp) dX6_copyFrom_106 ?_
  refine Go_iconst (by unfold in32; omega) dX6_copyFrom_109 ?_
  refine Go_bipush ⟨by decide, by unfold in32; omega⟩ dX6_copyFrom_110 ?_
  refine Go_copyv (M 7) (M 44) rfl rfl cpX6_54 sh_7 sh_44 rfl ⟨Nat.le_of_ble_eq_true rfl, Nat.le_of_ble_eq_true rfl⟩ dX6_copyFrom_112 ?_
  exact Go_ret rfl dX6_copyFrom_115
set_option maxHeartbeats 4000000 in
set_option maxRecDepth 100000 in
theorem cp_1_38 {D : va_G} {ca : Nat → ClassId} {M : gMem} (hp : gPtr M) : Fn D ca mX6_copyFrom [gR 1, gR 38] SH M [] SH (cpV M 1 38) := by
  refine Fn_of okX6_copyFrom (Nat.le_of_ble_eq_true rfl) (Or.inl ⟨rfl, rfl⟩) (Nat.le_refl _) (Nat.le_refl _) ?_
  refine Go_ls2 (ls' := [(0, gR 1), (1, gR 38)]) rfl ?_
  refine Go_o 1 ?_
  refine Go_aload_n 0 rfl rfl dX6_copyFrom_0 ?_
  refine Go_aload_n 1 rfl rfl dX6_copyFrom_1 ?_
  refine Go_getIv (v := M 38 0) rfl faX6_9 sh_38 dX6_copyFrom_2 ?_
  refine Go_putIS fpX6_9 sh_1 dX6_copyFrom_5 ?_
  refine Go_aload_n 0 rfl rfl dX6_copyFrom_8 ?_
  refine Go_aload_n 1 rfl rfl dX6_copyFrom_9 ?_
  refine Go_getIv (v := M 38 1) rfl faX6_15 sh_38 dX6_copyFrom_10 ?_
  refine Go_putIS fpX6_15 sh_1 dX6_copyFrom_13 ?_
  refine Go_aload_n 0 rfl rfl dX6_copyFrom_16 ?_
  refine Go_aload_n 1 rfl rfl dX6_copyFrom_17 ?_
  refine Go_getIv (v := M 38 2) rfl faX6_18 sh_38 dX6_copyFrom_18 ?_
  refine Go_putIS fpX6_18 sh_1 dX6_copyFrom_21 ?_
  refine Go_aload_n 1 rfl rfl dX6_copyFrom_24 ?_
  refine Go_getR (c' := 39) faX6_21 sh_38 (pt_38_3 (M := M) hp) dX6_copyFrom_25 ?_
  refine Go_iconst (by unfold in32; omega) dX6_copyFrom_28 ?_
  refine Go_aload_n 0 rfl rfl dX6_copyFrom_29 ?_
  refine Go_getR (c' := 2) faX6_21 sh_1 (pt_1_3 (M := M) hp) dX6_copyFrom_30 ?_
  refine Go_iconst (by unfold in32; omega) dX6_copyFrom_33 ?_
  refine Go_bipush ⟨by decide, by unfold in32; omega⟩ dX6_copyFrom_34 ?_
  refine Go_copyv (M 39) (M 2) rfl rfl cpX6_54 sh_39 sh_2 rfl ⟨Nat.le_of_ble_eq_true rfl, Nat.le_of_ble_eq_true rfl⟩ dX6_copyFrom_36 ?_
  refine Go_aload_n 1 rfl rfl dX6_copyFrom_39 ?_
  refine Go_getR (c' := 40) faX6_25 sh_38 (pt_38_4 (M := M) hp) dX6_copyFrom_40 ?_
  refine Go_iconst (by unfold in32; omega) dX6_copyFrom_43 ?_
  refine Go_aload_n 0 rfl rfl dX6_copyFrom_44 ?_
  refine Go_getR (c' := 3) faX6_25 sh_1 (pt_1_4 (M := M) hp) dX6_copyFrom_45 ?_
  refine Go_iconst (by unfold in32; omega) dX6_copyFrom_48 ?_
  refine Go_sipush ⟨by decide, by unfold in32; omega⟩ dX6_copyFrom_49 ?_
  refine Go_copyv (M 40) (M 3) rfl rfl cpX6_54 sh_40 sh_3 rfl ⟨Nat.le_of_ble_eq_true rfl, Nat.le_of_ble_eq_true rfl⟩ dX6_copyFrom_52 ?_
  refine Go_aload_n 1 rfl rfl dX6_copyFrom_55 ?_
  refine Go_getR (c' := 41) faX6_28 sh_38 (pt_38_5 (M := M) hp) dX6_copyFrom_56 ?_
  refine Go_iconst (by unfold in32; omega) dX6_copyFrom_59 ?_
  refine Go_aload_n 0 rfl rfl dX6_copyFrom_60 ?_
  refine Go_getR (c' := 4) faX6_28 sh_1 (pt_1_5 (M := M) hp) dX6_copyFrom_61 ?_
  refine Go_iconst (by unfold in32; omega) dX6_copyFrom_64 ?_
  refine Go_bipush ⟨by decide, by unfold in32; omega⟩ dX6_copyFrom_65 ?_
  refine Go_copyv (M 41) (M 4) rfl rfl cpX6_54 sh_41 sh_4 rfl ⟨Nat.le_of_ble_eq_true rfl, Nat.le_of_ble_eq_true rfl⟩ dX6_copyFrom_67 ?_
  refine Go_aload_n 1 rfl rfl dX6_copyFrom_70 ?_
  refine Go_getR (c' := 42) faX6_31 sh_38 (pt_38_6 (M := M) hp) dX6_copyFrom_71 ?_
  refine Go_iconst (by unfold in32; omega) dX6_copyFrom_74 ?_
  refine Go_aload_n 0 rfl rfl dX6_copyFrom_75 ?_
  refine Go_getR (c' := 5) faX6_31 sh_1 (pt_1_6 (M := M) hp) dX6_copyFrom_76 ?_
  refine Go_iconst (by unfold in32; omega) dX6_copyFrom_79 ?_
  refine Go_bipush ⟨by decide, by unfold in32; omega⟩ dX6_copyFrom_80 ?_
  refine Go_copyv (M 42) (M 5) rfl rfl cpX6_54 sh_42 sh_5 rfl ⟨Nat.le_of_ble_eq_true rfl, Nat.le_of_ble_eq_true rfl⟩ dX6_copyFrom_82 ?_
  refine Go_aload_n 1 rfl rfl dX6_copyFrom_85 ?_
  refine Go_getR (c' := 43) faX6_34 sh_38 (pt_38_7 (M := M) hp) dX6_copyFrom_86 ?_
  refine Go_iconst (by unfold in32; omega) dX6_copyFrom_89 ?_
  refine Go_aload_n 0 rfl rfl dX6_copyFrom_90 ?_
  refine Go_getR (c' := 6) faX6_34 sh_1 (pt_1_7 (M := M) hp) dX6_copyFrom_91 ?_
  refine Go_iconst (by unfold in32; omega) dX6_copyFrom_94 ?_
  refine Go_bipush ⟨by decide, by unfold in32; omega⟩ dX6_copyFrom_95 ?_
  refine Go_copyv (M 43) (M 6) rfl rfl cpX6_54 sh_43 sh_6 rfl ⟨Nat.le_of_ble_eq_true rfl, Nat.le_of_ble_eq_true rfl⟩ dX6_copyFrom_97 ?_
  refine Go_aload_n 1 rfl rfl dX6_copyFrom_100 ?_
  refine Go_getR (c' := 44) faX6_37 sh_38 (pt_38_8 (M := M) hp) dX6_copyFrom_101 ?_
  refine Go_iconst (by unfold in32; omega) dX6_copyFrom_104 ?_
  refine Go_aload_n 0 rfl rfl dX6_copyFrom_105 ?_
  refine Go_getR (c' := 7) faX6_37 sh_1 (pt_1_8 (M := M) hp) dX6_copyFrom_106 ?_
  refine Go_iconst (by unfold in32; omega) dX6_copyFrom_109 ?_
  refine Go_bipush ⟨by decide, by unfold in32; omega⟩ dX6_copyFrom_110 ?_
  refine Go_copyv (M 44) (M 7) rfl rfl cpX6_54 sh_44 sh_7 rfl ⟨Nat.le_of_ble_eq_true rfl, Nat.le_of_ble_eq_true rfl⟩ dX6_copyFrom_112 ?_
  exact Go_ret rfl dX6_copyFrom_115
set_option maxHeartbeats 4000000 in
set_option maxRecDepth 100000 in
theorem lk_38 {D : va_G} {ca : Nat → ClassId} {M : gMem} (hp : gPtr M) : Fn D ca mX6_isLike [gR 38, gR 1] SH M [gI (bI (likeB M 38 1 = true))] SH (M) := by
  refine Fn_of okX6_isLike (Nat.le_of_ble_eq_true rfl) (Or.inr (Or.inr (Or.inl ⟨_, rfl, rfl, bI_01 _⟩))) (Nat.le_refl _) (Nat.le_refl _) ?_
  refine Go_ls2 (ls' := [(0, gR 38), (1, gR 1)]) rfl ?_
  refine Go_aload_n 0 rfl rfl dX6_isLike_0 ?_
  refine Go_getI faX6_9 sh_38 dX6_isLike_1 ?_
  refine Go_aload_n 1 rfl rfl dX6_isLike_4 ?_
  refine Go_getI faX6_9 sh_1 dX6_isLike_5 ?_
  refine Go_icmp_ne dX6_isLike_8 rfl (fun h8 => ?_) (fun h8 => ?_)
  · skip
    refine Go_iconst (by unfold in32; omega) dX6_isLike_79 ?_
    exact Go_ret (by rw [bI_f (likeB_f (fun q => by first | exact h8 q.1 | exact h19 q.2.1 | exact h30 q.2.2.1 | exact h44 (eqR_iff.mpr q.2.2.2.1) | exact h58 (eqR_iff.mpr q.2.2.2.2.1) | exact h72 (eqR_iff.mpr q.2.2.2.2.2)))]) dX6_isLike_80
  · skip
    refine Go_aload_n 0 rfl rfl dX6_isLike_11 ?_
    refine Go_getI faX6_15 sh_38 dX6_isLike_12 ?_
    refine Go_aload_n 1 rfl rfl dX6_isLike_15 ?_
    refine Go_getI faX6_15 sh_1 dX6_isLike_16 ?_
    refine Go_icmp_ne dX6_isLike_19 rfl (fun h19 => ?_) (fun h19 => ?_)
    · skip
      refine Go_iconst (by unfold in32; omega) dX6_isLike_79 ?_
      exact Go_ret (by rw [bI_f (likeB_f (fun q => by first | exact h8 q.1 | exact h19 q.2.1 | exact h30 q.2.2.1 | exact h44 (eqR_iff.mpr q.2.2.2.1) | exact h58 (eqR_iff.mpr q.2.2.2.2.1) | exact h72 (eqR_iff.mpr q.2.2.2.2.2)))]) dX6_isLike_80
    · skip
      refine Go_aload_n 0 rfl rfl dX6_isLike_22 ?_
      refine Go_getI faX6_18 sh_38 dX6_isLike_23 ?_
      refine Go_aload_n 1 rfl rfl dX6_isLike_26 ?_
      refine Go_getI faX6_18 sh_1 dX6_isLike_27 ?_
      refine Go_icmp_ne dX6_isLike_30 rfl (fun h30 => ?_) (fun h30 => ?_)
      · skip
        refine Go_iconst (by unfold in32; omega) dX6_isLike_79 ?_
        exact Go_ret (by rw [bI_f (likeB_f (fun q => by first | exact h8 q.1 | exact h19 q.2.1 | exact h30 q.2.2.1 | exact h44 (eqR_iff.mpr q.2.2.2.1) | exact h58 (eqR_iff.mpr q.2.2.2.2.1) | exact h72 (eqR_iff.mpr q.2.2.2.2.2)))]) dX6_isLike_80
      · skip
        refine Go_aload_n 0 rfl rfl dX6_isLike_33 ?_
        refine Go_getR (c' := 39) faX6_21 sh_38 (pt_38_3 (M := M) hp) dX6_isLike_34 ?_
        refine Go_aload_n 1 rfl rfl dX6_isLike_37 ?_
        refine Go_getR (c' := 2) faX6_21 sh_1 (pt_1_3 (M := M) hp) dX6_isLike_38 ?_
        refine Go_callSI (fX6_sameRows 39 2 12 sh_39 sh_2 (by decide)) cwX6_60 smX6_sameRows ⟨Nat.le_of_ble_eq_true rfl, Nat.le_of_ble_eq_true rfl⟩ rfl (Nat.le_of_ble_eq_true rfl) sh_rf dX6_isLike_41 ?_
        refine Go_if_eq dX6_isLike_44 rfl (fun h44 => ?_) (fun h44 => ?_)
        · skip
          replace h44 := bI_0.mp h44
          refine Go_iconst (by unfold in32; omega) dX6_isLike_79 ?_
          exact Go_ret (by rw [bI_f (likeB_f (fun q => by first | exact h8 q.1 | exact h19 q.2.1 | exact h30 q.2.2.1 | exact h44 (eqR_iff.mpr q.2.2.2.1) | exact h58 (eqR_iff.mpr q.2.2.2.2.1) | exact h72 (eqR_iff.mpr q.2.2.2.2.2)))]) dX6_isLike_80
        · skip
          replace h44 := bI_n.mp h44
          refine Go_aload_n 0 rfl rfl dX6_isLike_47 ?_
          refine Go_getR (c' := 40) faX6_25 sh_38 (pt_38_4 (M := M) hp) dX6_isLike_48 ?_
          refine Go_aload_n 1 rfl rfl dX6_isLike_51 ?_
          refine Go_getR (c' := 3) faX6_25 sh_1 (pt_1_4 (M := M) hp) dX6_isLike_52 ?_
          refine Go_callSI (fX6_sameRows 40 3 144 sh_40 sh_3 (by decide)) cwX6_60 smX6_sameRows ⟨Nat.le_of_ble_eq_true rfl, Nat.le_of_ble_eq_true rfl⟩ rfl (Nat.le_of_ble_eq_true rfl) sh_rf dX6_isLike_55 ?_
          refine Go_if_eq dX6_isLike_58 rfl (fun h58 => ?_) (fun h58 => ?_)
          · skip
            replace h58 := bI_0.mp h58
            refine Go_iconst (by unfold in32; omega) dX6_isLike_79 ?_
            exact Go_ret (by rw [bI_f (likeB_f (fun q => by first | exact h8 q.1 | exact h19 q.2.1 | exact h30 q.2.2.1 | exact h44 (eqR_iff.mpr q.2.2.2.1) | exact h58 (eqR_iff.mpr q.2.2.2.2.1) | exact h72 (eqR_iff.mpr q.2.2.2.2.2)))]) dX6_isLike_80
          · skip
            replace h58 := bI_n.mp h58
            refine Go_aload_n 0 rfl rfl dX6_isLike_61 ?_
            refine Go_getR (c' := 44) faX6_37 sh_38 (pt_38_8 (M := M) hp) dX6_isLike_62 ?_
            refine Go_aload_n 1 rfl rfl dX6_isLike_65 ?_
            refine Go_getR (c' := 7) faX6_37 sh_1 (pt_1_8 (M := M) hp) dX6_isLike_66 ?_
            refine Go_callSI (fX6_sameRows 44 7 10 sh_44 sh_7 (by decide)) cwX6_60 smX6_sameRows ⟨Nat.le_of_ble_eq_true rfl, Nat.le_of_ble_eq_true rfl⟩ rfl (Nat.le_of_ble_eq_true rfl) sh_rf dX6_isLike_69 ?_
            refine Go_if_eq dX6_isLike_72 rfl (fun h72 => ?_) (fun h72 => ?_)
            · skip
              replace h72 := bI_0.mp h72
              refine Go_iconst (by unfold in32; omega) dX6_isLike_79 ?_
              exact Go_ret (by rw [bI_f (likeB_f (fun q => by first | exact h8 q.1 | exact h19 q.2.1 | exact h30 q.2.2.1 | exact h44 (eqR_iff.mpr q.2.2.2.1) | exact h58 (eqR_iff.mpr q.2.2.2.2.1) | exact h72 (eqR_iff.mpr q.2.2.2.2.2)))]) dX6_isLike_80
            · skip
              replace h72 := bI_n.mp h72
              refine Go_iconst (by unfold in32; omega) dX6_isLike_75 ?_
              refine Go_goto dX6_isLike_76 rfl ?_
              exact Go_ret (by rw [bI_t (likeB_t ⟨h8, h19, h30, eqR_iff.mp h44, eqR_iff.mp h58, eqR_iff.mp h72⟩)]) dX6_isLike_80
set_option maxHeartbeats 4000000 in
set_option maxRecDepth 100000 in
theorem cp_45_1 {D : va_G} {ca : Nat → ClassId} {M : gMem} (hp : gPtr M) : Fn D ca mX6_copyFrom [gR 45, gR 1] SH M [] SH (cpV M 45 1) := by
  refine Fn_of okX6_copyFrom (Nat.le_of_ble_eq_true rfl) (Or.inl ⟨rfl, rfl⟩) (Nat.le_refl _) (Nat.le_refl _) ?_
  refine Go_ls2 (ls' := [(0, gR 45), (1, gR 1)]) rfl ?_
  refine Go_o 45 ?_
  refine Go_aload_n 0 rfl rfl dX6_copyFrom_0 ?_
  refine Go_aload_n 1 rfl rfl dX6_copyFrom_1 ?_
  refine Go_getIv (v := M 1 0) rfl faX6_9 sh_1 dX6_copyFrom_2 ?_
  refine Go_putIS fpX6_9 sh_45 dX6_copyFrom_5 ?_
  refine Go_aload_n 0 rfl rfl dX6_copyFrom_8 ?_
  refine Go_aload_n 1 rfl rfl dX6_copyFrom_9 ?_
  refine Go_getIv (v := M 1 1) rfl faX6_15 sh_1 dX6_copyFrom_10 ?_
  refine Go_putIS fpX6_15 sh_45 dX6_copyFrom_13 ?_
  refine Go_aload_n 0 rfl rfl dX6_copyFrom_16 ?_
  refine Go_aload_n 1 rfl rfl dX6_copyFrom_17 ?_
  refine Go_getIv (v := M 1 2) rfl faX6_18 sh_1 dX6_copyFrom_18 ?_
  refine Go_putIS fpX6_18 sh_45 dX6_copyFrom_21 ?_
  refine Go_aload_n 1 rfl rfl dX6_copyFrom_24 ?_
  refine Go_getR (c' := 2) faX6_21 sh_1 (pt_1_3 (M := M) hp) dX6_copyFrom_25 ?_
  refine Go_iconst (by unfold in32; omega) dX6_copyFrom_28 ?_
  refine Go_aload_n 0 rfl rfl dX6_copyFrom_29 ?_
  refine Go_getR (c' := 46) faX6_21 sh_45 (pt_45_3 (M := M) hp) dX6_copyFrom_30 ?_
  refine Go_iconst (by unfold in32; omega) dX6_copyFrom_33 ?_
  refine Go_bipush ⟨by decide, by unfold in32; omega⟩ dX6_copyFrom_34 ?_
  refine Go_copyv (M 2) (M 46) rfl rfl cpX6_54 sh_2 sh_46 rfl ⟨Nat.le_of_ble_eq_true rfl, Nat.le_of_ble_eq_true rfl⟩ dX6_copyFrom_36 ?_
  refine Go_aload_n 1 rfl rfl dX6_copyFrom_39 ?_
  refine Go_getR (c' := 3) faX6_25 sh_1 (pt_1_4 (M := M) hp) dX6_copyFrom_40 ?_
  refine Go_iconst (by unfold in32; omega) dX6_copyFrom_43 ?_
  refine Go_aload_n 0 rfl rfl dX6_copyFrom_44 ?_
  refine Go_getR (c' := 47) faX6_25 sh_45 (pt_45_4 (M := M) hp) dX6_copyFrom_45 ?_
  refine Go_iconst (by unfold in32; omega) dX6_copyFrom_48 ?_
  refine Go_sipush ⟨by decide, by unfold in32; omega⟩ dX6_copyFrom_49 ?_
  refine Go_copyv (M 3) (M 47) rfl rfl cpX6_54 sh_3 sh_47 rfl ⟨Nat.le_of_ble_eq_true rfl, Nat.le_of_ble_eq_true rfl⟩ dX6_copyFrom_52 ?_
  refine Go_aload_n 1 rfl rfl dX6_copyFrom_55 ?_
  refine Go_getR (c' := 4) faX6_28 sh_1 (pt_1_5 (M := M) hp) dX6_copyFrom_56 ?_
  refine Go_iconst (by unfold in32; omega) dX6_copyFrom_59 ?_
  refine Go_aload_n 0 rfl rfl dX6_copyFrom_60 ?_
  refine Go_getR (c' := 48) faX6_28 sh_45 (pt_45_5 (M := M) hp) dX6_copyFrom_61 ?_
  refine Go_iconst (by unfold in32; omega) dX6_copyFrom_64 ?_
  refine Go_bipush ⟨by decide, by unfold in32; omega⟩ dX6_copyFrom_65 ?_
  refine Go_copyv (M 4) (M 48) rfl rfl cpX6_54 sh_4 sh_48 rfl ⟨Nat.le_of_ble_eq_true rfl, Nat.le_of_ble_eq_true rfl⟩ dX6_copyFrom_67 ?_
  refine Go_aload_n 1 rfl rfl dX6_copyFrom_70 ?_
  refine Go_getR (c' := 5) faX6_31 sh_1 (pt_1_6 (M := M) hp) dX6_copyFrom_71 ?_
  refine Go_iconst (by unfold in32; omega) dX6_copyFrom_74 ?_
  refine Go_aload_n 0 rfl rfl dX6_copyFrom_75 ?_
  refine Go_getR (c' := 49) faX6_31 sh_45 (pt_45_6 (M := M) hp) dX6_copyFrom_76 ?_
  refine Go_iconst (by unfold in32; omega) dX6_copyFrom_79 ?_
  refine Go_bipush ⟨by decide, by unfold in32; omega⟩ dX6_copyFrom_80 ?_
  refine Go_copyv (M 5) (M 49) rfl rfl cpX6_54 sh_5 sh_49 rfl ⟨Nat.le_of_ble_eq_true rfl, Nat.le_of_ble_eq_true rfl⟩ dX6_copyFrom_82 ?_
  refine Go_aload_n 1 rfl rfl dX6_copyFrom_85 ?_
  refine Go_getR (c' := 6) faX6_34 sh_1 (pt_1_7 (M := M) hp) dX6_copyFrom_86 ?_
  refine Go_iconst (by unfold in32; omega) dX6_copyFrom_89 ?_
  refine Go_aload_n 0 rfl rfl dX6_copyFrom_90 ?_
  refine Go_getR (c' := 50) faX6_34 sh_45 (pt_45_7 (M := M) hp) dX6_copyFrom_91 ?_
  refine Go_iconst (by unfold in32; omega) dX6_copyFrom_94 ?_
  refine Go_bipush ⟨by decide, by unfold in32; omega⟩ dX6_copyFrom_95 ?_
  refine Go_copyv (M 6) (M 50) rfl rfl cpX6_54 sh_6 sh_50 rfl ⟨Nat.le_of_ble_eq_true rfl, Nat.le_of_ble_eq_true rfl⟩ dX6_copyFrom_97 ?_
  refine Go_aload_n 1 rfl rfl dX6_copyFrom_100 ?_
  refine Go_getR (c' := 7) faX6_37 sh_1 (pt_1_8 (M := M) hp) dX6_copyFrom_101 ?_
  refine Go_iconst (by unfold in32; omega) dX6_copyFrom_104 ?_
  refine Go_aload_n 0 rfl rfl dX6_copyFrom_105 ?_
  refine Go_getR (c' := 51) faX6_37 sh_45 (pt_45_8 (M := M) hp) dX6_copyFrom_106 ?_
  refine Go_iconst (by unfold in32; omega) dX6_copyFrom_109 ?_
  refine Go_bipush ⟨by decide, by unfold in32; omega⟩ dX6_copyFrom_110 ?_
  refine Go_copyv (M 7) (M 51) rfl rfl cpX6_54 sh_7 sh_51 rfl ⟨Nat.le_of_ble_eq_true rfl, Nat.le_of_ble_eq_true rfl⟩ dX6_copyFrom_112 ?_
  exact Go_ret rfl dX6_copyFrom_115
set_option maxHeartbeats 4000000 in
set_option maxRecDepth 100000 in
theorem cp_1_45 {D : va_G} {ca : Nat → ClassId} {M : gMem} (hp : gPtr M) : Fn D ca mX6_copyFrom [gR 1, gR 45] SH M [] SH (cpV M 1 45) := by
  refine Fn_of okX6_copyFrom (Nat.le_of_ble_eq_true rfl) (Or.inl ⟨rfl, rfl⟩) (Nat.le_refl _) (Nat.le_refl _) ?_
  refine Go_ls2 (ls' := [(0, gR 1), (1, gR 45)]) rfl ?_
  refine Go_o 1 ?_
  refine Go_aload_n 0 rfl rfl dX6_copyFrom_0 ?_
  refine Go_aload_n 1 rfl rfl dX6_copyFrom_1 ?_
  refine Go_getIv (v := M 45 0) rfl faX6_9 sh_45 dX6_copyFrom_2 ?_
  refine Go_putIS fpX6_9 sh_1 dX6_copyFrom_5 ?_
  refine Go_aload_n 0 rfl rfl dX6_copyFrom_8 ?_
  refine Go_aload_n 1 rfl rfl dX6_copyFrom_9 ?_
  refine Go_getIv (v := M 45 1) rfl faX6_15 sh_45 dX6_copyFrom_10 ?_
  refine Go_putIS fpX6_15 sh_1 dX6_copyFrom_13 ?_
  refine Go_aload_n 0 rfl rfl dX6_copyFrom_16 ?_
  refine Go_aload_n 1 rfl rfl dX6_copyFrom_17 ?_
  refine Go_getIv (v := M 45 2) rfl faX6_18 sh_45 dX6_copyFrom_18 ?_
  refine Go_putIS fpX6_18 sh_1 dX6_copyFrom_21 ?_
  refine Go_aload_n 1 rfl rfl dX6_copyFrom_24 ?_
  refine Go_getR (c' := 46) faX6_21 sh_45 (pt_45_3 (M := M) hp) dX6_copyFrom_25 ?_
  refine Go_iconst (by unfold in32; omega) dX6_copyFrom_28 ?_
  refine Go_aload_n 0 rfl rfl dX6_copyFrom_29 ?_
  refine Go_getR (c' := 2) faX6_21 sh_1 (pt_1_3 (M := M) hp) dX6_copyFrom_30 ?_
  refine Go_iconst (by unfold in32; omega) dX6_copyFrom_33 ?_
  refine Go_bipush ⟨by decide, by unfold in32; omega⟩ dX6_copyFrom_34 ?_
  refine Go_copyv (M 46) (M 2) rfl rfl cpX6_54 sh_46 sh_2 rfl ⟨Nat.le_of_ble_eq_true rfl, Nat.le_of_ble_eq_true rfl⟩ dX6_copyFrom_36 ?_
  refine Go_aload_n 1 rfl rfl dX6_copyFrom_39 ?_
  refine Go_getR (c' := 47) faX6_25 sh_45 (pt_45_4 (M := M) hp) dX6_copyFrom_40 ?_
  refine Go_iconst (by unfold in32; omega) dX6_copyFrom_43 ?_
  refine Go_aload_n 0 rfl rfl dX6_copyFrom_44 ?_
  refine Go_getR (c' := 3) faX6_25 sh_1 (pt_1_4 (M := M) hp) dX6_copyFrom_45 ?_
  refine Go_iconst (by unfold in32; omega) dX6_copyFrom_48 ?_
  refine Go_sipush ⟨by decide, by unfold in32; omega⟩ dX6_copyFrom_49 ?_
  refine Go_copyv (M 47) (M 3) rfl rfl cpX6_54 sh_47 sh_3 rfl ⟨Nat.le_of_ble_eq_true rfl, Nat.le_of_ble_eq_true rfl⟩ dX6_copyFrom_52 ?_
  refine Go_aload_n 1 rfl rfl dX6_copyFrom_55 ?_
  refine Go_getR (c' := 48) faX6_28 sh_45 (pt_45_5 (M := M) hp) dX6_copyFrom_56 ?_
  refine Go_iconst (by unfold in32; omega) dX6_copyFrom_59 ?_
  refine Go_aload_n 0 rfl rfl dX6_copyFrom_60 ?_
  refine Go_getR (c' := 4) faX6_28 sh_1 (pt_1_5 (M := M) hp) dX6_copyFrom_61 ?_
  refine Go_iconst (by unfold in32; omega) dX6_copyFrom_64 ?_
  refine Go_bipush ⟨by decide, by unfold in32; omega⟩ dX6_copyFrom_65 ?_
  refine Go_copyv (M 48) (M 4) rfl rfl cpX6_54 sh_48 sh_4 rfl ⟨Nat.le_of_ble_eq_true rfl, Nat.le_of_ble_eq_true rfl⟩ dX6_copyFrom_67 ?_
  refine Go_aload_n 1 rfl rfl dX6_copyFrom_70 ?_
  refine Go_getR (c' := 49) faX6_31 sh_45 (pt_45_6 (M := M) hp) dX6_copyFrom_71 ?_
  refine Go_iconst (by unfold in32; omega) dX6_copyFrom_74 ?_
  refine Go_aload_n 0 rfl rfl dX6_copyFrom_75 ?_
  refine Go_getR (c' := 5) faX6_31 sh_1 (pt_1_6 (M := M) hp) dX6_copyFrom_76 ?_
  refine Go_iconst (by unfold in32; omega) dX6_copyFrom_79 ?_
  refine Go_bipush ⟨by decide, by unfold in32; omega⟩ dX6_copyFrom_80 ?_
  refine Go_copyv (M 49) (M 5) rfl rfl cpX6_54 sh_49 sh_5 rfl ⟨Nat.le_of_ble_eq_true rfl, Nat.le_of_ble_eq_true rfl⟩ dX6_copyFrom_82 ?_
  refine Go_aload_n 1 rfl rfl dX6_copyFrom_85 ?_
  refine Go_getR (c' := 50) faX6_34 sh_45 (pt_45_7 (M := M) hp) dX6_copyFrom_86 ?_
  refine Go_iconst (by unfold in32; omega) dX6_copyFrom_89 ?_
  refine Go_aload_n 0 rfl rfl dX6_copyFrom_90 ?_
  refine Go_getR (c' := 6) faX6_34 sh_1 (pt_1_7 (M := M) hp) dX6_copyFrom_91 ?_
  refine Go_iconst (by unfold in32; omega) dX6_copyFrom_94 ?_
  refine Go_bipush ⟨by decide, by unfold in32; omega⟩ dX6_copyFrom_95 ?_
  refine Go_copyv (M 50) (M 6) rfl rfl cpX6_54 sh_50 sh_6 rfl ⟨Nat.le_of_ble_eq_true rfl, Nat.le_of_ble_eq_true rfl⟩ dX6_copyFrom_97 ?_
  refine Go_aload_n 1 rfl rfl dX6_copyFrom_100 ?_
  refine Go_getR (c' := 51) faX6_37 sh_45 (pt_45_8 (M := M) hp) dX6_copyFrom_101 ?_
  refine Go_iconst (by unfold in32; omega) dX6_copyFrom_104 ?_
  refine Go_aload_n 0 rfl rfl dX6_copyFrom_105 ?_
  refine Go_getR (c' := 7) faX6_37 sh_1 (pt_1_8 (M := M) hp) dX6_copyFrom_106 ?_
  refine Go_iconst (by unfold in32; omega) dX6_copyFrom_109 ?_
  refine Go_bipush ⟨by decide, by unfold in32; omega⟩ dX6_copyFrom_110 ?_
  refine Go_copyv (M 51) (M 7) rfl rfl cpX6_54 sh_51 sh_7 rfl ⟨Nat.le_of_ble_eq_true rfl, Nat.le_of_ble_eq_true rfl⟩ dX6_copyFrom_112 ?_
  exact Go_ret rfl dX6_copyFrom_115
set_option maxHeartbeats 4000000 in
set_option maxRecDepth 100000 in
theorem lk_45 {D : va_G} {ca : Nat → ClassId} {M : gMem} (hp : gPtr M) : Fn D ca mX6_isLike [gR 45, gR 1] SH M [gI (bI (likeB M 45 1 = true))] SH (M) := by
  refine Fn_of okX6_isLike (Nat.le_of_ble_eq_true rfl) (Or.inr (Or.inr (Or.inl ⟨_, rfl, rfl, bI_01 _⟩))) (Nat.le_refl _) (Nat.le_refl _) ?_
  refine Go_ls2 (ls' := [(0, gR 45), (1, gR 1)]) rfl ?_
  refine Go_aload_n 0 rfl rfl dX6_isLike_0 ?_
  refine Go_getI faX6_9 sh_45 dX6_isLike_1 ?_
  refine Go_aload_n 1 rfl rfl dX6_isLike_4 ?_
  refine Go_getI faX6_9 sh_1 dX6_isLike_5 ?_
  refine Go_icmp_ne dX6_isLike_8 rfl (fun h8 => ?_) (fun h8 => ?_)
  · skip
    refine Go_iconst (by unfold in32; omega) dX6_isLike_79 ?_
    exact Go_ret (by rw [bI_f (likeB_f (fun q => by first | exact h8 q.1 | exact h19 q.2.1 | exact h30 q.2.2.1 | exact h44 (eqR_iff.mpr q.2.2.2.1) | exact h58 (eqR_iff.mpr q.2.2.2.2.1) | exact h72 (eqR_iff.mpr q.2.2.2.2.2)))]) dX6_isLike_80
  · skip
    refine Go_aload_n 0 rfl rfl dX6_isLike_11 ?_
    refine Go_getI faX6_15 sh_45 dX6_isLike_12 ?_
    refine Go_aload_n 1 rfl rfl dX6_isLike_15 ?_
    refine Go_getI faX6_15 sh_1 dX6_isLike_16 ?_
    refine Go_icmp_ne dX6_isLike_19 rfl (fun h19 => ?_) (fun h19 => ?_)
    · skip
      refine Go_iconst (by unfold in32; omega) dX6_isLike_79 ?_
      exact Go_ret (by rw [bI_f (likeB_f (fun q => by first | exact h8 q.1 | exact h19 q.2.1 | exact h30 q.2.2.1 | exact h44 (eqR_iff.mpr q.2.2.2.1) | exact h58 (eqR_iff.mpr q.2.2.2.2.1) | exact h72 (eqR_iff.mpr q.2.2.2.2.2)))]) dX6_isLike_80
    · skip
      refine Go_aload_n 0 rfl rfl dX6_isLike_22 ?_
      refine Go_getI faX6_18 sh_45 dX6_isLike_23 ?_
      refine Go_aload_n 1 rfl rfl dX6_isLike_26 ?_
      refine Go_getI faX6_18 sh_1 dX6_isLike_27 ?_
      refine Go_icmp_ne dX6_isLike_30 rfl (fun h30 => ?_) (fun h30 => ?_)
      · skip
        refine Go_iconst (by unfold in32; omega) dX6_isLike_79 ?_
        exact Go_ret (by rw [bI_f (likeB_f (fun q => by first | exact h8 q.1 | exact h19 q.2.1 | exact h30 q.2.2.1 | exact h44 (eqR_iff.mpr q.2.2.2.1) | exact h58 (eqR_iff.mpr q.2.2.2.2.1) | exact h72 (eqR_iff.mpr q.2.2.2.2.2)))]) dX6_isLike_80
      · skip
        refine Go_aload_n 0 rfl rfl dX6_isLike_33 ?_
        refine Go_getR (c' := 46) faX6_21 sh_45 (pt_45_3 (M := M) hp) dX6_isLike_34 ?_
        refine Go_aload_n 1 rfl rfl dX6_isLike_37 ?_
        refine Go_getR (c' := 2) faX6_21 sh_1 (pt_1_3 (M := M) hp) dX6_isLike_38 ?_
        refine Go_callSI (fX6_sameRows 46 2 12 sh_46 sh_2 (by decide)) cwX6_60 smX6_sameRows ⟨Nat.le_of_ble_eq_true rfl, Nat.le_of_ble_eq_true rfl⟩ rfl (Nat.le_of_ble_eq_true rfl) sh_rf dX6_isLike_41 ?_
        refine Go_if_eq dX6_isLike_44 rfl (fun h44 => ?_) (fun h44 => ?_)
        · skip
          replace h44 := bI_0.mp h44
          refine Go_iconst (by unfold in32; omega) dX6_isLike_79 ?_
          exact Go_ret (by rw [bI_f (likeB_f (fun q => by first | exact h8 q.1 | exact h19 q.2.1 | exact h30 q.2.2.1 | exact h44 (eqR_iff.mpr q.2.2.2.1) | exact h58 (eqR_iff.mpr q.2.2.2.2.1) | exact h72 (eqR_iff.mpr q.2.2.2.2.2)))]) dX6_isLike_80
        · skip
          replace h44 := bI_n.mp h44
          refine Go_aload_n 0 rfl rfl dX6_isLike_47 ?_
          refine Go_getR (c' := 47) faX6_25 sh_45 (pt_45_4 (M := M) hp) dX6_isLike_48 ?_
          refine Go_aload_n 1 rfl rfl dX6_isLike_51 ?_
          refine Go_getR (c' := 3) faX6_25 sh_1 (pt_1_4 (M := M) hp) dX6_isLike_52 ?_
          refine Go_callSI (fX6_sameRows 47 3 144 sh_47 sh_3 (by decide)) cwX6_60 smX6_sameRows ⟨Nat.le_of_ble_eq_true rfl, Nat.le_of_ble_eq_true rfl⟩ rfl (Nat.le_of_ble_eq_true rfl) sh_rf dX6_isLike_55 ?_
          refine Go_if_eq dX6_isLike_58 rfl (fun h58 => ?_) (fun h58 => ?_)
          · skip
            replace h58 := bI_0.mp h58
            refine Go_iconst (by unfold in32; omega) dX6_isLike_79 ?_
            exact Go_ret (by rw [bI_f (likeB_f (fun q => by first | exact h8 q.1 | exact h19 q.2.1 | exact h30 q.2.2.1 | exact h44 (eqR_iff.mpr q.2.2.2.1) | exact h58 (eqR_iff.mpr q.2.2.2.2.1) | exact h72 (eqR_iff.mpr q.2.2.2.2.2)))]) dX6_isLike_80
          · skip
            replace h58 := bI_n.mp h58
            refine Go_aload_n 0 rfl rfl dX6_isLike_61 ?_
            refine Go_getR (c' := 51) faX6_37 sh_45 (pt_45_8 (M := M) hp) dX6_isLike_62 ?_
            refine Go_aload_n 1 rfl rfl dX6_isLike_65 ?_
            refine Go_getR (c' := 7) faX6_37 sh_1 (pt_1_8 (M := M) hp) dX6_isLike_66 ?_
            refine Go_callSI (fX6_sameRows 51 7 10 sh_51 sh_7 (by decide)) cwX6_60 smX6_sameRows ⟨Nat.le_of_ble_eq_true rfl, Nat.le_of_ble_eq_true rfl⟩ rfl (Nat.le_of_ble_eq_true rfl) sh_rf dX6_isLike_69 ?_
            refine Go_if_eq dX6_isLike_72 rfl (fun h72 => ?_) (fun h72 => ?_)
            · skip
              replace h72 := bI_0.mp h72
              refine Go_iconst (by unfold in32; omega) dX6_isLike_79 ?_
              exact Go_ret (by rw [bI_f (likeB_f (fun q => by first | exact h8 q.1 | exact h19 q.2.1 | exact h30 q.2.2.1 | exact h44 (eqR_iff.mpr q.2.2.2.1) | exact h58 (eqR_iff.mpr q.2.2.2.2.1) | exact h72 (eqR_iff.mpr q.2.2.2.2.2)))]) dX6_isLike_80
            · skip
              replace h72 := bI_n.mp h72
              refine Go_iconst (by unfold in32; omega) dX6_isLike_75 ?_
              refine Go_goto dX6_isLike_76 rfl ?_
              exact Go_ret (by rw [bI_t (likeB_t ⟨h8, h19, h30, eqR_iff.mp h44, eqR_iff.mp h58, eqR_iff.mp h72⟩)]) dX6_isLike_80
set_option maxHeartbeats 4000000 in
set_option maxRecDepth 100000 in
theorem cp_52_1 {D : va_G} {ca : Nat → ClassId} {M : gMem} (hp : gPtr M) : Fn D ca mX6_copyFrom [gR 52, gR 1] SH M [] SH (cpV M 52 1) := by
  refine Fn_of okX6_copyFrom (Nat.le_of_ble_eq_true rfl) (Or.inl ⟨rfl, rfl⟩) (Nat.le_refl _) (Nat.le_refl _) ?_
  refine Go_ls2 (ls' := [(0, gR 52), (1, gR 1)]) rfl ?_
  refine Go_o 52 ?_
  refine Go_aload_n 0 rfl rfl dX6_copyFrom_0 ?_
  refine Go_aload_n 1 rfl rfl dX6_copyFrom_1 ?_
  refine Go_getIv (v := M 1 0) rfl faX6_9 sh_1 dX6_copyFrom_2 ?_
  refine Go_putIS fpX6_9 sh_52 dX6_copyFrom_5 ?_
  refine Go_aload_n 0 rfl rfl dX6_copyFrom_8 ?_
  refine Go_aload_n 1 rfl rfl dX6_copyFrom_9 ?_
  refine Go_getIv (v := M 1 1) rfl faX6_15 sh_1 dX6_copyFrom_10 ?_
  refine Go_putIS fpX6_15 sh_52 dX6_copyFrom_13 ?_
  refine Go_aload_n 0 rfl rfl dX6_copyFrom_16 ?_
  refine Go_aload_n 1 rfl rfl dX6_copyFrom_17 ?_
  refine Go_getIv (v := M 1 2) rfl faX6_18 sh_1 dX6_copyFrom_18 ?_
  refine Go_putIS fpX6_18 sh_52 dX6_copyFrom_21 ?_
  refine Go_aload_n 1 rfl rfl dX6_copyFrom_24 ?_
  refine Go_getR (c' := 2) faX6_21 sh_1 (pt_1_3 (M := M) hp) dX6_copyFrom_25 ?_
  refine Go_iconst (by unfold in32; omega) dX6_copyFrom_28 ?_
  refine Go_aload_n 0 rfl rfl dX6_copyFrom_29 ?_
  refine Go_getR (c' := 53) faX6_21 sh_52 (pt_52_3 (M := M) hp) dX6_copyFrom_30 ?_
  refine Go_iconst (by unfold in32; omega) dX6_copyFrom_33 ?_
  refine Go_bipush ⟨by decide, by unfold in32; omega⟩ dX6_copyFrom_34 ?_
  refine Go_copyv (M 2) (M 53) rfl rfl cpX6_54 sh_2 sh_53 rfl ⟨Nat.le_of_ble_eq_true rfl, Nat.le_of_ble_eq_true rfl⟩ dX6_copyFrom_36 ?_
  refine Go_aload_n 1 rfl rfl dX6_copyFrom_39 ?_
  refine Go_getR (c' := 3) faX6_25 sh_1 (pt_1_4 (M := M) hp) dX6_copyFrom_40 ?_
  refine Go_iconst (by unfold in32; omega) dX6_copyFrom_43 ?_
  refine Go_aload_n 0 rfl rfl dX6_copyFrom_44 ?_
  refine Go_getR (c' := 54) faX6_25 sh_52 (pt_52_4 (M := M) hp) dX6_copyFrom_45 ?_
  refine Go_iconst (by unfold in32; omega) dX6_copyFrom_48 ?_
  refine Go_sipush ⟨by decide, by unfold in32; omega⟩ dX6_copyFrom_49 ?_
  refine Go_copyv (M 3) (M 54) rfl rfl cpX6_54 sh_3 sh_54 rfl ⟨Nat.le_of_ble_eq_true rfl, Nat.le_of_ble_eq_true rfl⟩ dX6_copyFrom_52 ?_
  refine Go_aload_n 1 rfl rfl dX6_copyFrom_55 ?_
  refine Go_getR (c' := 4) faX6_28 sh_1 (pt_1_5 (M := M) hp) dX6_copyFrom_56 ?_
  refine Go_iconst (by unfold in32; omega) dX6_copyFrom_59 ?_
  refine Go_aload_n 0 rfl rfl dX6_copyFrom_60 ?_
  refine Go_getR (c' := 55) faX6_28 sh_52 (pt_52_5 (M := M) hp) dX6_copyFrom_61 ?_
  refine Go_iconst (by unfold in32; omega) dX6_copyFrom_64 ?_
  refine Go_bipush ⟨by decide, by unfold in32; omega⟩ dX6_copyFrom_65 ?_
  refine Go_copyv (M 4) (M 55) rfl rfl cpX6_54 sh_4 sh_55 rfl ⟨Nat.le_of_ble_eq_true rfl, Nat.le_of_ble_eq_true rfl⟩ dX6_copyFrom_67 ?_
  refine Go_aload_n 1 rfl rfl dX6_copyFrom_70 ?_
  refine Go_getR (c' := 5) faX6_31 sh_1 (pt_1_6 (M := M) hp) dX6_copyFrom_71 ?_
  refine Go_iconst (by unfold in32; omega) dX6_copyFrom_74 ?_
  refine Go_aload_n 0 rfl rfl dX6_copyFrom_75 ?_
  refine Go_getR (c' := 56) faX6_31 sh_52 (pt_52_6 (M := M) hp) dX6_copyFrom_76 ?_
  refine Go_iconst (by unfold in32; omega) dX6_copyFrom_79 ?_
  refine Go_bipush ⟨by decide, by unfold in32; omega⟩ dX6_copyFrom_80 ?_
  refine Go_copyv (M 5) (M 56) rfl rfl cpX6_54 sh_5 sh_56 rfl ⟨Nat.le_of_ble_eq_true rfl, Nat.le_of_ble_eq_true rfl⟩ dX6_copyFrom_82 ?_
  refine Go_aload_n 1 rfl rfl dX6_copyFrom_85 ?_
  refine Go_getR (c' := 6) faX6_34 sh_1 (pt_1_7 (M := M) hp) dX6_copyFrom_86 ?_
  refine Go_iconst (by unfold in32; omega) dX6_copyFrom_89 ?_
  refine Go_aload_n 0 rfl rfl dX6_copyFrom_90 ?_
  refine Go_getR (c' := 57) faX6_34 sh_52 (pt_52_7 (M := M) hp) dX6_copyFrom_91 ?_
  refine Go_iconst (by unfold in32; omega) dX6_copyFrom_94 ?_
  refine Go_bipush ⟨by decide, by unfold in32; omega⟩ dX6_copyFrom_95 ?_
  refine Go_copyv (M 6) (M 57) rfl rfl cpX6_54 sh_6 sh_57 rfl ⟨Nat.le_of_ble_eq_true rfl, Nat.le_of_ble_eq_true rfl⟩ dX6_copyFrom_97 ?_
  refine Go_aload_n 1 rfl rfl dX6_copyFrom_100 ?_
  refine Go_getR (c' := 7) faX6_37 sh_1 (pt_1_8 (M := M) hp) dX6_copyFrom_101 ?_
  refine Go_iconst (by unfold in32; omega) dX6_copyFrom_104 ?_
  refine Go_aload_n 0 rfl rfl dX6_copyFrom_105 ?_
  refine Go_getR (c' := 58) faX6_37 sh_52 (pt_52_8 (M := M) hp) dX6_copyFrom_106 ?_
  refine Go_iconst (by unfold in32; omega) dX6_copyFrom_109 ?_
  refine Go_bipush ⟨by decide, by unfold in32; omega⟩ dX6_copyFrom_110 ?_
  refine Go_copyv (M 7) (M 58) rfl rfl cpX6_54 sh_7 sh_58 rfl ⟨Nat.le_of_ble_eq_true rfl, Nat.le_of_ble_eq_true rfl⟩ dX6_copyFrom_112 ?_
  exact Go_ret rfl dX6_copyFrom_115
set_option maxHeartbeats 4000000 in
set_option maxRecDepth 100000 in
theorem cp_1_52 {D : va_G} {ca : Nat → ClassId} {M : gMem} (hp : gPtr M) : Fn D ca mX6_copyFrom [gR 1, gR 52] SH M [] SH (cpV M 1 52) := by
  refine Fn_of okX6_copyFrom (Nat.le_of_ble_eq_true rfl) (Or.inl ⟨rfl, rfl⟩) (Nat.le_refl _) (Nat.le_refl _) ?_
  refine Go_ls2 (ls' := [(0, gR 1), (1, gR 52)]) rfl ?_
  refine Go_o 1 ?_
  refine Go_aload_n 0 rfl rfl dX6_copyFrom_0 ?_
  refine Go_aload_n 1 rfl rfl dX6_copyFrom_1 ?_
  refine Go_getIv (v := M 52 0) rfl faX6_9 sh_52 dX6_copyFrom_2 ?_
  refine Go_putIS fpX6_9 sh_1 dX6_copyFrom_5 ?_
  refine Go_aload_n 0 rfl rfl dX6_copyFrom_8 ?_
  refine Go_aload_n 1 rfl rfl dX6_copyFrom_9 ?_
  refine Go_getIv (v := M 52 1) rfl faX6_15 sh_52 dX6_copyFrom_10 ?_
  refine Go_putIS fpX6_15 sh_1 dX6_copyFrom_13 ?_
  refine Go_aload_n 0 rfl rfl dX6_copyFrom_16 ?_
  refine Go_aload_n 1 rfl rfl dX6_copyFrom_17 ?_
  refine Go_getIv (v := M 52 2) rfl faX6_18 sh_52 dX6_copyFrom_18 ?_
  refine Go_putIS fpX6_18 sh_1 dX6_copyFrom_21 ?_
  refine Go_aload_n 1 rfl rfl dX6_copyFrom_24 ?_
  refine Go_getR (c' := 53) faX6_21 sh_52 (pt_52_3 (M := M) hp) dX6_copyFrom_25 ?_
  refine Go_iconst (by unfold in32; omega) dX6_copyFrom_28 ?_
  refine Go_aload_n 0 rfl rfl dX6_copyFrom_29 ?_
  refine Go_getR (c' := 2) faX6_21 sh_1 (pt_1_3 (M := M) hp) dX6_copyFrom_30 ?_
  refine Go_iconst (by unfold in32; omega) dX6_copyFrom_33 ?_
  refine Go_bipush ⟨by decide, by unfold in32; omega⟩ dX6_copyFrom_34 ?_
  refine Go_copyv (M 53) (M 2) rfl rfl cpX6_54 sh_53 sh_2 rfl ⟨Nat.le_of_ble_eq_true rfl, Nat.le_of_ble_eq_true rfl⟩ dX6_copyFrom_36 ?_
  refine Go_aload_n 1 rfl rfl dX6_copyFrom_39 ?_
  refine Go_getR (c' := 54) faX6_25 sh_52 (pt_52_4 (M := M) hp) dX6_copyFrom_40 ?_
  refine Go_iconst (by unfold in32; omega) dX6_copyFrom_43 ?_
  refine Go_aload_n 0 rfl rfl dX6_copyFrom_44 ?_
  refine Go_getR (c' := 3) faX6_25 sh_1 (pt_1_4 (M := M) hp) dX6_copyFrom_45 ?_
  refine Go_iconst (by unfold in32; omega) dX6_copyFrom_48 ?_
  refine Go_sipush ⟨by decide, by unfold in32; omega⟩ dX6_copyFrom_49 ?_
  refine Go_copyv (M 54) (M 3) rfl rfl cpX6_54 sh_54 sh_3 rfl ⟨Nat.le_of_ble_eq_true rfl, Nat.le_of_ble_eq_true rfl⟩ dX6_copyFrom_52 ?_
  refine Go_aload_n 1 rfl rfl dX6_copyFrom_55 ?_
  refine Go_getR (c' := 55) faX6_28 sh_52 (pt_52_5 (M := M) hp) dX6_copyFrom_56 ?_
  refine Go_iconst (by unfold in32; omega) dX6_copyFrom_59 ?_
  refine Go_aload_n 0 rfl rfl dX6_copyFrom_60 ?_
  refine Go_getR (c' := 4) faX6_28 sh_1 (pt_1_5 (M := M) hp) dX6_copyFrom_61 ?_
  refine Go_iconst (by unfold in32; omega) dX6_copyFrom_64 ?_
  refine Go_bipush ⟨by decide, by unfold in32; omega⟩ dX6_copyFrom_65 ?_
  refine Go_copyv (M 55) (M 4) rfl rfl cpX6_54 sh_55 sh_4 rfl ⟨Nat.le_of_ble_eq_true rfl, Nat.le_of_ble_eq_true rfl⟩ dX6_copyFrom_67 ?_
  refine Go_aload_n 1 rfl rfl dX6_copyFrom_70 ?_
  refine Go_getR (c' := 56) faX6_31 sh_52 (pt_52_6 (M := M) hp) dX6_copyFrom_71 ?_
  refine Go_iconst (by unfold in32; omega) dX6_copyFrom_74 ?_
  refine Go_aload_n 0 rfl rfl dX6_copyFrom_75 ?_
  refine Go_getR (c' := 5) faX6_31 sh_1 (pt_1_6 (M := M) hp) dX6_copyFrom_76 ?_
  refine Go_iconst (by unfold in32; omega) dX6_copyFrom_79 ?_
  refine Go_bipush ⟨by decide, by unfold in32; omega⟩ dX6_copyFrom_80 ?_
  refine Go_copyv (M 56) (M 5) rfl rfl cpX6_54 sh_56 sh_5 rfl ⟨Nat.le_of_ble_eq_true rfl, Nat.le_of_ble_eq_true rfl⟩ dX6_copyFrom_82 ?_
  refine Go_aload_n 1 rfl rfl dX6_copyFrom_85 ?_
  refine Go_getR (c' := 57) faX6_34 sh_52 (pt_52_7 (M := M) hp) dX6_copyFrom_86 ?_
  refine Go_iconst (by unfold in32; omega) dX6_copyFrom_89 ?_
  refine Go_aload_n 0 rfl rfl dX6_copyFrom_90 ?_
  refine Go_getR (c' := 6) faX6_34 sh_1 (pt_1_7 (M := M) hp) dX6_copyFrom_91 ?_
  refine Go_iconst (by unfold in32; omega) dX6_copyFrom_94 ?_
  refine Go_bipush ⟨by decide, by unfold in32; omega⟩ dX6_copyFrom_95 ?_
  refine Go_copyv (M 57) (M 6) rfl rfl cpX6_54 sh_57 sh_6 rfl ⟨Nat.le_of_ble_eq_true rfl, Nat.le_of_ble_eq_true rfl⟩ dX6_copyFrom_97 ?_
  refine Go_aload_n 1 rfl rfl dX6_copyFrom_100 ?_
  refine Go_getR (c' := 58) faX6_37 sh_52 (pt_52_8 (M := M) hp) dX6_copyFrom_101 ?_
  refine Go_iconst (by unfold in32; omega) dX6_copyFrom_104 ?_
  refine Go_aload_n 0 rfl rfl dX6_copyFrom_105 ?_
  refine Go_getR (c' := 7) faX6_37 sh_1 (pt_1_8 (M := M) hp) dX6_copyFrom_106 ?_
  refine Go_iconst (by unfold in32; omega) dX6_copyFrom_109 ?_
  refine Go_bipush ⟨by decide, by unfold in32; omega⟩ dX6_copyFrom_110 ?_
  refine Go_copyv (M 58) (M 7) rfl rfl cpX6_54 sh_58 sh_7 rfl ⟨Nat.le_of_ble_eq_true rfl, Nat.le_of_ble_eq_true rfl⟩ dX6_copyFrom_112 ?_
  exact Go_ret rfl dX6_copyFrom_115
set_option maxHeartbeats 4000000 in
set_option maxRecDepth 100000 in
theorem lk_52 {D : va_G} {ca : Nat → ClassId} {M : gMem} (hp : gPtr M) : Fn D ca mX6_isLike [gR 52, gR 1] SH M [gI (bI (likeB M 52 1 = true))] SH (M) := by
  refine Fn_of okX6_isLike (Nat.le_of_ble_eq_true rfl) (Or.inr (Or.inr (Or.inl ⟨_, rfl, rfl, bI_01 _⟩))) (Nat.le_refl _) (Nat.le_refl _) ?_
  refine Go_ls2 (ls' := [(0, gR 52), (1, gR 1)]) rfl ?_
  refine Go_aload_n 0 rfl rfl dX6_isLike_0 ?_
  refine Go_getI faX6_9 sh_52 dX6_isLike_1 ?_
  refine Go_aload_n 1 rfl rfl dX6_isLike_4 ?_
  refine Go_getI faX6_9 sh_1 dX6_isLike_5 ?_
  refine Go_icmp_ne dX6_isLike_8 rfl (fun h8 => ?_) (fun h8 => ?_)
  · skip
    refine Go_iconst (by unfold in32; omega) dX6_isLike_79 ?_
    exact Go_ret (by rw [bI_f (likeB_f (fun q => by first | exact h8 q.1 | exact h19 q.2.1 | exact h30 q.2.2.1 | exact h44 (eqR_iff.mpr q.2.2.2.1) | exact h58 (eqR_iff.mpr q.2.2.2.2.1) | exact h72 (eqR_iff.mpr q.2.2.2.2.2)))]) dX6_isLike_80
  · skip
    refine Go_aload_n 0 rfl rfl dX6_isLike_11 ?_
    refine Go_getI faX6_15 sh_52 dX6_isLike_12 ?_
    refine Go_aload_n 1 rfl rfl dX6_isLike_15 ?_
    refine Go_getI faX6_15 sh_1 dX6_isLike_16 ?_
    refine Go_icmp_ne dX6_isLike_19 rfl (fun h19 => ?_) (fun h19 => ?_)
    · skip
      refine Go_iconst (by unfold in32; omega) dX6_isLike_79 ?_
      exact Go_ret (by rw [bI_f (likeB_f (fun q => by first | exact h8 q.1 | exact h19 q.2.1 | exact h30 q.2.2.1 | exact h44 (eqR_iff.mpr q.2.2.2.1) | exact h58 (eqR_iff.mpr q.2.2.2.2.1) | exact h72 (eqR_iff.mpr q.2.2.2.2.2)))]) dX6_isLike_80
    · skip
      refine Go_aload_n 0 rfl rfl dX6_isLike_22 ?_
      refine Go_getI faX6_18 sh_52 dX6_isLike_23 ?_
      refine Go_aload_n 1 rfl rfl dX6_isLike_26 ?_
      refine Go_getI faX6_18 sh_1 dX6_isLike_27 ?_
      refine Go_icmp_ne dX6_isLike_30 rfl (fun h30 => ?_) (fun h30 => ?_)
      · skip
        refine Go_iconst (by unfold in32; omega) dX6_isLike_79 ?_
        exact Go_ret (by rw [bI_f (likeB_f (fun q => by first | exact h8 q.1 | exact h19 q.2.1 | exact h30 q.2.2.1 | exact h44 (eqR_iff.mpr q.2.2.2.1) | exact h58 (eqR_iff.mpr q.2.2.2.2.1) | exact h72 (eqR_iff.mpr q.2.2.2.2.2)))]) dX6_isLike_80
      · skip
        refine Go_aload_n 0 rfl rfl dX6_isLike_33 ?_
        refine Go_getR (c' := 53) faX6_21 sh_52 (pt_52_3 (M := M) hp) dX6_isLike_34 ?_
        refine Go_aload_n 1 rfl rfl dX6_isLike_37 ?_
        refine Go_getR (c' := 2) faX6_21 sh_1 (pt_1_3 (M := M) hp) dX6_isLike_38 ?_
        refine Go_callSI (fX6_sameRows 53 2 12 sh_53 sh_2 (by decide)) cwX6_60 smX6_sameRows ⟨Nat.le_of_ble_eq_true rfl, Nat.le_of_ble_eq_true rfl⟩ rfl (Nat.le_of_ble_eq_true rfl) sh_rf dX6_isLike_41 ?_
        refine Go_if_eq dX6_isLike_44 rfl (fun h44 => ?_) (fun h44 => ?_)
        · skip
          replace h44 := bI_0.mp h44
          refine Go_iconst (by unfold in32; omega) dX6_isLike_79 ?_
          exact Go_ret (by rw [bI_f (likeB_f (fun q => by first | exact h8 q.1 | exact h19 q.2.1 | exact h30 q.2.2.1 | exact h44 (eqR_iff.mpr q.2.2.2.1) | exact h58 (eqR_iff.mpr q.2.2.2.2.1) | exact h72 (eqR_iff.mpr q.2.2.2.2.2)))]) dX6_isLike_80
        · skip
          replace h44 := bI_n.mp h44
          refine Go_aload_n 0 rfl rfl dX6_isLike_47 ?_
          refine Go_getR (c' := 54) faX6_25 sh_52 (pt_52_4 (M := M) hp) dX6_isLike_48 ?_
          refine Go_aload_n 1 rfl rfl dX6_isLike_51 ?_
          refine Go_getR (c' := 3) faX6_25 sh_1 (pt_1_4 (M := M) hp) dX6_isLike_52 ?_
          refine Go_callSI (fX6_sameRows 54 3 144 sh_54 sh_3 (by decide)) cwX6_60 smX6_sameRows ⟨Nat.le_of_ble_eq_true rfl, Nat.le_of_ble_eq_true rfl⟩ rfl (Nat.le_of_ble_eq_true rfl) sh_rf dX6_isLike_55 ?_
          refine Go_if_eq dX6_isLike_58 rfl (fun h58 => ?_) (fun h58 => ?_)
          · skip
            replace h58 := bI_0.mp h58
            refine Go_iconst (by unfold in32; omega) dX6_isLike_79 ?_
            exact Go_ret (by rw [bI_f (likeB_f (fun q => by first | exact h8 q.1 | exact h19 q.2.1 | exact h30 q.2.2.1 | exact h44 (eqR_iff.mpr q.2.2.2.1) | exact h58 (eqR_iff.mpr q.2.2.2.2.1) | exact h72 (eqR_iff.mpr q.2.2.2.2.2)))]) dX6_isLike_80
          · skip
            replace h58 := bI_n.mp h58
            refine Go_aload_n 0 rfl rfl dX6_isLike_61 ?_
            refine Go_getR (c' := 58) faX6_37 sh_52 (pt_52_8 (M := M) hp) dX6_isLike_62 ?_
            refine Go_aload_n 1 rfl rfl dX6_isLike_65 ?_
            refine Go_getR (c' := 7) faX6_37 sh_1 (pt_1_8 (M := M) hp) dX6_isLike_66 ?_
            refine Go_callSI (fX6_sameRows 58 7 10 sh_58 sh_7 (by decide)) cwX6_60 smX6_sameRows ⟨Nat.le_of_ble_eq_true rfl, Nat.le_of_ble_eq_true rfl⟩ rfl (Nat.le_of_ble_eq_true rfl) sh_rf dX6_isLike_69 ?_
            refine Go_if_eq dX6_isLike_72 rfl (fun h72 => ?_) (fun h72 => ?_)
            · skip
              replace h72 := bI_0.mp h72
              refine Go_iconst (by unfold in32; omega) dX6_isLike_79 ?_
              exact Go_ret (by rw [bI_f (likeB_f (fun q => by first | exact h8 q.1 | exact h19 q.2.1 | exact h30 q.2.2.1 | exact h44 (eqR_iff.mpr q.2.2.2.1) | exact h58 (eqR_iff.mpr q.2.2.2.2.1) | exact h72 (eqR_iff.mpr q.2.2.2.2.2)))]) dX6_isLike_80
            · skip
              replace h72 := bI_n.mp h72
              refine Go_iconst (by unfold in32; omega) dX6_isLike_75 ?_
              refine Go_goto dX6_isLike_76 rfl ?_
              exact Go_ret (by rw [bI_t (likeB_t ⟨h8, h19, h30, eqR_iff.mp h44, eqR_iff.mp h58, eqR_iff.mp h72⟩)]) dX6_isLike_80
set_option maxHeartbeats 4000000 in
set_option maxRecDepth 100000 in
theorem cp_59_1 {D : va_G} {ca : Nat → ClassId} {M : gMem} (hp : gPtr M) : Fn D ca mX6_copyFrom [gR 59, gR 1] SH M [] SH (cpV M 59 1) := by
  refine Fn_of okX6_copyFrom (Nat.le_of_ble_eq_true rfl) (Or.inl ⟨rfl, rfl⟩) (Nat.le_refl _) (Nat.le_refl _) ?_
  refine Go_ls2 (ls' := [(0, gR 59), (1, gR 1)]) rfl ?_
  refine Go_o 59 ?_
  refine Go_aload_n 0 rfl rfl dX6_copyFrom_0 ?_
  refine Go_aload_n 1 rfl rfl dX6_copyFrom_1 ?_
  refine Go_getIv (v := M 1 0) rfl faX6_9 sh_1 dX6_copyFrom_2 ?_
  refine Go_putIS fpX6_9 sh_59 dX6_copyFrom_5 ?_
  refine Go_aload_n 0 rfl rfl dX6_copyFrom_8 ?_
  refine Go_aload_n 1 rfl rfl dX6_copyFrom_9 ?_
  refine Go_getIv (v := M 1 1) rfl faX6_15 sh_1 dX6_copyFrom_10 ?_
  refine Go_putIS fpX6_15 sh_59 dX6_copyFrom_13 ?_
  refine Go_aload_n 0 rfl rfl dX6_copyFrom_16 ?_
  refine Go_aload_n 1 rfl rfl dX6_copyFrom_17 ?_
  refine Go_getIv (v := M 1 2) rfl faX6_18 sh_1 dX6_copyFrom_18 ?_
  refine Go_putIS fpX6_18 sh_59 dX6_copyFrom_21 ?_
  refine Go_aload_n 1 rfl rfl dX6_copyFrom_24 ?_
  refine Go_getR (c' := 2) faX6_21 sh_1 (pt_1_3 (M := M) hp) dX6_copyFrom_25 ?_
  refine Go_iconst (by unfold in32; omega) dX6_copyFrom_28 ?_
  refine Go_aload_n 0 rfl rfl dX6_copyFrom_29 ?_
  refine Go_getR (c' := 60) faX6_21 sh_59 (pt_59_3 (M := M) hp) dX6_copyFrom_30 ?_
  refine Go_iconst (by unfold in32; omega) dX6_copyFrom_33 ?_
  refine Go_bipush ⟨by decide, by unfold in32; omega⟩ dX6_copyFrom_34 ?_
  refine Go_copyv (M 2) (M 60) rfl rfl cpX6_54 sh_2 sh_60 rfl ⟨Nat.le_of_ble_eq_true rfl, Nat.le_of_ble_eq_true rfl⟩ dX6_copyFrom_36 ?_
  refine Go_aload_n 1 rfl rfl dX6_copyFrom_39 ?_
  refine Go_getR (c' := 3) faX6_25 sh_1 (pt_1_4 (M := M) hp) dX6_copyFrom_40 ?_
  refine Go_iconst (by unfold in32; omega) dX6_copyFrom_43 ?_
  refine Go_aload_n 0 rfl rfl dX6_copyFrom_44 ?_
  refine Go_getR (c' := 61) faX6_25 sh_59 (pt_59_4 (M := M) hp) dX6_copyFrom_45 ?_
  refine Go_iconst (by unfold in32; omega) dX6_copyFrom_48 ?_
  refine Go_sipush ⟨by decide, by unfold in32; omega⟩ dX6_copyFrom_49 ?_
  refine Go_copyv (M 3) (M 61) rfl rfl cpX6_54 sh_3 sh_61 rfl ⟨Nat.le_of_ble_eq_true rfl, Nat.le_of_ble_eq_true rfl⟩ dX6_copyFrom_52 ?_
  refine Go_aload_n 1 rfl rfl dX6_copyFrom_55 ?_
  refine Go_getR (c' := 4) faX6_28 sh_1 (pt_1_5 (M := M) hp) dX6_copyFrom_56 ?_
  refine Go_iconst (by unfold in32; omega) dX6_copyFrom_59 ?_
  refine Go_aload_n 0 rfl rfl dX6_copyFrom_60 ?_
  refine Go_getR (c' := 62) faX6_28 sh_59 (pt_59_5 (M := M) hp) dX6_copyFrom_61 ?_
  refine Go_iconst (by unfold in32; omega) dX6_copyFrom_64 ?_
  refine Go_bipush ⟨by decide, by unfold in32; omega⟩ dX6_copyFrom_65 ?_
  refine Go_copyv (M 4) (M 62) rfl rfl cpX6_54 sh_4 sh_62 rfl ⟨Nat.le_of_ble_eq_true rfl, Nat.le_of_ble_eq_true rfl⟩ dX6_copyFrom_67 ?_
  refine Go_aload_n 1 rfl rfl dX6_copyFrom_70 ?_
  refine Go_getR (c' := 5) faX6_31 sh_1 (pt_1_6 (M := M) hp) dX6_copyFrom_71 ?_
  refine Go_iconst (by unfold in32; omega) dX6_copyFrom_74 ?_
  refine Go_aload_n 0 rfl rfl dX6_copyFrom_75 ?_
  refine Go_getR (c' := 63) faX6_31 sh_59 (pt_59_6 (M := M) hp) dX6_copyFrom_76 ?_
  refine Go_iconst (by unfold in32; omega) dX6_copyFrom_79 ?_
  refine Go_bipush ⟨by decide, by unfold in32; omega⟩ dX6_copyFrom_80 ?_
  refine Go_copyv (M 5) (M 63) rfl rfl cpX6_54 sh_5 sh_63 rfl ⟨Nat.le_of_ble_eq_true rfl, Nat.le_of_ble_eq_true rfl⟩ dX6_copyFrom_82 ?_
  refine Go_aload_n 1 rfl rfl dX6_copyFrom_85 ?_
  refine Go_getR (c' := 6) faX6_34 sh_1 (pt_1_7 (M := M) hp) dX6_copyFrom_86 ?_
  refine Go_iconst (by unfold in32; omega) dX6_copyFrom_89 ?_
  refine Go_aload_n 0 rfl rfl dX6_copyFrom_90 ?_
  refine Go_getR (c' := 64) faX6_34 sh_59 (pt_59_7 (M := M) hp) dX6_copyFrom_91 ?_
  refine Go_iconst (by unfold in32; omega) dX6_copyFrom_94 ?_
  refine Go_bipush ⟨by decide, by unfold in32; omega⟩ dX6_copyFrom_95 ?_
  refine Go_copyv (M 6) (M 64) rfl rfl cpX6_54 sh_6 sh_64 rfl ⟨Nat.le_of_ble_eq_true rfl, Nat.le_of_ble_eq_true rfl⟩ dX6_copyFrom_97 ?_
  refine Go_aload_n 1 rfl rfl dX6_copyFrom_100 ?_
  refine Go_getR (c' := 7) faX6_37 sh_1 (pt_1_8 (M := M) hp) dX6_copyFrom_101 ?_
  refine Go_iconst (by unfold in32; omega) dX6_copyFrom_104 ?_
  refine Go_aload_n 0 rfl rfl dX6_copyFrom_105 ?_
  refine Go_getR (c' := 65) faX6_37 sh_59 (pt_59_8 (M := M) hp) dX6_copyFrom_106 ?_
  refine Go_iconst (by unfold in32; omega) dX6_copyFrom_109 ?_
  refine Go_bipush ⟨by decide, by unfold in32; omega⟩ dX6_copyFrom_110 ?_
  refine Go_copyv (M 7) (M 65) rfl rfl cpX6_54 sh_7 sh_65 rfl ⟨Nat.le_of_ble_eq_true rfl, Nat.le_of_ble_eq_true rfl⟩ dX6_copyFrom_112 ?_
  exact Go_ret rfl dX6_copyFrom_115
set_option maxHeartbeats 4000000 in
set_option maxRecDepth 100000 in
theorem cp_1_59 {D : va_G} {ca : Nat → ClassId} {M : gMem} (hp : gPtr M) : Fn D ca mX6_copyFrom [gR 1, gR 59] SH M [] SH (cpV M 1 59) := by
  refine Fn_of okX6_copyFrom (Nat.le_of_ble_eq_true rfl) (Or.inl ⟨rfl, rfl⟩) (Nat.le_refl _) (Nat.le_refl _) ?_
  refine Go_ls2 (ls' := [(0, gR 1), (1, gR 59)]) rfl ?_
  refine Go_o 1 ?_
  refine Go_aload_n 0 rfl rfl dX6_copyFrom_0 ?_
  refine Go_aload_n 1 rfl rfl dX6_copyFrom_1 ?_
  refine Go_getIv (v := M 59 0) rfl faX6_9 sh_59 dX6_copyFrom_2 ?_
  refine Go_putIS fpX6_9 sh_1 dX6_copyFrom_5 ?_
  refine Go_aload_n 0 rfl rfl dX6_copyFrom_8 ?_
  refine Go_aload_n 1 rfl rfl dX6_copyFrom_9 ?_
  refine Go_getIv (v := M 59 1) rfl faX6_15 sh_59 dX6_copyFrom_10 ?_
  refine Go_putIS fpX6_15 sh_1 dX6_copyFrom_13 ?_
  refine Go_aload_n 0 rfl rfl dX6_copyFrom_16 ?_
  refine Go_aload_n 1 rfl rfl dX6_copyFrom_17 ?_
  refine Go_getIv (v := M 59 2) rfl faX6_18 sh_59 dX6_copyFrom_18 ?_
  refine Go_putIS fpX6_18 sh_1 dX6_copyFrom_21 ?_
  refine Go_aload_n 1 rfl rfl dX6_copyFrom_24 ?_
  refine Go_getR (c' := 60) faX6_21 sh_59 (pt_59_3 (M := M) hp) dX6_copyFrom_25 ?_
  refine Go_iconst (by unfold in32; omega) dX6_copyFrom_28 ?_
  refine Go_aload_n 0 rfl rfl dX6_copyFrom_29 ?_
  refine Go_getR (c' := 2) faX6_21 sh_1 (pt_1_3 (M := M) hp) dX6_copyFrom_30 ?_
  refine Go_iconst (by unfold in32; omega) dX6_copyFrom_33 ?_
  refine Go_bipush ⟨by decide, by unfold in32; omega⟩ dX6_copyFrom_34 ?_
  refine Go_copyv (M 60) (M 2) rfl rfl cpX6_54 sh_60 sh_2 rfl ⟨Nat.le_of_ble_eq_true rfl, Nat.le_of_ble_eq_true rfl⟩ dX6_copyFrom_36 ?_
  refine Go_aload_n 1 rfl rfl dX6_copyFrom_39 ?_
  refine Go_getR (c' := 61) faX6_25 sh_59 (pt_59_4 (M := M) hp) dX6_copyFrom_40 ?_
  refine Go_iconst (by unfold in32; omega) dX6_copyFrom_43 ?_
  refine Go_aload_n 0 rfl rfl dX6_copyFrom_44 ?_
  refine Go_getR (c' := 3) faX6_25 sh_1 (pt_1_4 (M := M) hp) dX6_copyFrom_45 ?_
  refine Go_iconst (by unfold in32; omega) dX6_copyFrom_48 ?_
  refine Go_sipush ⟨by decide, by unfold in32; omega⟩ dX6_copyFrom_49 ?_
  refine Go_copyv (M 61) (M 3) rfl rfl cpX6_54 sh_61 sh_3 rfl ⟨Nat.le_of_ble_eq_true rfl, Nat.le_of_ble_eq_true rfl⟩ dX6_copyFrom_52 ?_
  refine Go_aload_n 1 rfl rfl dX6_copyFrom_55 ?_
  refine Go_getR (c' := 62) faX6_28 sh_59 (pt_59_5 (M := M) hp) dX6_copyFrom_56 ?_
  refine Go_iconst (by unfold in32; omega) dX6_copyFrom_59 ?_
  refine Go_aload_n 0 rfl rfl dX6_copyFrom_60 ?_
  refine Go_getR (c' := 4) faX6_28 sh_1 (pt_1_5 (M := M) hp) dX6_copyFrom_61 ?_
  refine Go_iconst (by unfold in32; omega) dX6_copyFrom_64 ?_
  refine Go_bipush ⟨by decide, by unfold in32; omega⟩ dX6_copyFrom_65 ?_
  refine Go_copyv (M 62) (M 4) rfl rfl cpX6_54 sh_62 sh_4 rfl ⟨Nat.le_of_ble_eq_true rfl, Nat.le_of_ble_eq_true rfl⟩ dX6_copyFrom_67 ?_
  refine Go_aload_n 1 rfl rfl dX6_copyFrom_70 ?_
  refine Go_getR (c' := 63) faX6_31 sh_59 (pt_59_6 (M := M) hp) dX6_copyFrom_71 ?_
  refine Go_iconst (by unfold in32; omega) dX6_copyFrom_74 ?_
  refine Go_aload_n 0 rfl rfl dX6_copyFrom_75 ?_
  refine Go_getR (c' := 5) faX6_31 sh_1 (pt_1_6 (M := M) hp) dX6_copyFrom_76 ?_
  refine Go_iconst (by unfold in32; omega) dX6_copyFrom_79 ?_
  refine Go_bipush ⟨by decide, by unfold in32; omega⟩ dX6_copyFrom_80 ?_
  refine Go_copyv (M 63) (M 5) rfl rfl cpX6_54 sh_63 sh_5 rfl ⟨Nat.le_of_ble_eq_true rfl, Nat.le_of_ble_eq_true rfl⟩ dX6_copyFrom_82 ?_
  refine Go_aload_n 1 rfl rfl dX6_copyFrom_85 ?_
  refine Go_getR (c' := 64) faX6_34 sh_59 (pt_59_7 (M := M) hp) dX6_copyFrom_86 ?_
  refine Go_iconst (by unfold in32; omega) dX6_copyFrom_89 ?_
  refine Go_aload_n 0 rfl rfl dX6_copyFrom_90 ?_
  refine Go_getR (c' := 6) faX6_34 sh_1 (pt_1_7 (M := M) hp) dX6_copyFrom_91 ?_
  refine Go_iconst (by unfold in32; omega) dX6_copyFrom_94 ?_
  refine Go_bipush ⟨by decide, by unfold in32; omega⟩ dX6_copyFrom_95 ?_
  refine Go_copyv (M 64) (M 6) rfl rfl cpX6_54 sh_64 sh_6 rfl ⟨Nat.le_of_ble_eq_true rfl, Nat.le_of_ble_eq_true rfl⟩ dX6_copyFrom_97 ?_
  refine Go_aload_n 1 rfl rfl dX6_copyFrom_100 ?_
  refine Go_getR (c' := 65) faX6_37 sh_59 (pt_59_8 (M := M) hp) dX6_copyFrom_101 ?_
  refine Go_iconst (by unfold in32; omega) dX6_copyFrom_104 ?_
  refine Go_aload_n 0 rfl rfl dX6_copyFrom_105 ?_
  refine Go_getR (c' := 7) faX6_37 sh_1 (pt_1_8 (M := M) hp) dX6_copyFrom_106 ?_
  refine Go_iconst (by unfold in32; omega) dX6_copyFrom_109 ?_
  refine Go_bipush ⟨by decide, by unfold in32; omega⟩ dX6_copyFrom_110 ?_
  refine Go_copyv (M 65) (M 7) rfl rfl cpX6_54 sh_65 sh_7 rfl ⟨Nat.le_of_ble_eq_true rfl, Nat.le_of_ble_eq_true rfl⟩ dX6_copyFrom_112 ?_
  exact Go_ret rfl dX6_copyFrom_115
set_option maxHeartbeats 4000000 in
set_option maxRecDepth 100000 in
theorem lk_59 {D : va_G} {ca : Nat → ClassId} {M : gMem} (hp : gPtr M) : Fn D ca mX6_isLike [gR 59, gR 1] SH M [gI (bI (likeB M 59 1 = true))] SH (M) := by
  refine Fn_of okX6_isLike (Nat.le_of_ble_eq_true rfl) (Or.inr (Or.inr (Or.inl ⟨_, rfl, rfl, bI_01 _⟩))) (Nat.le_refl _) (Nat.le_refl _) ?_
  refine Go_ls2 (ls' := [(0, gR 59), (1, gR 1)]) rfl ?_
  refine Go_aload_n 0 rfl rfl dX6_isLike_0 ?_
  refine Go_getI faX6_9 sh_59 dX6_isLike_1 ?_
  refine Go_aload_n 1 rfl rfl dX6_isLike_4 ?_
  refine Go_getI faX6_9 sh_1 dX6_isLike_5 ?_
  refine Go_icmp_ne dX6_isLike_8 rfl (fun h8 => ?_) (fun h8 => ?_)
  · skip
    refine Go_iconst (by unfold in32; omega) dX6_isLike_79 ?_
    exact Go_ret (by rw [bI_f (likeB_f (fun q => by first | exact h8 q.1 | exact h19 q.2.1 | exact h30 q.2.2.1 | exact h44 (eqR_iff.mpr q.2.2.2.1) | exact h58 (eqR_iff.mpr q.2.2.2.2.1) | exact h72 (eqR_iff.mpr q.2.2.2.2.2)))]) dX6_isLike_80
  · skip
    refine Go_aload_n 0 rfl rfl dX6_isLike_11 ?_
    refine Go_getI faX6_15 sh_59 dX6_isLike_12 ?_
    refine Go_aload_n 1 rfl rfl dX6_isLike_15 ?_
    refine Go_getI faX6_15 sh_1 dX6_isLike_16 ?_
    refine Go_icmp_ne dX6_isLike_19 rfl (fun h19 => ?_) (fun h19 => ?_)
    · skip
      refine Go_iconst (by unfold in32; omega) dX6_isLike_79 ?_
      exact Go_ret (by rw [bI_f (likeB_f (fun q => by first | exact h8 q.1 | exact h19 q.2.1 | exact h30 q.2.2.1 | exact h44 (eqR_iff.mpr q.2.2.2.1) | exact h58 (eqR_iff.mpr q.2.2.2.2.1) | exact h72 (eqR_iff.mpr q.2.2.2.2.2)))]) dX6_isLike_80
    · skip
      refine Go_aload_n 0 rfl rfl dX6_isLike_22 ?_
      refine Go_getI faX6_18 sh_59 dX6_isLike_23 ?_
      refine Go_aload_n 1 rfl rfl dX6_isLike_26 ?_
      refine Go_getI faX6_18 sh_1 dX6_isLike_27 ?_
      refine Go_icmp_ne dX6_isLike_30 rfl (fun h30 => ?_) (fun h30 => ?_)
      · skip
        refine Go_iconst (by unfold in32; omega) dX6_isLike_79 ?_
        exact Go_ret (by rw [bI_f (likeB_f (fun q => by first | exact h8 q.1 | exact h19 q.2.1 | exact h30 q.2.2.1 | exact h44 (eqR_iff.mpr q.2.2.2.1) | exact h58 (eqR_iff.mpr q.2.2.2.2.1) | exact h72 (eqR_iff.mpr q.2.2.2.2.2)))]) dX6_isLike_80
      · skip
        refine Go_aload_n 0 rfl rfl dX6_isLike_33 ?_
        refine Go_getR (c' := 60) faX6_21 sh_59 (pt_59_3 (M := M) hp) dX6_isLike_34 ?_
        refine Go_aload_n 1 rfl rfl dX6_isLike_37 ?_
        refine Go_getR (c' := 2) faX6_21 sh_1 (pt_1_3 (M := M) hp) dX6_isLike_38 ?_
        refine Go_callSI (fX6_sameRows 60 2 12 sh_60 sh_2 (by decide)) cwX6_60 smX6_sameRows ⟨Nat.le_of_ble_eq_true rfl, Nat.le_of_ble_eq_true rfl⟩ rfl (Nat.le_of_ble_eq_true rfl) sh_rf dX6_isLike_41 ?_
        refine Go_if_eq dX6_isLike_44 rfl (fun h44 => ?_) (fun h44 => ?_)
        · skip
          replace h44 := bI_0.mp h44
          refine Go_iconst (by unfold in32; omega) dX6_isLike_79 ?_
          exact Go_ret (by rw [bI_f (likeB_f (fun q => by first | exact h8 q.1 | exact h19 q.2.1 | exact h30 q.2.2.1 | exact h44 (eqR_iff.mpr q.2.2.2.1) | exact h58 (eqR_iff.mpr q.2.2.2.2.1) | exact h72 (eqR_iff.mpr q.2.2.2.2.2)))]) dX6_isLike_80
        · skip
          replace h44 := bI_n.mp h44
          refine Go_aload_n 0 rfl rfl dX6_isLike_47 ?_
          refine Go_getR (c' := 61) faX6_25 sh_59 (pt_59_4 (M := M) hp) dX6_isLike_48 ?_
          refine Go_aload_n 1 rfl rfl dX6_isLike_51 ?_
          refine Go_getR (c' := 3) faX6_25 sh_1 (pt_1_4 (M := M) hp) dX6_isLike_52 ?_
          refine Go_callSI (fX6_sameRows 61 3 144 sh_61 sh_3 (by decide)) cwX6_60 smX6_sameRows ⟨Nat.le_of_ble_eq_true rfl, Nat.le_of_ble_eq_true rfl⟩ rfl (Nat.le_of_ble_eq_true rfl) sh_rf dX6_isLike_55 ?_
          refine Go_if_eq dX6_isLike_58 rfl (fun h58 => ?_) (fun h58 => ?_)
          · skip
            replace h58 := bI_0.mp h58
            refine Go_iconst (by unfold in32; omega) dX6_isLike_79 ?_
            exact Go_ret (by rw [bI_f (likeB_f (fun q => by first | exact h8 q.1 | exact h19 q.2.1 | exact h30 q.2.2.1 | exact h44 (eqR_iff.mpr q.2.2.2.1) | exact h58 (eqR_iff.mpr q.2.2.2.2.1) | exact h72 (eqR_iff.mpr q.2.2.2.2.2)))]) dX6_isLike_80
          · skip
            replace h58 := bI_n.mp h58
            refine Go_aload_n 0 rfl rfl dX6_isLike_61 ?_
            refine Go_getR (c' := 65) faX6_37 sh_59 (pt_59_8 (M := M) hp) dX6_isLike_62 ?_
            refine Go_aload_n 1 rfl rfl dX6_isLike_65 ?_
            refine Go_getR (c' := 7) faX6_37 sh_1 (pt_1_8 (M := M) hp) dX6_isLike_66 ?_
            refine Go_callSI (fX6_sameRows 65 7 10 sh_65 sh_7 (by decide)) cwX6_60 smX6_sameRows ⟨Nat.le_of_ble_eq_true rfl, Nat.le_of_ble_eq_true rfl⟩ rfl (Nat.le_of_ble_eq_true rfl) sh_rf dX6_isLike_69 ?_
            refine Go_if_eq dX6_isLike_72 rfl (fun h72 => ?_) (fun h72 => ?_)
            · skip
              replace h72 := bI_0.mp h72
              refine Go_iconst (by unfold in32; omega) dX6_isLike_79 ?_
              exact Go_ret (by rw [bI_f (likeB_f (fun q => by first | exact h8 q.1 | exact h19 q.2.1 | exact h30 q.2.2.1 | exact h44 (eqR_iff.mpr q.2.2.2.1) | exact h58 (eqR_iff.mpr q.2.2.2.2.1) | exact h72 (eqR_iff.mpr q.2.2.2.2.2)))]) dX6_isLike_80
            · skip
              replace h72 := bI_n.mp h72
              refine Go_iconst (by unfold in32; omega) dX6_isLike_75 ?_
              refine Go_goto dX6_isLike_76 rfl ?_
              exact Go_ret (by rw [bI_t (likeB_t ⟨h8, h19, h30, eqR_iff.mp h44, eqR_iff.mp h58, eqR_iff.mp h72⟩)]) dX6_isLike_80
set_option maxHeartbeats 4000000 in
set_option maxRecDepth 100000 in
theorem cp_66_1 {D : va_G} {ca : Nat → ClassId} {M : gMem} (hp : gPtr M) : Fn D ca mX6_copyFrom [gR 66, gR 1] SH M [] SH (cpV M 66 1) := by
  refine Fn_of okX6_copyFrom (Nat.le_of_ble_eq_true rfl) (Or.inl ⟨rfl, rfl⟩) (Nat.le_refl _) (Nat.le_refl _) ?_
  refine Go_ls2 (ls' := [(0, gR 66), (1, gR 1)]) rfl ?_
  refine Go_o 66 ?_
  refine Go_aload_n 0 rfl rfl dX6_copyFrom_0 ?_
  refine Go_aload_n 1 rfl rfl dX6_copyFrom_1 ?_
  refine Go_getIv (v := M 1 0) rfl faX6_9 sh_1 dX6_copyFrom_2 ?_
  refine Go_putIS fpX6_9 sh_66 dX6_copyFrom_5 ?_
  refine Go_aload_n 0 rfl rfl dX6_copyFrom_8 ?_
  refine Go_aload_n 1 rfl rfl dX6_copyFrom_9 ?_
  refine Go_getIv (v := M 1 1) rfl faX6_15 sh_1 dX6_copyFrom_10 ?_
  refine Go_putIS fpX6_15 sh_66 dX6_copyFrom_13 ?_
  refine Go_aload_n 0 rfl rfl dX6_copyFrom_16 ?_
  refine Go_aload_n 1 rfl rfl dX6_copyFrom_17 ?_
  refine Go_getIv (v := M 1 2) rfl faX6_18 sh_1 dX6_copyFrom_18 ?_
  refine Go_putIS fpX6_18 sh_66 dX6_copyFrom_21 ?_
  refine Go_aload_n 1 rfl rfl dX6_copyFrom_24 ?_
  refine Go_getR (c' := 2) faX6_21 sh_1 (pt_1_3 (M := M) hp) dX6_copyFrom_25 ?_
  refine Go_iconst (by unfold in32; omega) dX6_copyFrom_28 ?_
  refine Go_aload_n 0 rfl rfl dX6_copyFrom_29 ?_
  refine Go_getR (c' := 67) faX6_21 sh_66 (pt_66_3 (M := M) hp) dX6_copyFrom_30 ?_
  refine Go_iconst (by unfold in32; omega) dX6_copyFrom_33 ?_
  refine Go_bipush ⟨by decide, by unfold in32; omega⟩ dX6_copyFrom_34 ?_
  refine Go_copyv (M 2) (M 67) rfl rfl cpX6_54 sh_2 sh_67 rfl ⟨Nat.le_of_ble_eq_true rfl, Nat.le_of_ble_eq_true rfl⟩ dX6_copyFrom_36 ?_
  refine Go_aload_n 1 rfl rfl dX6_copyFrom_39 ?_
  refine Go_getR (c' := 3) faX6_25 sh_1 (pt_1_4 (M := M) hp) dX6_copyFrom_40 ?_
  refine Go_iconst (by unfold in32; omega) dX6_copyFrom_43 ?_
  refine Go_aload_n 0 rfl rfl dX6_copyFrom_44 ?_
  refine Go_getR (c' := 68) faX6_25 sh_66 (pt_66_4 (M := M) hp) dX6_copyFrom_45 ?_
  refine Go_iconst (by unfold in32; omega) dX6_copyFrom_48 ?_
  refine Go_sipush ⟨by decide, by unfold in32; omega⟩ dX6_copyFrom_49 ?_
  refine Go_copyv (M 3) (M 68) rfl rfl cpX6_54 sh_3 sh_68 rfl ⟨Nat.le_of_ble_eq_true rfl, Nat.le_of_ble_eq_true rfl⟩ dX6_copyFrom_52 ?_
  refine Go_aload_n 1 rfl rfl dX6_copyFrom_55 ?_
  refine Go_getR (c' := 4) faX6_28 sh_1 (pt_1_5 (M := M) hp) dX6_copyFrom_56 ?_
  refine Go_iconst (by unfold in32; omega) dX6_copyFrom_59 ?_
  refine Go_aload_n 0 rfl rfl dX6_copyFrom_60 ?_
  refine Go_getR (c' := 69) faX6_28 sh_66 (pt_66_5 (M := M) hp) dX6_copyFrom_61 ?_
  refine Go_iconst (by unfold in32; omega) dX6_copyFrom_64 ?_
  refine Go_bipush ⟨by decide, by unfold in32; omega⟩ dX6_copyFrom_65 ?_
  refine Go_copyv (M 4) (M 69) rfl rfl cpX6_54 sh_4 sh_69 rfl ⟨Nat.le_of_ble_eq_true rfl, Nat.le_of_ble_eq_true rfl⟩ dX6_copyFrom_67 ?_
  refine Go_aload_n 1 rfl rfl dX6_copyFrom_70 ?_
  refine Go_getR (c' := 5) faX6_31 sh_1 (pt_1_6 (M := M) hp) dX6_copyFrom_71 ?_
  refine Go_iconst (by unfold in32; omega) dX6_copyFrom_74 ?_
  refine Go_aload_n 0 rfl rfl dX6_copyFrom_75 ?_
  refine Go_getR (c' := 70) faX6_31 sh_66 (pt_66_6 (M := M) hp) dX6_copyFrom_76 ?_
  refine Go_iconst (by unfold in32; omega) dX6_copyFrom_79 ?_
  refine Go_bipush ⟨by decide, by unfold in32; omega⟩ dX6_copyFrom_80 ?_
  refine Go_copyv (M 5) (M 70) rfl rfl cpX6_54 sh_5 sh_70 rfl ⟨Nat.le_of_ble_eq_true rfl, Nat.le_of_ble_eq_true rfl⟩ dX6_copyFrom_82 ?_
  refine Go_aload_n 1 rfl rfl dX6_copyFrom_85 ?_
  refine Go_getR (c' := 6) faX6_34 sh_1 (pt_1_7 (M := M) hp) dX6_copyFrom_86 ?_
  refine Go_iconst (by unfold in32; omega) dX6_copyFrom_89 ?_
  refine Go_aload_n 0 rfl rfl dX6_copyFrom_90 ?_
  refine Go_getR (c' := 71) faX6_34 sh_66 (pt_66_7 (M := M) hp) dX6_copyFrom_91 ?_
  refine Go_iconst (by unfold in32; omega) dX6_copyFrom_94 ?_
  refine Go_bipush ⟨by decide, by unfold in32; omega⟩ dX6_copyFrom_95 ?_
  refine Go_copyv (M 6) (M 71) rfl rfl cpX6_54 sh_6 sh_71 rfl ⟨Nat.le_of_ble_eq_true rfl, Nat.le_of_ble_eq_true rfl⟩ dX6_copyFrom_97 ?_
  refine Go_aload_n 1 rfl rfl dX6_copyFrom_100 ?_
  refine Go_getR (c' := 7) faX6_37 sh_1 (pt_1_8 (M := M) hp) dX6_copyFrom_101 ?_
  refine Go_iconst (by unfold in32; omega) dX6_copyFrom_104 ?_
  refine Go_aload_n 0 rfl rfl dX6_copyFrom_105 ?_
  refine Go_getR (c' := 72) faX6_37 sh_66 (pt_66_8 (M := M) hp) dX6_copyFrom_106 ?_
  refine Go_iconst (by unfold in32; omega) dX6_copyFrom_109 ?_
  refine Go_bipush ⟨by decide, by unfold in32; omega⟩ dX6_copyFrom_110 ?_
  refine Go_copyv (M 7) (M 72) rfl rfl cpX6_54 sh_7 sh_72 rfl ⟨Nat.le_of_ble_eq_true rfl, Nat.le_of_ble_eq_true rfl⟩ dX6_copyFrom_112 ?_
  exact Go_ret rfl dX6_copyFrom_115
set_option maxHeartbeats 4000000 in
set_option maxRecDepth 100000 in
theorem cp_1_66 {D : va_G} {ca : Nat → ClassId} {M : gMem} (hp : gPtr M) : Fn D ca mX6_copyFrom [gR 1, gR 66] SH M [] SH (cpV M 1 66) := by
  refine Fn_of okX6_copyFrom (Nat.le_of_ble_eq_true rfl) (Or.inl ⟨rfl, rfl⟩) (Nat.le_refl _) (Nat.le_refl _) ?_
  refine Go_ls2 (ls' := [(0, gR 1), (1, gR 66)]) rfl ?_
  refine Go_o 1 ?_
  refine Go_aload_n 0 rfl rfl dX6_copyFrom_0 ?_
  refine Go_aload_n 1 rfl rfl dX6_copyFrom_1 ?_
  refine Go_getIv (v := M 66 0) rfl faX6_9 sh_66 dX6_copyFrom_2 ?_
  refine Go_putIS fpX6_9 sh_1 dX6_copyFrom_5 ?_
  refine Go_aload_n 0 rfl rfl dX6_copyFrom_8 ?_
  refine Go_aload_n 1 rfl rfl dX6_copyFrom_9 ?_
  refine Go_getIv (v := M 66 1) rfl faX6_15 sh_66 dX6_copyFrom_10 ?_
  refine Go_putIS fpX6_15 sh_1 dX6_copyFrom_13 ?_
  refine Go_aload_n 0 rfl rfl dX6_copyFrom_16 ?_
  refine Go_aload_n 1 rfl rfl dX6_copyFrom_17 ?_
  refine Go_getIv (v := M 66 2) rfl faX6_18 sh_66 dX6_copyFrom_18 ?_
  refine Go_putIS fpX6_18 sh_1 dX6_copyFrom_21 ?_
  refine Go_aload_n 1 rfl rfl dX6_copyFrom_24 ?_
  refine Go_getR (c' := 67) faX6_21 sh_66 (pt_66_3 (M := M) hp) dX6_copyFrom_25 ?_
  refine Go_iconst (by unfold in32; omega) dX6_copyFrom_28 ?_
  refine Go_aload_n 0 rfl rfl dX6_copyFrom_29 ?_
  refine Go_getR (c' := 2) faX6_21 sh_1 (pt_1_3 (M := M) hp) dX6_copyFrom_30 ?_
  refine Go_iconst (by unfold in32; omega) dX6_copyFrom_33 ?_
  refine Go_bipush ⟨by decide, by unfold in32; omega⟩ dX6_copyFrom_34 ?_
  refine Go_copyv (M 67) (M 2) rfl rfl cpX6_54 sh_67 sh_2 rfl ⟨Nat.le_of_ble_eq_true rfl, Nat.le_of_ble_eq_true rfl⟩ dX6_copyFrom_36 ?_
  refine Go_aload_n 1 rfl rfl dX6_copyFrom_39 ?_
  refine Go_getR (c' := 68) faX6_25 sh_66 (pt_66_4 (M := M) hp) dX6_copyFrom_40 ?_
  refine Go_iconst (by unfold in32; omega) dX6_copyFrom_43 ?_
  refine Go_aload_n 0 rfl rfl dX6_copyFrom_44 ?_
  refine Go_getR (c' := 3) faX6_25 sh_1 (pt_1_4 (M := M) hp) dX6_copyFrom_45 ?_
  refine Go_iconst (by unfold in32; omega) dX6_copyFrom_48 ?_
  refine Go_sipush ⟨by decide, by unfold in32; omega⟩ dX6_copyFrom_49 ?_
  refine Go_copyv (M 68) (M 3) rfl rfl cpX6_54 sh_68 sh_3 rfl ⟨Nat.le_of_ble_eq_true rfl, Nat.le_of_ble_eq_true rfl⟩ dX6_copyFrom_52 ?_
  refine Go_aload_n 1 rfl rfl dX6_copyFrom_55 ?_
  refine Go_getR (c' := 69) faX6_28 sh_66 (pt_66_5 (M := M) hp) dX6_copyFrom_56 ?_
  refine Go_iconst (by unfold in32; omega) dX6_copyFrom_59 ?_
  refine Go_aload_n 0 rfl rfl dX6_copyFrom_60 ?_
  refine Go_getR (c' := 4) faX6_28 sh_1 (pt_1_5 (M := M) hp) dX6_copyFrom_61 ?_
  refine Go_iconst (by unfold in32; omega) dX6_copyFrom_64 ?_
  refine Go_bipush ⟨by decide, by unfold in32; omega⟩ dX6_copyFrom_65 ?_
  refine Go_copyv (M 69) (M 4) rfl rfl cpX6_54 sh_69 sh_4 rfl ⟨Nat.le_of_ble_eq_true rfl, Nat.le_of_ble_eq_true rfl⟩ dX6_copyFrom_67 ?_
  refine Go_aload_n 1 rfl rfl dX6_copyFrom_70 ?_
  refine Go_getR (c' := 70) faX6_31 sh_66 (pt_66_6 (M := M) hp) dX6_copyFrom_71 ?_
  refine Go_iconst (by unfold in32; omega) dX6_copyFrom_74 ?_
  refine Go_aload_n 0 rfl rfl dX6_copyFrom_75 ?_
  refine Go_getR (c' := 5) faX6_31 sh_1 (pt_1_6 (M := M) hp) dX6_copyFrom_76 ?_
  refine Go_iconst (by unfold in32; omega) dX6_copyFrom_79 ?_
  refine Go_bipush ⟨by decide, by unfold in32; omega⟩ dX6_copyFrom_80 ?_
  refine Go_copyv (M 70) (M 5) rfl rfl cpX6_54 sh_70 sh_5 rfl ⟨Nat.le_of_ble_eq_true rfl, Nat.le_of_ble_eq_true rfl⟩ dX6_copyFrom_82 ?_
  refine Go_aload_n 1 rfl rfl dX6_copyFrom_85 ?_
  refine Go_getR (c' := 71) faX6_34 sh_66 (pt_66_7 (M := M) hp) dX6_copyFrom_86 ?_
  refine Go_iconst (by unfold in32; omega) dX6_copyFrom_89 ?_
  refine Go_aload_n 0 rfl rfl dX6_copyFrom_90 ?_
  refine Go_getR (c' := 6) faX6_34 sh_1 (pt_1_7 (M := M) hp) dX6_copyFrom_91 ?_
  refine Go_iconst (by unfold in32; omega) dX6_copyFrom_94 ?_
  refine Go_bipush ⟨by decide, by unfold in32; omega⟩ dX6_copyFrom_95 ?_
  refine Go_copyv (M 71) (M 6) rfl rfl cpX6_54 sh_71 sh_6 rfl ⟨Nat.le_of_ble_eq_true rfl, Nat.le_of_ble_eq_true rfl⟩ dX6_copyFrom_97 ?_
  refine Go_aload_n 1 rfl rfl dX6_copyFrom_100 ?_
  refine Go_getR (c' := 72) faX6_37 sh_66 (pt_66_8 (M := M) hp) dX6_copyFrom_101 ?_
  refine Go_iconst (by unfold in32; omega) dX6_copyFrom_104 ?_
  refine Go_aload_n 0 rfl rfl dX6_copyFrom_105 ?_
  refine Go_getR (c' := 7) faX6_37 sh_1 (pt_1_8 (M := M) hp) dX6_copyFrom_106 ?_
  refine Go_iconst (by unfold in32; omega) dX6_copyFrom_109 ?_
  refine Go_bipush ⟨by decide, by unfold in32; omega⟩ dX6_copyFrom_110 ?_
  refine Go_copyv (M 72) (M 7) rfl rfl cpX6_54 sh_72 sh_7 rfl ⟨Nat.le_of_ble_eq_true rfl, Nat.le_of_ble_eq_true rfl⟩ dX6_copyFrom_112 ?_
  exact Go_ret rfl dX6_copyFrom_115
set_option maxHeartbeats 4000000 in
set_option maxRecDepth 100000 in
theorem lk_66 {D : va_G} {ca : Nat → ClassId} {M : gMem} (hp : gPtr M) : Fn D ca mX6_isLike [gR 66, gR 1] SH M [gI (bI (likeB M 66 1 = true))] SH (M) := by
  refine Fn_of okX6_isLike (Nat.le_of_ble_eq_true rfl) (Or.inr (Or.inr (Or.inl ⟨_, rfl, rfl, bI_01 _⟩))) (Nat.le_refl _) (Nat.le_refl _) ?_
  refine Go_ls2 (ls' := [(0, gR 66), (1, gR 1)]) rfl ?_
  refine Go_aload_n 0 rfl rfl dX6_isLike_0 ?_
  refine Go_getI faX6_9 sh_66 dX6_isLike_1 ?_
  refine Go_aload_n 1 rfl rfl dX6_isLike_4 ?_
  refine Go_getI faX6_9 sh_1 dX6_isLike_5 ?_
  refine Go_icmp_ne dX6_isLike_8 rfl (fun h8 => ?_) (fun h8 => ?_)
  · skip
    refine Go_iconst (by unfold in32; omega) dX6_isLike_79 ?_
    exact Go_ret (by rw [bI_f (likeB_f (fun q => by first | exact h8 q.1 | exact h19 q.2.1 | exact h30 q.2.2.1 | exact h44 (eqR_iff.mpr q.2.2.2.1) | exact h58 (eqR_iff.mpr q.2.2.2.2.1) | exact h72 (eqR_iff.mpr q.2.2.2.2.2)))]) dX6_isLike_80
  · skip
    refine Go_aload_n 0 rfl rfl dX6_isLike_11 ?_
    refine Go_getI faX6_15 sh_66 dX6_isLike_12 ?_
    refine Go_aload_n 1 rfl rfl dX6_isLike_15 ?_
    refine Go_getI faX6_15 sh_1 dX6_isLike_16 ?_
    refine Go_icmp_ne dX6_isLike_19 rfl (fun h19 => ?_) (fun h19 => ?_)
    · skip
      refine Go_iconst (by unfold in32; omega) dX6_isLike_79 ?_
      exact Go_ret (by rw [bI_f (likeB_f (fun q => by first | exact h8 q.1 | exact h19 q.2.1 | exact h30 q.2.2.1 | exact h44 (eqR_iff.mpr q.2.2.2.1) | exact h58 (eqR_iff.mpr q.2.2.2.2.1) | exact h72 (eqR_iff.mpr q.2.2.2.2.2)))]) dX6_isLike_80
    · skip
      refine Go_aload_n 0 rfl rfl dX6_isLike_22 ?_
      refine Go_getI faX6_18 sh_66 dX6_isLike_23 ?_
      refine Go_aload_n 1 rfl rfl dX6_isLike_26 ?_
      refine Go_getI faX6_18 sh_1 dX6_isLike_27 ?_
      refine Go_icmp_ne dX6_isLike_30 rfl (fun h30 => ?_) (fun h30 => ?_)
      · skip
        refine Go_iconst (by unfold in32; omega) dX6_isLike_79 ?_
        exact Go_ret (by rw [bI_f (likeB_f (fun q => by first | exact h8 q.1 | exact h19 q.2.1 | exact h30 q.2.2.1 | exact h44 (eqR_iff.mpr q.2.2.2.1) | exact h58 (eqR_iff.mpr q.2.2.2.2.1) | exact h72 (eqR_iff.mpr q.2.2.2.2.2)))]) dX6_isLike_80
      · skip
        refine Go_aload_n 0 rfl rfl dX6_isLike_33 ?_
        refine Go_getR (c' := 67) faX6_21 sh_66 (pt_66_3 (M := M) hp) dX6_isLike_34 ?_
        refine Go_aload_n 1 rfl rfl dX6_isLike_37 ?_
        refine Go_getR (c' := 2) faX6_21 sh_1 (pt_1_3 (M := M) hp) dX6_isLike_38 ?_
        refine Go_callSI (fX6_sameRows 67 2 12 sh_67 sh_2 (by decide)) cwX6_60 smX6_sameRows ⟨Nat.le_of_ble_eq_true rfl, Nat.le_of_ble_eq_true rfl⟩ rfl (Nat.le_of_ble_eq_true rfl) sh_rf dX6_isLike_41 ?_
        refine Go_if_eq dX6_isLike_44 rfl (fun h44 => ?_) (fun h44 => ?_)
        · skip
          replace h44 := bI_0.mp h44
          refine Go_iconst (by unfold in32; omega) dX6_isLike_79 ?_
          exact Go_ret (by rw [bI_f (likeB_f (fun q => by first | exact h8 q.1 | exact h19 q.2.1 | exact h30 q.2.2.1 | exact h44 (eqR_iff.mpr q.2.2.2.1) | exact h58 (eqR_iff.mpr q.2.2.2.2.1) | exact h72 (eqR_iff.mpr q.2.2.2.2.2)))]) dX6_isLike_80
        · skip
          replace h44 := bI_n.mp h44
          refine Go_aload_n 0 rfl rfl dX6_isLike_47 ?_
          refine Go_getR (c' := 68) faX6_25 sh_66 (pt_66_4 (M := M) hp) dX6_isLike_48 ?_
          refine Go_aload_n 1 rfl rfl dX6_isLike_51 ?_
          refine Go_getR (c' := 3) faX6_25 sh_1 (pt_1_4 (M := M) hp) dX6_isLike_52 ?_
          refine Go_callSI (fX6_sameRows 68 3 144 sh_68 sh_3 (by decide)) cwX6_60 smX6_sameRows ⟨Nat.le_of_ble_eq_true rfl, Nat.le_of_ble_eq_true rfl⟩ rfl (Nat.le_of_ble_eq_true rfl) sh_rf dX6_isLike_55 ?_
          refine Go_if_eq dX6_isLike_58 rfl (fun h58 => ?_) (fun h58 => ?_)
          · skip
            replace h58 := bI_0.mp h58
            refine Go_iconst (by unfold in32; omega) dX6_isLike_79 ?_
            exact Go_ret (by rw [bI_f (likeB_f (fun q => by first | exact h8 q.1 | exact h19 q.2.1 | exact h30 q.2.2.1 | exact h44 (eqR_iff.mpr q.2.2.2.1) | exact h58 (eqR_iff.mpr q.2.2.2.2.1) | exact h72 (eqR_iff.mpr q.2.2.2.2.2)))]) dX6_isLike_80
          · skip
            replace h58 := bI_n.mp h58
            refine Go_aload_n 0 rfl rfl dX6_isLike_61 ?_
            refine Go_getR (c' := 72) faX6_37 sh_66 (pt_66_8 (M := M) hp) dX6_isLike_62 ?_
            refine Go_aload_n 1 rfl rfl dX6_isLike_65 ?_
            refine Go_getR (c' := 7) faX6_37 sh_1 (pt_1_8 (M := M) hp) dX6_isLike_66 ?_
            refine Go_callSI (fX6_sameRows 72 7 10 sh_72 sh_7 (by decide)) cwX6_60 smX6_sameRows ⟨Nat.le_of_ble_eq_true rfl, Nat.le_of_ble_eq_true rfl⟩ rfl (Nat.le_of_ble_eq_true rfl) sh_rf dX6_isLike_69 ?_
            refine Go_if_eq dX6_isLike_72 rfl (fun h72 => ?_) (fun h72 => ?_)
            · skip
              replace h72 := bI_0.mp h72
              refine Go_iconst (by unfold in32; omega) dX6_isLike_79 ?_
              exact Go_ret (by rw [bI_f (likeB_f (fun q => by first | exact h8 q.1 | exact h19 q.2.1 | exact h30 q.2.2.1 | exact h44 (eqR_iff.mpr q.2.2.2.1) | exact h58 (eqR_iff.mpr q.2.2.2.2.1) | exact h72 (eqR_iff.mpr q.2.2.2.2.2)))]) dX6_isLike_80
            · skip
              replace h72 := bI_n.mp h72
              refine Go_iconst (by unfold in32; omega) dX6_isLike_75 ?_
              refine Go_goto dX6_isLike_76 rfl ?_
              exact Go_ret (by rw [bI_t (likeB_t ⟨h8, h19, h30, eqR_iff.mp h44, eqR_iff.mp h58, eqR_iff.mp h72⟩)]) dX6_isLike_80
set_option maxHeartbeats 4000000 in
set_option maxRecDepth 100000 in
theorem cp_73_1 {D : va_G} {ca : Nat → ClassId} {M : gMem} (hp : gPtr M) : Fn D ca mX6_copyFrom [gR 73, gR 1] SH M [] SH (cpV M 73 1) := by
  refine Fn_of okX6_copyFrom (Nat.le_of_ble_eq_true rfl) (Or.inl ⟨rfl, rfl⟩) (Nat.le_refl _) (Nat.le_refl _) ?_
  refine Go_ls2 (ls' := [(0, gR 73), (1, gR 1)]) rfl ?_
  refine Go_o 73 ?_
  refine Go_aload_n 0 rfl rfl dX6_copyFrom_0 ?_
  refine Go_aload_n 1 rfl rfl dX6_copyFrom_1 ?_
  refine Go_getIv (v := M 1 0) rfl faX6_9 sh_1 dX6_copyFrom_2 ?_
  refine Go_putIS fpX6_9 sh_73 dX6_copyFrom_5 ?_
  refine Go_aload_n 0 rfl rfl dX6_copyFrom_8 ?_
  refine Go_aload_n 1 rfl rfl dX6_copyFrom_9 ?_
  refine Go_getIv (v := M 1 1) rfl faX6_15 sh_1 dX6_copyFrom_10 ?_
  refine Go_putIS fpX6_15 sh_73 dX6_copyFrom_13 ?_
  refine Go_aload_n 0 rfl rfl dX6_copyFrom_16 ?_
  refine Go_aload_n 1 rfl rfl dX6_copyFrom_17 ?_
  refine Go_getIv (v := M 1 2) rfl faX6_18 sh_1 dX6_copyFrom_18 ?_
  refine Go_putIS fpX6_18 sh_73 dX6_copyFrom_21 ?_
  refine Go_aload_n 1 rfl rfl dX6_copyFrom_24 ?_
  refine Go_getR (c' := 2) faX6_21 sh_1 (pt_1_3 (M := M) hp) dX6_copyFrom_25 ?_
  refine Go_iconst (by unfold in32; omega) dX6_copyFrom_28 ?_
  refine Go_aload_n 0 rfl rfl dX6_copyFrom_29 ?_
  refine Go_getR (c' := 74) faX6_21 sh_73 (pt_73_3 (M := M) hp) dX6_copyFrom_30 ?_
  refine Go_iconst (by unfold in32; omega) dX6_copyFrom_33 ?_
  refine Go_bipush ⟨by decide, by unfold in32; omega⟩ dX6_copyFrom_34 ?_
  refine Go_copyv (M 2) (M 74) rfl rfl cpX6_54 sh_2 sh_74 rfl ⟨Nat.le_of_ble_eq_true rfl, Nat.le_of_ble_eq_true rfl⟩ dX6_copyFrom_36 ?_
  refine Go_aload_n 1 rfl rfl dX6_copyFrom_39 ?_
  refine Go_getR (c' := 3) faX6_25 sh_1 (pt_1_4 (M := M) hp) dX6_copyFrom_40 ?_
  refine Go_iconst (by unfold in32; omega) dX6_copyFrom_43 ?_
  refine Go_aload_n 0 rfl rfl dX6_copyFrom_44 ?_
  refine Go_getR (c' := 75) faX6_25 sh_73 (pt_73_4 (M := M) hp) dX6_copyFrom_45 ?_
  refine Go_iconst (by unfold in32; omega) dX6_copyFrom_48 ?_
  refine Go_sipush ⟨by decide, by unfold in32; omega⟩ dX6_copyFrom_49 ?_
  refine Go_copyv (M 3) (M 75) rfl rfl cpX6_54 sh_3 sh_75 rfl ⟨Nat.le_of_ble_eq_true rfl, Nat.le_of_ble_eq_true rfl⟩ dX6_copyFrom_52 ?_
  refine Go_aload_n 1 rfl rfl dX6_copyFrom_55 ?_
  refine Go_getR (c' := 4) faX6_28 sh_1 (pt_1_5 (M := M) hp) dX6_copyFrom_56 ?_
  refine Go_iconst (by unfold in32; omega) dX6_copyFrom_59 ?_
  refine Go_aload_n 0 rfl rfl dX6_copyFrom_60 ?_
  refine Go_getR (c' := 76) faX6_28 sh_73 (pt_73_5 (M := M) hp) dX6_copyFrom_61 ?_
  refine Go_iconst (by unfold in32; omega) dX6_copyFrom_64 ?_
  refine Go_bipush ⟨by decide, by unfold in32; omega⟩ dX6_copyFrom_65 ?_
  refine Go_copyv (M 4) (M 76) rfl rfl cpX6_54 sh_4 sh_76 rfl ⟨Nat.le_of_ble_eq_true rfl, Nat.le_of_ble_eq_true rfl⟩ dX6_copyFrom_67 ?_
  refine Go_aload_n 1 rfl rfl dX6_copyFrom_70 ?_
  refine Go_getR (c' := 5) faX6_31 sh_1 (pt_1_6 (M := M) hp) dX6_copyFrom_71 ?_
  refine Go_iconst (by unfold in32; omega) dX6_copyFrom_74 ?_
  refine Go_aload_n 0 rfl rfl dX6_copyFrom_75 ?_
  refine Go_getR (c' := 77) faX6_31 sh_73 (pt_73_6 (M := M) hp) dX6_copyFrom_76 ?_
  refine Go_iconst (by unfold in32; omega) dX6_copyFrom_79 ?_
  refine Go_bipush ⟨by decide, by unfold in32; omega⟩ dX6_copyFrom_80 ?_
  refine Go_copyv (M 5) (M 77) rfl rfl cpX6_54 sh_5 sh_77 rfl ⟨Nat.le_of_ble_eq_true rfl, Nat.le_of_ble_eq_true rfl⟩ dX6_copyFrom_82 ?_
  refine Go_aload_n 1 rfl rfl dX6_copyFrom_85 ?_
  refine Go_getR (c' := 6) faX6_34 sh_1 (pt_1_7 (M := M) hp) dX6_copyFrom_86 ?_
  refine Go_iconst (by unfold in32; omega) dX6_copyFrom_89 ?_
  refine Go_aload_n 0 rfl rfl dX6_copyFrom_90 ?_
  refine Go_getR (c' := 78) faX6_34 sh_73 (pt_73_7 (M := M) hp) dX6_copyFrom_91 ?_
  refine Go_iconst (by unfold in32; omega) dX6_copyFrom_94 ?_
  refine Go_bipush ⟨by decide, by unfold in32; omega⟩ dX6_copyFrom_95 ?_
  refine Go_copyv (M 6) (M 78) rfl rfl cpX6_54 sh_6 sh_78 rfl ⟨Nat.le_of_ble_eq_true rfl, Nat.le_of_ble_eq_true rfl⟩ dX6_copyFrom_97 ?_
  refine Go_aload_n 1 rfl rfl dX6_copyFrom_100 ?_
  refine Go_getR (c' := 7) faX6_37 sh_1 (pt_1_8 (M := M) hp) dX6_copyFrom_101 ?_
  refine Go_iconst (by unfold in32; omega) dX6_copyFrom_104 ?_
  refine Go_aload_n 0 rfl rfl dX6_copyFrom_105 ?_
  refine Go_getR (c' := 79) faX6_37 sh_73 (pt_73_8 (M := M) hp) dX6_copyFrom_106 ?_
  refine Go_iconst (by unfold in32; omega) dX6_copyFrom_109 ?_
  refine Go_bipush ⟨by decide, by unfold in32; omega⟩ dX6_copyFrom_110 ?_
  refine Go_copyv (M 7) (M 79) rfl rfl cpX6_54 sh_7 sh_79 rfl ⟨Nat.le_of_ble_eq_true rfl, Nat.le_of_ble_eq_true rfl⟩ dX6_copyFrom_112 ?_
  exact Go_ret rfl dX6_copyFrom_115
set_option maxHeartbeats 4000000 in
set_option maxRecDepth 100000 in
theorem cp_1_73 {D : va_G} {ca : Nat → ClassId} {M : gMem} (hp : gPtr M) : Fn D ca mX6_copyFrom [gR 1, gR 73] SH M [] SH (cpV M 1 73) := by
  refine Fn_of okX6_copyFrom (Nat.le_of_ble_eq_true rfl) (Or.inl ⟨rfl, rfl⟩) (Nat.le_refl _) (Nat.le_refl _) ?_
  refine Go_ls2 (ls' := [(0, gR 1), (1, gR 73)]) rfl ?_
  refine Go_o 1 ?_
  refine Go_aload_n 0 rfl rfl dX6_copyFrom_0 ?_
  refine Go_aload_n 1 rfl rfl dX6_copyFrom_1 ?_
  refine Go_getIv (v := M 73 0) rfl faX6_9 sh_73 dX6_copyFrom_2 ?_
  refine Go_putIS fpX6_9 sh_1 dX6_copyFrom_5 ?_
  refine Go_aload_n 0 rfl rfl dX6_copyFrom_8 ?_
  refine Go_aload_n 1 rfl rfl dX6_copyFrom_9 ?_
  refine Go_getIv (v := M 73 1) rfl faX6_15 sh_73 dX6_copyFrom_10 ?_
  refine Go_putIS fpX6_15 sh_1 dX6_copyFrom_13 ?_
  refine Go_aload_n 0 rfl rfl dX6_copyFrom_16 ?_
  refine Go_aload_n 1 rfl rfl dX6_copyFrom_17 ?_
  refine Go_getIv (v := M 73 2) rfl faX6_18 sh_73 dX6_copyFrom_18 ?_
  refine Go_putIS fpX6_18 sh_1 dX6_copyFrom_21 ?_
  refine Go_aload_n 1 rfl rfl dX6_copyFrom_24 ?_
  refine Go_getR (c' := 74) faX6_21 sh_73 (pt_73_3 (M := M) hp) dX6_copyFrom_25 ?_
  refine Go_iconst (by unfold in32; omega) dX6_copyFrom_28 ?_
  refine Go_aload_n 0 rfl rfl dX6_copyFrom_29 ?_
  refine Go_getR (c' := 2) faX6_21 sh_1 (pt_1_3 (M := M) hp) dX6_copyFrom_30 ?_
  refine Go_iconst (by unfold in32; omega) dX6_copyFrom_33 ?_
  refine Go_bipush ⟨by decide, by unfold in32; omega⟩ dX6_copyFrom_34 ?_
  refine Go_copyv (M 74) (M 2) rfl rfl cpX6_54 sh_74 sh_2 rfl ⟨Nat.le_of_ble_eq_true rfl, Nat.le_of_ble_eq_true rfl⟩ dX6_copyFrom_36 ?_
  refine Go_aload_n 1 rfl rfl dX6_copyFrom_39 ?_
  refine Go_getR (c' := 75) faX6_25 sh_73 (pt_73_4 (M := M) hp) dX6_copyFrom_40 ?_
  refine Go_iconst (by unfold in32; omega) dX6_copyFrom_43 ?_
  refine Go_aload_n 0 rfl rfl dX6_copyFrom_44 ?_
  refine Go_getR (c' := 3) faX6_25 sh_1 (pt_1_4 (M := M) hp) dX6_copyFrom_45 ?_
  refine Go_iconst (by unfold in32; omega) dX6_copyFrom_48 ?_
  refine Go_sipush ⟨by decide, by unfold in32; omega⟩ dX6_copyFrom_49 ?_
  refine Go_copyv (M 75) (M 3) rfl rfl cpX6_54 sh_75 sh_3 rfl ⟨Nat.le_of_ble_eq_true rfl, Nat.le_of_ble_eq_true rfl⟩ dX6_copyFrom_52 ?_
  refine Go_aload_n 1 rfl rfl dX6_copyFrom_55 ?_
  refine Go_getR (c' := 76) faX6_28 sh_73 (pt_73_5 (M := M) hp) dX6_copyFrom_56 ?_
  refine Go_iconst (by unfold in32; omega) dX6_copyFrom_59 ?_
  refine Go_aload_n 0 rfl rfl dX6_copyFrom_60 ?_
  refine Go_getR (c' := 4) faX6_28 sh_1 (pt_1_5 (M := M) hp) dX6_copyFrom_61 ?_
  refine Go_iconst (by unfold in32; omega) dX6_copyFrom_64 ?_
  refine Go_bipush ⟨by decide, by unfold in32; omega⟩ dX6_copyFrom_65 ?_
  refine Go_copyv (M 76) (M 4) rfl rfl cpX6_54 sh_76 sh_4 rfl ⟨Nat.le_of_ble_eq_true rfl, Nat.le_of_ble_eq_true rfl⟩ dX6_copyFrom_67 ?_
  refine Go_aload_n 1 rfl rfl dX6_copyFrom_70 ?_
  refine Go_getR (c' := 77) faX6_31 sh_73 (pt_73_6 (M := M) hp) dX6_copyFrom_71 ?_
  refine Go_iconst (by unfold in32; omega) dX6_copyFrom_74 ?_
  refine Go_aload_n 0 rfl rfl dX6_copyFrom_75 ?_
  refine Go_getR (c' := 5) faX6_31 sh_1 (pt_1_6 (M := M) hp) dX6_copyFrom_76 ?_
  refine Go_iconst (by unfold in32; omega) dX6_copyFrom_79 ?_
  refine Go_bipush ⟨by decide, by unfold in32; omega⟩ dX6_copyFrom_80 ?_
  refine Go_copyv (M 77) (M 5) rfl rfl cpX6_54 sh_77 sh_5 rfl ⟨Nat.le_of_ble_eq_true rfl, Nat.le_of_ble_eq_true rfl⟩ dX6_copyFrom_82 ?_
  refine Go_aload_n 1 rfl rfl dX6_copyFrom_85 ?_
  refine Go_getR (c' := 78) faX6_34 sh_73 (pt_73_7 (M := M) hp) dX6_copyFrom_86 ?_
  refine Go_iconst (by unfold in32; omega) dX6_copyFrom_89 ?_
  refine Go_aload_n 0 rfl rfl dX6_copyFrom_90 ?_
  refine Go_getR (c' := 6) faX6_34 sh_1 (pt_1_7 (M := M) hp) dX6_copyFrom_91 ?_
  refine Go_iconst (by unfold in32; omega) dX6_copyFrom_94 ?_
  refine Go_bipush ⟨by decide, by unfold in32; omega⟩ dX6_copyFrom_95 ?_
  refine Go_copyv (M 78) (M 6) rfl rfl cpX6_54 sh_78 sh_6 rfl ⟨Nat.le_of_ble_eq_true rfl, Nat.le_of_ble_eq_true rfl⟩ dX6_copyFrom_97 ?_
  refine Go_aload_n 1 rfl rfl dX6_copyFrom_100 ?_
  refine Go_getR (c' := 79) faX6_37 sh_73 (pt_73_8 (M := M) hp) dX6_copyFrom_101 ?_
  refine Go_iconst (by unfold in32; omega) dX6_copyFrom_104 ?_
  refine Go_aload_n 0 rfl rfl dX6_copyFrom_105 ?_
  refine Go_getR (c' := 7) faX6_37 sh_1 (pt_1_8 (M := M) hp) dX6_copyFrom_106 ?_
  refine Go_iconst (by unfold in32; omega) dX6_copyFrom_109 ?_
  refine Go_bipush ⟨by decide, by unfold in32; omega⟩ dX6_copyFrom_110 ?_
  refine Go_copyv (M 79) (M 7) rfl rfl cpX6_54 sh_79 sh_7 rfl ⟨Nat.le_of_ble_eq_true rfl, Nat.le_of_ble_eq_true rfl⟩ dX6_copyFrom_112 ?_
  exact Go_ret rfl dX6_copyFrom_115
set_option maxHeartbeats 4000000 in
set_option maxRecDepth 100000 in
theorem lk_73 {D : va_G} {ca : Nat → ClassId} {M : gMem} (hp : gPtr M) : Fn D ca mX6_isLike [gR 73, gR 1] SH M [gI (bI (likeB M 73 1 = true))] SH (M) := by
  refine Fn_of okX6_isLike (Nat.le_of_ble_eq_true rfl) (Or.inr (Or.inr (Or.inl ⟨_, rfl, rfl, bI_01 _⟩))) (Nat.le_refl _) (Nat.le_refl _) ?_
  refine Go_ls2 (ls' := [(0, gR 73), (1, gR 1)]) rfl ?_
  refine Go_aload_n 0 rfl rfl dX6_isLike_0 ?_
  refine Go_getI faX6_9 sh_73 dX6_isLike_1 ?_
  refine Go_aload_n 1 rfl rfl dX6_isLike_4 ?_
  refine Go_getI faX6_9 sh_1 dX6_isLike_5 ?_
  refine Go_icmp_ne dX6_isLike_8 rfl (fun h8 => ?_) (fun h8 => ?_)
  · skip
    refine Go_iconst (by unfold in32; omega) dX6_isLike_79 ?_
    exact Go_ret (by rw [bI_f (likeB_f (fun q => by first | exact h8 q.1 | exact h19 q.2.1 | exact h30 q.2.2.1 | exact h44 (eqR_iff.mpr q.2.2.2.1) | exact h58 (eqR_iff.mpr q.2.2.2.2.1) | exact h72 (eqR_iff.mpr q.2.2.2.2.2)))]) dX6_isLike_80
  · skip
    refine Go_aload_n 0 rfl rfl dX6_isLike_11 ?_
    refine Go_getI faX6_15 sh_73 dX6_isLike_12 ?_
    refine Go_aload_n 1 rfl rfl dX6_isLike_15 ?_
    refine Go_getI faX6_15 sh_1 dX6_isLike_16 ?_
    refine Go_icmp_ne dX6_isLike_19 rfl (fun h19 => ?_) (fun h19 => ?_)
    · skip
      refine Go_iconst (by unfold in32; omega) dX6_isLike_79 ?_
      exact Go_ret (by rw [bI_f (likeB_f (fun q => by first | exact h8 q.1 | exact h19 q.2.1 | exact h30 q.2.2.1 | exact h44 (eqR_iff.mpr q.2.2.2.1) | exact h58 (eqR_iff.mpr q.2.2.2.2.1) | exact h72 (eqR_iff.mpr q.2.2.2.2.2)))]) dX6_isLike_80
    · skip
      refine Go_aload_n 0 rfl rfl dX6_isLike_22 ?_
      refine Go_getI faX6_18 sh_73 dX6_isLike_23 ?_
      refine Go_aload_n 1 rfl rfl dX6_isLike_26 ?_
      refine Go_getI faX6_18 sh_1 dX6_isLike_27 ?_
      refine Go_icmp_ne dX6_isLike_30 rfl (fun h30 => ?_) (fun h30 => ?_)
      · skip
        refine Go_iconst (by unfold in32; omega) dX6_isLike_79 ?_
        exact Go_ret (by rw [bI_f (likeB_f (fun q => by first | exact h8 q.1 | exact h19 q.2.1 | exact h30 q.2.2.1 | exact h44 (eqR_iff.mpr q.2.2.2.1) | exact h58 (eqR_iff.mpr q.2.2.2.2.1) | exact h72 (eqR_iff.mpr q.2.2.2.2.2)))]) dX6_isLike_80
      · skip
        refine Go_aload_n 0 rfl rfl dX6_isLike_33 ?_
        refine Go_getR (c' := 74) faX6_21 sh_73 (pt_73_3 (M := M) hp) dX6_isLike_34 ?_
        refine Go_aload_n 1 rfl rfl dX6_isLike_37 ?_
        refine Go_getR (c' := 2) faX6_21 sh_1 (pt_1_3 (M := M) hp) dX6_isLike_38 ?_
        refine Go_callSI (fX6_sameRows 74 2 12 sh_74 sh_2 (by decide)) cwX6_60 smX6_sameRows ⟨Nat.le_of_ble_eq_true rfl, Nat.le_of_ble_eq_true rfl⟩ rfl (Nat.le_of_ble_eq_true rfl) sh_rf dX6_isLike_41 ?_
        refine Go_if_eq dX6_isLike_44 rfl (fun h44 => ?_) (fun h44 => ?_)
        · skip
          replace h44 := bI_0.mp h44
          refine Go_iconst (by unfold in32; omega) dX6_isLike_79 ?_
          exact Go_ret (by rw [bI_f (likeB_f (fun q => by first | exact h8 q.1 | exact h19 q.2.1 | exact h30 q.2.2.1 | exact h44 (eqR_iff.mpr q.2.2.2.1) | exact h58 (eqR_iff.mpr q.2.2.2.2.1) | exact h72 (eqR_iff.mpr q.2.2.2.2.2)))]) dX6_isLike_80
        · skip
          replace h44 := bI_n.mp h44
          refine Go_aload_n 0 rfl rfl dX6_isLike_47 ?_
          refine Go_getR (c' := 75) faX6_25 sh_73 (pt_73_4 (M := M) hp) dX6_isLike_48 ?_
          refine Go_aload_n 1 rfl rfl dX6_isLike_51 ?_
          refine Go_getR (c' := 3) faX6_25 sh_1 (pt_1_4 (M := M) hp) dX6_isLike_52 ?_
          refine Go_callSI (fX6_sameRows 75 3 144 sh_75 sh_3 (by decide)) cwX6_60 smX6_sameRows ⟨Nat.le_of_ble_eq_true rfl, Nat.le_of_ble_eq_true rfl⟩ rfl (Nat.le_of_ble_eq_true rfl) sh_rf dX6_isLike_55 ?_
          refine Go_if_eq dX6_isLike_58 rfl (fun h58 => ?_) (fun h58 => ?_)
          · skip
            replace h58 := bI_0.mp h58
            refine Go_iconst (by unfold in32; omega) dX6_isLike_79 ?_
            exact Go_ret (by rw [bI_f (likeB_f (fun q => by first | exact h8 q.1 | exact h19 q.2.1 | exact h30 q.2.2.1 | exact h44 (eqR_iff.mpr q.2.2.2.1) | exact h58 (eqR_iff.mpr q.2.2.2.2.1) | exact h72 (eqR_iff.mpr q.2.2.2.2.2)))]) dX6_isLike_80
          · skip
            replace h58 := bI_n.mp h58
            refine Go_aload_n 0 rfl rfl dX6_isLike_61 ?_
            refine Go_getR (c' := 79) faX6_37 sh_73 (pt_73_8 (M := M) hp) dX6_isLike_62 ?_
            refine Go_aload_n 1 rfl rfl dX6_isLike_65 ?_
            refine Go_getR (c' := 7) faX6_37 sh_1 (pt_1_8 (M := M) hp) dX6_isLike_66 ?_
            refine Go_callSI (fX6_sameRows 79 7 10 sh_79 sh_7 (by decide)) cwX6_60 smX6_sameRows ⟨Nat.le_of_ble_eq_true rfl, Nat.le_of_ble_eq_true rfl⟩ rfl (Nat.le_of_ble_eq_true rfl) sh_rf dX6_isLike_69 ?_
            refine Go_if_eq dX6_isLike_72 rfl (fun h72 => ?_) (fun h72 => ?_)
            · skip
              replace h72 := bI_0.mp h72
              refine Go_iconst (by unfold in32; omega) dX6_isLike_79 ?_
              exact Go_ret (by rw [bI_f (likeB_f (fun q => by first | exact h8 q.1 | exact h19 q.2.1 | exact h30 q.2.2.1 | exact h44 (eqR_iff.mpr q.2.2.2.1) | exact h58 (eqR_iff.mpr q.2.2.2.2.1) | exact h72 (eqR_iff.mpr q.2.2.2.2.2)))]) dX6_isLike_80
            · skip
              replace h72 := bI_n.mp h72
              refine Go_iconst (by unfold in32; omega) dX6_isLike_75 ?_
              refine Go_goto dX6_isLike_76 rfl ?_
              exact Go_ret (by rw [bI_t (likeB_t ⟨h8, h19, h30, eqR_iff.mp h44, eqR_iff.mp h58, eqR_iff.mp h72⟩)]) dX6_isLike_80
set_option maxHeartbeats 4000000 in
set_option maxRecDepth 100000 in
theorem cp_80_1 {D : va_G} {ca : Nat → ClassId} {M : gMem} (hp : gPtr M) : Fn D ca mX6_copyFrom [gR 80, gR 1] SH M [] SH (cpV M 80 1) := by
  refine Fn_of okX6_copyFrom (Nat.le_of_ble_eq_true rfl) (Or.inl ⟨rfl, rfl⟩) (Nat.le_refl _) (Nat.le_refl _) ?_
  refine Go_ls2 (ls' := [(0, gR 80), (1, gR 1)]) rfl ?_
  refine Go_o 80 ?_
  refine Go_aload_n 0 rfl rfl dX6_copyFrom_0 ?_
  refine Go_aload_n 1 rfl rfl dX6_copyFrom_1 ?_
  refine Go_getIv (v := M 1 0) rfl faX6_9 sh_1 dX6_copyFrom_2 ?_
  refine Go_putIS fpX6_9 sh_80 dX6_copyFrom_5 ?_
  refine Go_aload_n 0 rfl rfl dX6_copyFrom_8 ?_
  refine Go_aload_n 1 rfl rfl dX6_copyFrom_9 ?_
  refine Go_getIv (v := M 1 1) rfl faX6_15 sh_1 dX6_copyFrom_10 ?_
  refine Go_putIS fpX6_15 sh_80 dX6_copyFrom_13 ?_
  refine Go_aload_n 0 rfl rfl dX6_copyFrom_16 ?_
  refine Go_aload_n 1 rfl rfl dX6_copyFrom_17 ?_
  refine Go_getIv (v := M 1 2) rfl faX6_18 sh_1 dX6_copyFrom_18 ?_
  refine Go_putIS fpX6_18 sh_80 dX6_copyFrom_21 ?_
  refine Go_aload_n 1 rfl rfl dX6_copyFrom_24 ?_
  refine Go_getR (c' := 2) faX6_21 sh_1 (pt_1_3 (M := M) hp) dX6_copyFrom_25 ?_
  refine Go_iconst (by unfold in32; omega) dX6_copyFrom_28 ?_
  refine Go_aload_n 0 rfl rfl dX6_copyFrom_29 ?_
  refine Go_getR (c' := 81) faX6_21 sh_80 (pt_80_3 (M := M) hp) dX6_copyFrom_30 ?_
  refine Go_iconst (by unfold in32; omega) dX6_copyFrom_33 ?_
  refine Go_bipush ⟨by decide, by unfold in32; omega⟩ dX6_copyFrom_34 ?_
  refine Go_copyv (M 2) (M 81) rfl rfl cpX6_54 sh_2 sh_81 rfl ⟨Nat.le_of_ble_eq_true rfl, Nat.le_of_ble_eq_true rfl⟩ dX6_copyFrom_36 ?_
  refine Go_aload_n 1 rfl rfl dX6_copyFrom_39 ?_
  refine Go_getR (c' := 3) faX6_25 sh_1 (pt_1_4 (M := M) hp) dX6_copyFrom_40 ?_
  refine Go_iconst (by unfold in32; omega) dX6_copyFrom_43 ?_
  refine Go_aload_n 0 rfl rfl dX6_copyFrom_44 ?_
  refine Go_getR (c' := 82) faX6_25 sh_80 (pt_80_4 (M := M) hp) dX6_copyFrom_45 ?_
  refine Go_iconst (by unfold in32; omega) dX6_copyFrom_48 ?_
  refine Go_sipush ⟨by decide, by unfold in32; omega⟩ dX6_copyFrom_49 ?_
  refine Go_copyv (M 3) (M 82) rfl rfl cpX6_54 sh_3 sh_82 rfl ⟨Nat.le_of_ble_eq_true rfl, Nat.le_of_ble_eq_true rfl⟩ dX6_copyFrom_52 ?_
  refine Go_aload_n 1 rfl rfl dX6_copyFrom_55 ?_
  refine Go_getR (c' := 4) faX6_28 sh_1 (pt_1_5 (M := M) hp) dX6_copyFrom_56 ?_
  refine Go_iconst (by unfold in32; omega) dX6_copyFrom_59 ?_
  refine Go_aload_n 0 rfl rfl dX6_copyFrom_60 ?_
  refine Go_getR (c' := 83) faX6_28 sh_80 (pt_80_5 (M := M) hp) dX6_copyFrom_61 ?_
  refine Go_iconst (by unfold in32; omega) dX6_copyFrom_64 ?_
  refine Go_bipush ⟨by decide, by unfold in32; omega⟩ dX6_copyFrom_65 ?_
  refine Go_copyv (M 4) (M 83) rfl rfl cpX6_54 sh_4 sh_83 rfl ⟨Nat.le_of_ble_eq_true rfl, Nat.le_of_ble_eq_true rfl⟩ dX6_copyFrom_67 ?_
  refine Go_aload_n 1 rfl rfl dX6_copyFrom_70 ?_
  refine Go_getR (c' := 5) faX6_31 sh_1 (pt_1_6 (M := M) hp) dX6_copyFrom_71 ?_
  refine Go_iconst (by unfold in32; omega) dX6_copyFrom_74 ?_
  refine Go_aload_n 0 rfl rfl dX6_copyFrom_75 ?_
  refine Go_getR (c' := 84) faX6_31 sh_80 (pt_80_6 (M := M) hp) dX6_copyFrom_76 ?_
  refine Go_iconst (by unfold in32; omega) dX6_copyFrom_79 ?_
  refine Go_bipush ⟨by decide, by unfold in32; omega⟩ dX6_copyFrom_80 ?_
  refine Go_copyv (M 5) (M 84) rfl rfl cpX6_54 sh_5 sh_84 rfl ⟨Nat.le_of_ble_eq_true rfl, Nat.le_of_ble_eq_true rfl⟩ dX6_copyFrom_82 ?_
  refine Go_aload_n 1 rfl rfl dX6_copyFrom_85 ?_
  refine Go_getR (c' := 6) faX6_34 sh_1 (pt_1_7 (M := M) hp) dX6_copyFrom_86 ?_
  refine Go_iconst (by unfold in32; omega) dX6_copyFrom_89 ?_
  refine Go_aload_n 0 rfl rfl dX6_copyFrom_90 ?_
  refine Go_getR (c' := 85) faX6_34 sh_80 (pt_80_7 (M := M) hp) dX6_copyFrom_91 ?_
  refine Go_iconst (by unfold in32; omega) dX6_copyFrom_94 ?_
  refine Go_bipush ⟨by decide, by unfold in32; omega⟩ dX6_copyFrom_95 ?_
  refine Go_copyv (M 6) (M 85) rfl rfl cpX6_54 sh_6 sh_85 rfl ⟨Nat.le_of_ble_eq_true rfl, Nat.le_of_ble_eq_true rfl⟩ dX6_copyFrom_97 ?_
  refine Go_aload_n 1 rfl rfl dX6_copyFrom_100 ?_
  refine Go_getR (c' := 7) faX6_37 sh_1 (pt_1_8 (M := M) hp) dX6_copyFrom_101 ?_
  refine Go_iconst (by unfold in32; omega) dX6_copyFrom_104 ?_
  refine Go_aload_n 0 rfl rfl dX6_copyFrom_105 ?_
  refine Go_getR (c' := 86) faX6_37 sh_80 (pt_80_8 (M := M) hp) dX6_copyFrom_106 ?_
  refine Go_iconst (by unfold in32; omega) dX6_copyFrom_109 ?_
  refine Go_bipush ⟨by decide, by unfold in32; omega⟩ dX6_copyFrom_110 ?_
  refine Go_copyv (M 7) (M 86) rfl rfl cpX6_54 sh_7 sh_86 rfl ⟨Nat.le_of_ble_eq_true rfl, Nat.le_of_ble_eq_true rfl⟩ dX6_copyFrom_112 ?_
  exact Go_ret rfl dX6_copyFrom_115
set_option maxHeartbeats 4000000 in
set_option maxRecDepth 100000 in
theorem cp_1_80 {D : va_G} {ca : Nat → ClassId} {M : gMem} (hp : gPtr M) : Fn D ca mX6_copyFrom [gR 1, gR 80] SH M [] SH (cpV M 1 80) := by
  refine Fn_of okX6_copyFrom (Nat.le_of_ble_eq_true rfl) (Or.inl ⟨rfl, rfl⟩) (Nat.le_refl _) (Nat.le_refl _) ?_
  refine Go_ls2 (ls' := [(0, gR 1), (1, gR 80)]) rfl ?_
  refine Go_o 1 ?_
  refine Go_aload_n 0 rfl rfl dX6_copyFrom_0 ?_
  refine Go_aload_n 1 rfl rfl dX6_copyFrom_1 ?_
  refine Go_getIv (v := M 80 0) rfl faX6_9 sh_80 dX6_copyFrom_2 ?_
  refine Go_putIS fpX6_9 sh_1 dX6_copyFrom_5 ?_
  refine Go_aload_n 0 rfl rfl dX6_copyFrom_8 ?_
  refine Go_aload_n 1 rfl rfl dX6_copyFrom_9 ?_
  refine Go_getIv (v := M 80 1) rfl faX6_15 sh_80 dX6_copyFrom_10 ?_
  refine Go_putIS fpX6_15 sh_1 dX6_copyFrom_13 ?_
  refine Go_aload_n 0 rfl rfl dX6_copyFrom_16 ?_
  refine Go_aload_n 1 rfl rfl dX6_copyFrom_17 ?_
  refine Go_getIv (v := M 80 2) rfl faX6_18 sh_80 dX6_copyFrom_18 ?_
  refine Go_putIS fpX6_18 sh_1 dX6_copyFrom_21 ?_
  refine Go_aload_n 1 rfl rfl dX6_copyFrom_24 ?_
  refine Go_getR (c' := 81) faX6_21 sh_80 (pt_80_3 (M := M) hp) dX6_copyFrom_25 ?_
  refine Go_iconst (by unfold in32; omega) dX6_copyFrom_28 ?_
  refine Go_aload_n 0 rfl rfl dX6_copyFrom_29 ?_
  refine Go_getR (c' := 2) faX6_21 sh_1 (pt_1_3 (M := M) hp) dX6_copyFrom_30 ?_
  refine Go_iconst (by unfold in32; omega) dX6_copyFrom_33 ?_
  refine Go_bipush ⟨by decide, by unfold in32; omega⟩ dX6_copyFrom_34 ?_
  refine Go_copyv (M 81) (M 2) rfl rfl cpX6_54 sh_81 sh_2 rfl ⟨Nat.le_of_ble_eq_true rfl, Nat.le_of_ble_eq_true rfl⟩ dX6_copyFrom_36 ?_
  refine Go_aload_n 1 rfl rfl dX6_copyFrom_39 ?_
  refine Go_getR (c' := 82) faX6_25 sh_80 (pt_80_4 (M := M) hp) dX6_copyFrom_40 ?_
  refine Go_iconst (by unfold in32; omega) dX6_copyFrom_43 ?_
  refine Go_aload_n 0 rfl rfl dX6_copyFrom_44 ?_
  refine Go_getR (c' := 3) faX6_25 sh_1 (pt_1_4 (M := M) hp) dX6_copyFrom_45 ?_
  refine Go_iconst (by unfold in32; omega) dX6_copyFrom_48 ?_
  refine Go_sipush ⟨by decide, by unfold in32; omega⟩ dX6_copyFrom_49 ?_
  refine Go_copyv (M 82) (M 3) rfl rfl cpX6_54 sh_82 sh_3 rfl ⟨Nat.le_of_ble_eq_true rfl, Nat.le_of_ble_eq_true rfl⟩ dX6_copyFrom_52 ?_
  refine Go_aload_n 1 rfl rfl dX6_copyFrom_55 ?_
  refine Go_getR (c' := 83) faX6_28 sh_80 (pt_80_5 (M := M) hp) dX6_copyFrom_56 ?_
  refine Go_iconst (by unfold in32; omega) dX6_copyFrom_59 ?_
  refine Go_aload_n 0 rfl rfl dX6_copyFrom_60 ?_
  refine Go_getR (c' := 4) faX6_28 sh_1 (pt_1_5 (M := M) hp) dX6_copyFrom_61 ?_
  refine Go_iconst (by unfold in32; omega) dX6_copyFrom_64 ?_
  refine Go_bipush ⟨by decide, by unfold in32; omega⟩ dX6_copyFrom_65 ?_
  refine Go_copyv (M 83) (M 4) rfl rfl cpX6_54 sh_83 sh_4 rfl ⟨Nat.le_of_ble_eq_true rfl, Nat.le_of_ble_eq_true rfl⟩ dX6_copyFrom_67 ?_
  refine Go_aload_n 1 rfl rfl dX6_copyFrom_70 ?_
  refine Go_getR (c' := 84) faX6_31 sh_80 (pt_80_6 (M := M) hp) dX6_copyFrom_71 ?_
  refine Go_iconst (by unfold in32; omega) dX6_copyFrom_74 ?_
  refine Go_aload_n 0 rfl rfl dX6_copyFrom_75 ?_
  refine Go_getR (c' := 5) faX6_31 sh_1 (pt_1_6 (M := M) hp) dX6_copyFrom_76 ?_
  refine Go_iconst (by unfold in32; omega) dX6_copyFrom_79 ?_
  refine Go_bipush ⟨by decide, by unfold in32; omega⟩ dX6_copyFrom_80 ?_
  refine Go_copyv (M 84) (M 5) rfl rfl cpX6_54 sh_84 sh_5 rfl ⟨Nat.le_of_ble_eq_true rfl, Nat.le_of_ble_eq_true rfl⟩ dX6_copyFrom_82 ?_
  refine Go_aload_n 1 rfl rfl dX6_copyFrom_85 ?_
  refine Go_getR (c' := 85) faX6_34 sh_80 (pt_80_7 (M := M) hp) dX6_copyFrom_86 ?_
  refine Go_iconst (by unfold in32; omega) dX6_copyFrom_89 ?_
  refine Go_aload_n 0 rfl rfl dX6_copyFrom_90 ?_
  refine Go_getR (c' := 6) faX6_34 sh_1 (pt_1_7 (M := M) hp) dX6_copyFrom_91 ?_
  refine Go_iconst (by unfold in32; omega) dX6_copyFrom_94 ?_
  refine Go_bipush ⟨by decide, by unfold in32; omega⟩ dX6_copyFrom_95 ?_
  refine Go_copyv (M 85) (M 6) rfl rfl cpX6_54 sh_85 sh_6 rfl ⟨Nat.le_of_ble_eq_true rfl, Nat.le_of_ble_eq_true rfl⟩ dX6_copyFrom_97 ?_
  refine Go_aload_n 1 rfl rfl dX6_copyFrom_100 ?_
  refine Go_getR (c' := 86) faX6_37 sh_80 (pt_80_8 (M := M) hp) dX6_copyFrom_101 ?_
  refine Go_iconst (by unfold in32; omega) dX6_copyFrom_104 ?_
  refine Go_aload_n 0 rfl rfl dX6_copyFrom_105 ?_
  refine Go_getR (c' := 7) faX6_37 sh_1 (pt_1_8 (M := M) hp) dX6_copyFrom_106 ?_
  refine Go_iconst (by unfold in32; omega) dX6_copyFrom_109 ?_
  refine Go_bipush ⟨by decide, by unfold in32; omega⟩ dX6_copyFrom_110 ?_
  refine Go_copyv (M 86) (M 7) rfl rfl cpX6_54 sh_86 sh_7 rfl ⟨Nat.le_of_ble_eq_true rfl, Nat.le_of_ble_eq_true rfl⟩ dX6_copyFrom_112 ?_
  exact Go_ret rfl dX6_copyFrom_115
set_option maxHeartbeats 4000000 in
set_option maxRecDepth 100000 in
theorem lk_80 {D : va_G} {ca : Nat → ClassId} {M : gMem} (hp : gPtr M) : Fn D ca mX6_isLike [gR 80, gR 1] SH M [gI (bI (likeB M 80 1 = true))] SH (M) := by
  refine Fn_of okX6_isLike (Nat.le_of_ble_eq_true rfl) (Or.inr (Or.inr (Or.inl ⟨_, rfl, rfl, bI_01 _⟩))) (Nat.le_refl _) (Nat.le_refl _) ?_
  refine Go_ls2 (ls' := [(0, gR 80), (1, gR 1)]) rfl ?_
  refine Go_aload_n 0 rfl rfl dX6_isLike_0 ?_
  refine Go_getI faX6_9 sh_80 dX6_isLike_1 ?_
  refine Go_aload_n 1 rfl rfl dX6_isLike_4 ?_
  refine Go_getI faX6_9 sh_1 dX6_isLike_5 ?_
  refine Go_icmp_ne dX6_isLike_8 rfl (fun h8 => ?_) (fun h8 => ?_)
  · skip
    refine Go_iconst (by unfold in32; omega) dX6_isLike_79 ?_
    exact Go_ret (by rw [bI_f (likeB_f (fun q => by first | exact h8 q.1 | exact h19 q.2.1 | exact h30 q.2.2.1 | exact h44 (eqR_iff.mpr q.2.2.2.1) | exact h58 (eqR_iff.mpr q.2.2.2.2.1) | exact h72 (eqR_iff.mpr q.2.2.2.2.2)))]) dX6_isLike_80
  · skip
    refine Go_aload_n 0 rfl rfl dX6_isLike_11 ?_
    refine Go_getI faX6_15 sh_80 dX6_isLike_12 ?_
    refine Go_aload_n 1 rfl rfl dX6_isLike_15 ?_
    refine Go_getI faX6_15 sh_1 dX6_isLike_16 ?_
    refine Go_icmp_ne dX6_isLike_19 rfl (fun h19 => ?_) (fun h19 => ?_)
    · skip
      refine Go_iconst (by unfold in32; omega) dX6_isLike_79 ?_
      exact Go_ret (by rw [bI_f (likeB_f (fun q => by first | exact h8 q.1 | exact h19 q.2.1 | exact h30 q.2.2.1 | exact h44 (eqR_iff.mpr q.2.2.2.1) | exact h58 (eqR_iff.mpr q.2.2.2.2.1) | exact h72 (eqR_iff.mpr q.2.2.2.2.2)))]) dX6_isLike_80
    · skip
      refine Go_aload_n 0 rfl rfl dX6_isLike_22 ?_
      refine Go_getI faX6_18 sh_80 dX6_isLike_23 ?_
      refine Go_aload_n 1 rfl rfl dX6_isLike_26 ?_
      refine Go_getI faX6_18 sh_1 dX6_isLike_27 ?_
      refine Go_icmp_ne dX6_isLike_30 rfl (fun h30 => ?_) (fun h30 => ?_)
      · skip
        refine Go_iconst (by unfold in32; omega) dX6_isLike_79 ?_
        exact Go_ret (by rw [bI_f (likeB_f (fun q => by first | exact h8 q.1 | exact h19 q.2.1 | exact h30 q.2.2.1 | exact h44 (eqR_iff.mpr q.2.2.2.1) | exact h58 (eqR_iff.mpr q.2.2.2.2.1) | exact h72 (eqR_iff.mpr q.2.2.2.2.2)))]) dX6_isLike_80
      · skip
        refine Go_aload_n 0 rfl rfl dX6_isLike_33 ?_
        refine Go_getR (c' := 81) faX6_21 sh_80 (pt_80_3 (M := M) hp) dX6_isLike_34 ?_
        refine Go_aload_n 1 rfl rfl dX6_isLike_37 ?_
        refine Go_getR (c' := 2) faX6_21 sh_1 (pt_1_3 (M := M) hp) dX6_isLike_38 ?_
        refine Go_callSI (fX6_sameRows 81 2 12 sh_81 sh_2 (by decide)) cwX6_60 smX6_sameRows ⟨Nat.le_of_ble_eq_true rfl, Nat.le_of_ble_eq_true rfl⟩ rfl (Nat.le_of_ble_eq_true rfl) sh_rf dX6_isLike_41 ?_
        refine Go_if_eq dX6_isLike_44 rfl (fun h44 => ?_) (fun h44 => ?_)
        · skip
          replace h44 := bI_0.mp h44
          refine Go_iconst (by unfold in32; omega) dX6_isLike_79 ?_
          exact Go_ret (by rw [bI_f (likeB_f (fun q => by first | exact h8 q.1 | exact h19 q.2.1 | exact h30 q.2.2.1 | exact h44 (eqR_iff.mpr q.2.2.2.1) | exact h58 (eqR_iff.mpr q.2.2.2.2.1) | exact h72 (eqR_iff.mpr q.2.2.2.2.2)))]) dX6_isLike_80
        · skip
          replace h44 := bI_n.mp h44
          refine Go_aload_n 0 rfl rfl dX6_isLike_47 ?_
          refine Go_getR (c' := 82) faX6_25 sh_80 (pt_80_4 (M := M) hp) dX6_isLike_48 ?_
          refine Go_aload_n 1 rfl rfl dX6_isLike_51 ?_
          refine Go_getR (c' := 3) faX6_25 sh_1 (pt_1_4 (M := M) hp) dX6_isLike_52 ?_
          refine Go_callSI (fX6_sameRows 82 3 144 sh_82 sh_3 (by decide)) cwX6_60 smX6_sameRows ⟨Nat.le_of_ble_eq_true rfl, Nat.le_of_ble_eq_true rfl⟩ rfl (Nat.le_of_ble_eq_true rfl) sh_rf dX6_isLike_55 ?_
          refine Go_if_eq dX6_isLike_58 rfl (fun h58 => ?_) (fun h58 => ?_)
          · skip
            replace h58 := bI_0.mp h58
            refine Go_iconst (by unfold in32; omega) dX6_isLike_79 ?_
            exact Go_ret (by rw [bI_f (likeB_f (fun q => by first | exact h8 q.1 | exact h19 q.2.1 | exact h30 q.2.2.1 | exact h44 (eqR_iff.mpr q.2.2.2.1) | exact h58 (eqR_iff.mpr q.2.2.2.2.1) | exact h72 (eqR_iff.mpr q.2.2.2.2.2)))]) dX6_isLike_80
          · skip
            replace h58 := bI_n.mp h58
            refine Go_aload_n 0 rfl rfl dX6_isLike_61 ?_
            refine Go_getR (c' := 86) faX6_37 sh_80 (pt_80_8 (M := M) hp) dX6_isLike_62 ?_
            refine Go_aload_n 1 rfl rfl dX6_isLike_65 ?_
            refine Go_getR (c' := 7) faX6_37 sh_1 (pt_1_8 (M := M) hp) dX6_isLike_66 ?_
            refine Go_callSI (fX6_sameRows 86 7 10 sh_86 sh_7 (by decide)) cwX6_60 smX6_sameRows ⟨Nat.le_of_ble_eq_true rfl, Nat.le_of_ble_eq_true rfl⟩ rfl (Nat.le_of_ble_eq_true rfl) sh_rf dX6_isLike_69 ?_
            refine Go_if_eq dX6_isLike_72 rfl (fun h72 => ?_) (fun h72 => ?_)
            · skip
              replace h72 := bI_0.mp h72
              refine Go_iconst (by unfold in32; omega) dX6_isLike_79 ?_
              exact Go_ret (by rw [bI_f (likeB_f (fun q => by first | exact h8 q.1 | exact h19 q.2.1 | exact h30 q.2.2.1 | exact h44 (eqR_iff.mpr q.2.2.2.1) | exact h58 (eqR_iff.mpr q.2.2.2.2.1) | exact h72 (eqR_iff.mpr q.2.2.2.2.2)))]) dX6_isLike_80
            · skip
              replace h72 := bI_n.mp h72
              refine Go_iconst (by unfold in32; omega) dX6_isLike_75 ?_
              refine Go_goto dX6_isLike_76 rfl ?_
              exact Go_ret (by rw [bI_t (likeB_t ⟨h8, h19, h30, eqR_iff.mp h44, eqR_iff.mp h58, eqR_iff.mp h72⟩)]) dX6_isLike_80
theorem cpP {D : va_G} {ca : Nat → ClassId} {M : gMem} (hp : gPtr M) (n : Nat) (hn : n < 11) : Fn D ca mX6_copyFrom [gR (10 + 7 * n), gR 1] SH M [] SH (cpV M (10 + 7 * n) 1) := by
  match n, hn with
  | 0, _ => exact cp_10_1 hp
  | 1, _ => exact cp_17_1 hp
  | 2, _ => exact cp_24_1 hp
  | 3, _ => exact cp_31_1 hp
  | 4, _ => exact cp_38_1 hp
  | 5, _ => exact cp_45_1 hp
  | 6, _ => exact cp_52_1 hp
  | 7, _ => exact cp_59_1 hp
  | 8, _ => exact cp_66_1 hp
  | 9, _ => exact cp_73_1 hp
  | 10, _ => exact cp_80_1 hp
  | n + 11, hn => omega
theorem cpQ {D : va_G} {ca : Nat → ClassId} {M : gMem} (hp : gPtr M) (n : Nat) (hn : n < 11) : Fn D ca mX6_copyFrom [gR 1, gR (10 + 7 * n)] SH M [] SH (cpV M 1 (10 + 7 * n)) := by
  match n, hn with
  | 0, _ => exact cp_1_10 hp
  | 1, _ => exact cp_1_17 hp
  | 2, _ => exact cp_1_24 hp
  | 3, _ => exact cp_1_31 hp
  | 4, _ => exact cp_1_38 hp
  | 5, _ => exact cp_1_45 hp
  | 6, _ => exact cp_1_52 hp
  | 7, _ => exact cp_1_59 hp
  | 8, _ => exact cp_1_66 hp
  | 9, _ => exact cp_1_73 hp
  | 10, _ => exact cp_1_80 hp
  | n + 11, hn => omega
theorem lkP {D : va_G} {ca : Nat → ClassId} {M : gMem} (hp : gPtr M) (n : Nat) (hn : n < 11) : Fn D ca mX6_isLike [gR (10 + 7 * n), gR 1] SH M [gI (bI (likeB M (10 + 7 * n) 1 = true))] SH M := by
  match n, hn with
  | 0, _ => exact lk_10 hp
  | 1, _ => exact lk_17 hp
  | 2, _ => exact lk_24 hp
  | 3, _ => exact lk_31 hp
  | 4, _ => exact lk_38 hp
  | 5, _ => exact lk_45 hp
  | 6, _ => exact lk_52 hp
  | 7, _ => exact lk_59 hp
  | 8, _ => exact lk_66 hp
  | 9, _ => exact lk_73 hp
  | 10, _ => exact lk_80 hp
  | n + 11, hn => omega
theorem sh_pg {n : Nat} (hn : n < 11) : SH[10 + 7 * n]? = some (0, 6) := by
  match n, hn with
  | 0, _ => rfl
  | 1, _ => rfl
  | 2, _ => rfl
  | 3, _ => rfl
  | 4, _ => rfl
  | 5, _ => rfl
  | 6, _ => rfl
  | 7, _ => rfl
  | 8, _ => rfl
  | 9, _ => rfl
  | 10, _ => rfl
  | n + 11, hn => omega
theorem pt_pg {M : gMem} (hp : gPtr M) {n : Nat} (hn : n < 11) : M 9 n = ((10 + 7 * n : Nat) : Int) + 1 := by
  match n, hn with
  | 0, _ => exact pt_9_0 hp
  | 1, _ => exact pt_9_1 hp
  | 2, _ => exact pt_9_2 hp
  | 3, _ => exact pt_9_3 hp
  | 4, _ => exact pt_9_4 hp
  | 5, _ => exact pt_9_5 hp
  | 6, _ => exact pt_9_6 hp
  | 7, _ => exact pt_9_7 hp
  | 8, _ => exact pt_9_8 hp
  | 9, _ => exact pt_9_9 hp
  | 10, _ => exact pt_9_10 hp
  | n + 11, hn => omega
