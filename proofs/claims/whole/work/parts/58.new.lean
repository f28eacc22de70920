abbrev zr : Nat → Int := fun _ => 0
theorem takeS {k : Nat} {e : Nat × Nat} (h : SH[k]? = some e) : SH.take k ++ [e] = SH.take (k + 1) := by
  rw [List.take_add_one, h]
  rfl
theorem take_len {k : Nat} (h : k ≤ 126) : (SH.take k).length = k := by
  rw [List.length_take]
  exact Nat.min_eq_left (by rw [show SH.length = 126 from rfl]; exact h)
theorem tk_at {k i : Nat} {e : Nat × Nat} (h : SH[i]? = some e) (hi : i < k) : (SH.take k)[i]? = some e := by
  rw [List.getElem?_take, if_pos hi]
  exact h
theorem gSz_t1 (k : Nat) : gSz (SH.take k) ≤ gSz (SH.take (k + 1)) := by
  rw [List.take_add_one]
  unfold gSz
  rw [List.map_append, List.sum_append]
  omega
theorem gSz_take {k : Nat} : ∀ d, gSz (SH.take k) ≤ gSz (SH.take (k + d))
  | 0 => Nat.le_refl _
  | d + 1 => Nat.le_trans (gSz_take d) (gSz_t1 (k + d))
theorem gSz_tk {k K : Nat} (h : k ≤ K) : gSz (SH.take k) ≤ gSz (SH.take K) := by
  have := gSz_take (k := k) (K - k)
  rw [show k + (K - k) = K by omega] at this
  exact this
theorem tk_sh {k k1 K : Nat} (h1 : k ≤ k1) (h2 : k1 ≤ K) (h3 : K ≤ 126) : (SH.take k).length ≤ (SH.take k1).length ∧ (SH.take k1).length ≤ (SH.take K).length ∧ gSz (SH.take k) ≤ gSz (SH.take k1) ∧ gSz (SH.take k1) ≤ gSz (SH.take K) := by
  rw [take_len (by omega), take_len (by omega), take_len h3]
  exact ⟨h1, h2, gSz_tk h1, gSz_tk h2⟩
section NEW
variable {D : va_G} {ca : Nat → ClassId} {sc : gScr} {R : Room} {m : gMd} {pc : Nat} {ls : gLs} {st : List gAV} {M M' : gMem} {rv : List gAV} {k K n c : Nat} {r : Nat → Int}
theorem tk_r {e : Nat × Nat} (he : SH[k]? = some e) (hK : k < K) (hK2 : K ≤ 126) : (SH.take k).length + 1 ≤ (SH.take K).length ∧ gSz (SH.take k) + gKs e ≤ gSz (SH.take K) := by
  rw [take_len (by omega), take_len hK2]
  refine ⟨by omega, ?_⟩
  have := gSz_tk (k := k + 1) (K := K) (by omega)
  rw [← takeS he, gSz_app] at this
  exact this
theorem Go_nI {x : Int} (he : SH[k]? = some (1, n)) (hx : x = (n : Int)) (hK : k < K) (hK2 : K ≤ 126) (hn : n ≤ 2000) (hck : c ≠ k) (hd : decode (gCode m) pc = .ok (.newarray .int, 2)) (k0 : Go D ca sc R m (pc + 2) ls (gR k :: st) (SH.take (k + 1)) (gSet (gSet M k zr) c r) rv (SH.take K) M') : Go D ca sc R m pc ls (gI x :: st) (SH.take k) (gSet M c r) rv (SH.take K) M' := by
  refine Go_newI (n := n) hx hn ac_int (tk_r he hK hK2).1 (tk_r he hK hK2).2 hd ?_
  rw [takeS he, take_len (by omega), gSet_cm hck]
  exact k0
theorem Go_nJ {x : Int} (he : SH[k]? = some (2, n)) (hx : x = (n : Int)) (hK : k < K) (hK2 : K ≤ 126) (hn : n ≤ 2000) (hck : c ≠ k) (hd : decode (gCode m) pc = .ok (.newarray .long, 2)) (k0 : Go D ca sc R m (pc + 2) ls (gR k :: st) (SH.take (k + 1)) (gSet (gSet M k zr) c r) rv (SH.take K) M') : Go D ca sc R m pc ls (gI x :: st) (SH.take k) (gSet M c r) rv (SH.take K) M' := by
  refine Go_newJ (n := n) hx hn ac_long (tk_r he hK hK2).1 (tk_r he hK hK2).2 hd ?_
  rw [takeS he, take_len (by omega), gSet_cm hck]
  exact k0
theorem Go_nR {x : Int} {t idx : Nat} {C : String} (he : SH[k]? = some (t + 3, n)) (hx : x = (n : Int)) (hK : k < K) (hK2 : K ≤ 126) (hn : n ≤ 2000) (hC : (t = 0 ∧ C = "BreadOvens$Valley") ∨ (t = 1 ∧ C = "BreadOvens$Chart")) (hcl : Cond.classLink (gOwn m) idx C ∈ gTb) (hck : c ≠ k) (hd : decode (gCode m) pc = .ok (.anewarray idx, 3)) (k0 : Go D ca sc R m (pc + 3) ls (gR k :: st) (SH.take (k + 1)) (gSet (gSet M k zr) c r) rv (SH.take K) M') : Go D ca sc R m pc ls (gI x :: st) (SH.take k) (gSet M c r) rv (SH.take K) M' := by
  refine Go_newR (n := n) (t := t) (C := C) hx hn hC hcl (tk_r he hK hK2).1 (tk_r he hK hK2).2 hd ?_
  rw [takeS he, take_len (by omega), gSet_cm hck]
  exact k0
theorem Go_nO {ci idx : Nat} (nc : gNc (gOwn m) idx ci) (he : SH[k]? = some (0, ci)) (hK : k < K) (hK2 : K ≤ 126) (hck : c ≠ k) (hd : decode (gCode m) pc = .ok (.new idx, 3)) (k0 : Go D ca sc R m (pc + 3) ls (gR k :: st) (SH.take (k + 1)) (gSet (gSet M k zr) c r) rv (SH.take K) M') : Go D ca sc R m pc ls st (SH.take k) (gSet M c r) rv (SH.take K) M' := by
  refine Go_new nc (tk_r he hK hK2).1 (tk_r he hK hK2).2 hd ?_
  rw [takeS he, take_len (by omega), gSet_cm hck]
  exact k0
/-- where no cell is open -/
theorem Go_nO0 {ci idx : Nat} (nc : gNc (gOwn m) idx ci) (he : SH[k]? = some (0, ci)) (hK : k < K) (hK2 : K ≤ 126) (hd : decode (gCode m) pc = .ok (.new idx, 3)) (k0 : Go D ca sc R m (pc + 3) ls (gR k :: st) (SH.take (k + 1)) (gSet M k zr) rv (SH.take K) M') : Go D ca sc R m pc ls st (SH.take k) M rv (SH.take K) M' := by
  refine Go_new nc (tk_r he hK hK2).1 (tk_r he hK hK2).2 hd ?_
  rw [takeS he, take_len (by omega)]
  exact k0
theorem Go_putFS {sh sh' : gShp} {i ci j idx : Nat} {x : Int} (fp : gFp (gOwn m) idx ci j 2 true) (hi : gIni m = true) (hk : sh[i]? = some (0, ci)) (hd : decode (gCode m) pc = .ok (.putfield idx, 3)) (k : Go D ca sc R m (pc + 3) ls (st) sh (gSet M i (gUp r j x)) rv sh' M') : Go D ca sc R m pc ls ((2, x) :: gR i :: st) sh (gSet M i r) rv sh' M' := by
  refine Go_putF fp hi hk hd ?_
  rw [gSet_s, gSet_ss]
  exact k
theorem Go_putZS {sh sh' : gShp} {i ci j idx : Nat} {x : Int} (hx : x = 0 ∨ x = 1) (fp : gFp (gOwn m) idx ci j 3 false) (hk : sh[i]? = some (0, ci)) (hd : decode (gCode m) pc = .ok (.putfield idx, 3)) (k : Go D ca sc R m (pc + 3) ls (st) sh (gSet M i (gUp r j x)) rv sh' M') : Go D ca sc R m pc ls ((0, x) :: gR i :: st) sh (gSet M i r) rv sh' M' := by
  refine Go_putZ hx fp hk hd ?_
  rw [gSet_s, gSet_ss]
  exact k
theorem Go_aastoreS {sh sh' : gShp} {i n t b ci : Nat} {x : Int} {q : vw_C} (j : Nat) (hci : c ≠ i) (hk : sh[i]? = some (t + 3, n)) (hr : vwCl[ci]? = some q) (hC : (gTy ca)[t + 2]? = some (ca (t + 2), .object q.1)) (hb : sh[b]? = some (0, ci)) (hj : x = (j : Int)) (hlt : j < n) (hd : decode (gCode m) pc = .ok (.aastore, 1)) (k : Go D ca sc R m (pc + 1) ls (st) sh (gSet (gSet M i (gUp (M i) j ((b : Int) + 1))) c r) rv sh' M') : Go D ca sc R m pc ls (gR b :: gI x :: gR i :: st) sh (gSet M c r) rv sh' M' := by
  refine Go_aastore j hk hr hC hb hj hlt hd ?_
  rw [gSet_n (Ne.symm hci), gSet_cm hci]
  exact k
end NEW
def vnM (M : gMem) (c : Nat) : gMem := gSet (gSet (gSet (gSet (gSet (gSet (gSet (M) (c + 1) zr) (c + 2) zr) (c + 3) zr) (c + 4) zr) (c + 5) zr) (c + 6) zr) c (gUp (gUp (gUp (gUp (gUp (gUp (gUp (gUp (gUp ((M c)) 0 (0)) 1 (0)) 2 (3)) 3 (((c + 1 : Nat) : Int) + 1)) 4 (((c + 2 : Nat) : Int) + 1)) 5 (((c + 3 : Nat) : Int) + 1)) 6 (((c + 4 : Nat) : Int) + 1)) 7 (((c + 5 : Nat) : Int) + 1)) 8 (((c + 6 : Nat) : Int) + 1))
theorem vnM_cm {N : gMem} {i c : Nat} {r : Nat → Int} (h : i < c) : vnM (gSet N i r) c = gSet (vnM N c) i r := by
  unfold vnM
  rw [gSet_n (show c ≠ i by omega), gSet_cm (show i ≠ c + 1 by omega), gSet_cm (show i ≠ c + 2 by omega), gSet_cm (show i ≠ c + 3 by omega), gSet_cm (show i ≠ c + 4 by omega), gSet_cm (show i ≠ c + 5 by omega), gSet_cm (show i ≠ c + 6 by omega), gSet_cm (show i ≠ c by omega)]
set_option maxHeartbeats 4000000 in
set_option maxRecDepth 100000 in
theorem iX6 {D : va_G} {ca : Nat → ClassId} {M : gMem} {c : Nat} (h0 : SH[c]? = some (0, 6)) (h1 : SH[c + 1]? = some (1, 12)) (h2 : SH[c + 2]? = some (1, 144)) (h3 : SH[c + 3]? = some (1, 10)) (h4 : SH[c + 4]? = some (1, 10)) (h5 : SH[c + 5]? = some (1, 10)) (h6 : SH[c + 6]? = some (1, 10)) (hc : c + 7 ≤ 126) : Fn D ca mX6_init [gR c] (SH.take (c + 1)) M [] (SH.take (c + 7)) (vnM M c) := by
  refine Fn_of okX6_init (Nat.le_of_ble_eq_true rfl) (Or.inl ⟨rfl, rfl⟩) (tk_sh (k := c + 1) (k1 := c + 7) (K := c + 7) (by omega) (by omega) (by omega)).1 (gSz_tk (by omega)) ?_
  refine Go_ls2 (ls' := [(0, gR c)]) rfl ?_
  refine Go_aload_n 0 rfl rfl dX6_init_0 ?_
  refine Go_oinit oiX6_3 ⟨Nat.le_of_ble_eq_true rfl, Nat.le_of_ble_eq_true rfl⟩ dX6_init_1 ?_
  refine Go_o c ?_
  refine Go_aload_n 0 rfl rfl dX6_init_4 ?_
  refine Go_iconst (by unfold in32; omega) dX6_init_5 ?_
  refine Go_putIS fpX6_9 (tk_at h0 (by omega)) dX6_init_6 ?_
  refine Go_aload_n 0 rfl rfl dX6_init_9 ?_
  refine Go_iconst (by unfold in32; omega) dX6_init_10 ?_
  refine Go_putIS fpX6_15 (tk_at h0 (by omega)) dX6_init_11 ?_
  refine Go_aload_n 0 rfl rfl dX6_init_14 ?_
  refine Go_iconst (by unfold in32; omega) dX6_init_15 ?_
  refine Go_putIS fpX6_18 (tk_at h0 (by omega)) dX6_init_16 ?_
  refine Go_aload_n 0 rfl rfl dX6_init_19 ?_
  refine Go_bipush ⟨by decide, by unfold in32; omega⟩ dX6_init_20 ?_
  refine Go_nI (c := c) (k := c + 1) (n := 12) h1 rfl (by omega) (by omega) (by decide) (by omega) dX6_init_22 ?_
  refine Go_putFS fpX6_21 rfl (tk_at h0 (by omega)) dX6_init_24 ?_
  refine Go_aload_n 0 rfl rfl dX6_init_27 ?_
  refine Go_sipush ⟨by decide, by unfold in32; omega⟩ dX6_init_28 ?_
  refine Go_nI (c := c) (k := c + 2) (n := 144) h2 rfl (by omega) (by omega) (by decide) (by omega) dX6_init_31 ?_
  refine Go_putFS fpX6_25 rfl (tk_at h0 (by omega)) dX6_init_33 ?_
  refine Go_aload_n 0 rfl rfl dX6_init_36 ?_
  refine Go_bipush ⟨by decide, by unfold in32; omega⟩ dX6_init_37 ?_
  refine Go_nI (c := c) (k := c + 3) (n := 10) h3 rfl (by omega) (by omega) (by decide) (by omega) dX6_init_39 ?_
  refine Go_putFS fpX6_28 rfl (tk_at h0 (by omega)) dX6_init_41 ?_
  refine Go_aload_n 0 rfl rfl dX6_init_44 ?_
  refine Go_bipush ⟨by decide, by unfold in32; omega⟩ dX6_init_45 ?_
  refine Go_nI (c := c) (k := c + 4) (n := 10) h4 rfl (by omega) (by omega) (by decide) (by omega) dX6_init_47 ?_
  refine Go_putFS fpX6_31 rfl (tk_at h0 (by omega)) dX6_init_49 ?_
  refine Go_aload_n 0 rfl rfl dX6_init_52 ?_
  refine Go_bipush ⟨by decide, by unfold in32; omega⟩ dX6_init_53 ?_
  refine Go_nI (c := c) (k := c + 5) (n := 10) h5 rfl (by omega) (by omega) (by decide) (by omega) dX6_init_55 ?_
  refine Go_putFS fpX6_34 rfl (tk_at h0 (by omega)) dX6_init_57 ?_
  refine Go_aload_n 0 rfl rfl dX6_init_60 ?_
  refine Go_bipush ⟨by decide, by unfold in32; omega⟩ dX6_init_61 ?_
  refine Go_nI (c := c) (k := c + 6) (n := 10) h6 rfl (by omega) (by omega) (by decide) (by omega) dX6_init_63 ?_
  refine Go_putFS fpX6_37 rfl (tk_at h0 (by omega)) dX6_init_65 ?_
  exact Go_ret rfl dX6_init_68
def x1M (M : gMem) (c : Nat) : gMem := gSet (gSet (M) (c + 1) zr) c (gUp (gUp (gUp ((M c)) 0 (-1)) 1 (0)) 2 (((c + 1 : Nat) : Int) + 1))
theorem x1M_cm {N : gMem} {i c : Nat} {r : Nat → Int} (h : i < c) : x1M (gSet N i r) c = gSet (x1M N c) i r := by
  unfold x1M
  rw [gSet_n (show c ≠ i by omega), gSet_cm (show i ≠ c + 1 by omega), gSet_cm (show i ≠ c by omega)]
set_option maxHeartbeats 4000000 in
set_option maxRecDepth 100000 in
theorem iX1 {D : va_G} {ca : Nat → ClassId} {M : gMem} {c : Nat} (h0 : SH[c]? = some (0, 1)) (h1 : SH[c + 1]? = some (2, 60)) (hc : c + 2 ≤ 126) : Fn D ca mX1_init [gR c] (SH.take (c + 1)) M [] (SH.take (c + 2)) (x1M M c) := by
  refine Fn_of okX1_init (Nat.le_of_ble_eq_true rfl) (Or.inl ⟨rfl, rfl⟩) (tk_sh (k := c + 1) (k1 := c + 2) (K := c + 2) (by omega) (by omega) (by omega)).1 (gSz_tk (by omega)) ?_
  refine Go_ls2 (ls' := [(0, gR c)]) rfl ?_
  refine Go_aload_n 0 rfl rfl dX1_init_0 ?_
  refine Go_oinit oiX1_3 ⟨Nat.le_of_ble_eq_true rfl, Nat.le_of_ble_eq_true rfl⟩ dX1_init_1 ?_
  refine Go_o c ?_
  refine Go_aload_n 0 rfl rfl dX1_init_4 ?_
  refine Go_iconst (by unfold in32; omega) dX1_init_5 ?_
  refine Go_putIS fpX1_9 (tk_at h0 (by omega)) dX1_init_6 ?_
  refine Go_aload_n 0 rfl rfl dX1_init_9 ?_
  refine Go_iconst (by unfold in32; omega) dX1_init_10 ?_
  refine Go_putIS fpX1_15 (tk_at h0 (by omega)) dX1_init_11 ?_
  refine Go_aload_n 0 rfl rfl dX1_init_14 ?_
  refine Go_bipush ⟨by decide, by unfold in32; omega⟩ dX1_init_15 ?_
  refine Go_nJ (c := c) (k := c + 1) (n := 60) h1 rfl (by omega) (by omega) (by decide) (by omega) dX1_init_17 ?_
  refine Go_putFS fpX1_18 rfl (tk_at h0 (by omega)) dX1_init_19 ?_
  exact Go_ret rfl dX1_init_22
def x7M (M : gMem) : gMem := gSet (gSet (M) 89 zr) 88 (gUp ((M 88)) 0 (((89 : Nat) : Int) + 1))
theorem x7M_cm {N : gMem} {i : Nat} {r : Nat → Int} (h : i < 88) : x7M (gSet N i r) = gSet (x7M N) i r := by
  unfold x7M
  rw [gSet_n (show 88 ≠ i by omega), gSet_cm (show i ≠ 89 by omega), gSet_cm (show i ≠ 88 by omega)]
set_option maxHeartbeats 4000000 in
set_option maxRecDepth 100000 in
theorem iX7 {D : va_G} {ca : Nat → ClassId} {M : gMem} : Fn D ca mX7_init [gR 88] (SH.take (89)) M [] (SH.take (90)) (x7M M) := by
  refine Fn_of okX7_init (Nat.le_of_ble_eq_true rfl) (Or.inl ⟨rfl, rfl⟩) (tk_sh (k := 89) (k1 := 90) (K := 90) (by omega) (by omega) (by omega)).1 (gSz_tk (by omega)) ?_
  refine Go_ls2 (ls' := [(0, gR 88)]) rfl ?_
  refine Go_aload_n 0 rfl rfl dX7_init_0 ?_
  refine Go_oinit oiX7_3 ⟨Nat.le_of_ble_eq_true rfl, Nat.le_of_ble_eq_true rfl⟩ dX7_init_1 ?_
  refine Go_o 88 ?_
  refine Go_aload_n 0 rfl rfl dX7_init_4 ?_
  refine Go_sipush ⟨by decide, by unfold in32; omega⟩ dX7_init_5 ?_
  refine Go_nI (c := 88) (k := 89) (n := 144) sh_89 rfl (by decide) (by decide) (by decide) (by decide) dX7_init_8 ?_
  refine Go_putFS fpX7_9 rfl (tk_at sh_88 (by decide)) dX7_init_10 ?_
  exact Go_ret rfl dX7_init_13
def x3M (M : gMem) : gMem := gSet (gSet (M) 91 zr) 90 (gUp (gUp (gUp (gUp ((M 90)) 1 (((91 : Nat) : Int) + 1)) 2 (0)) 3 (0)) 0 (((1 : Nat) : Int) + 1))
theorem x3M_cm {N : gMem} {i : Nat} {r : Nat → Int} (h : i < 90) : x3M (gSet N i r) = gSet (x3M N) i r := by
  unfold x3M
  rw [gSet_n (show 90 ≠ i by omega), gSet_cm (show i ≠ 91 by omega), gSet_cm (show i ≠ 90 by omega)]
set_option maxHeartbeats 4000000 in
set_option maxRecDepth 100000 in
theorem iX3 {D : va_G} {ca : Nat → ClassId} {M : gMem} : Fn D ca mX3_init [gR 90, gR 1] (SH.take (91)) M [] (SH.take (92)) (x3M M) := by
  refine Fn_of okX3_init (Nat.le_of_ble_eq_true rfl) (Or.inl ⟨rfl, rfl⟩) (tk_sh (k := 91) (k1 := 92) (K := 92) (by omega) (by omega) (by omega)).1 (gSz_tk (by omega)) ?_
  refine Go_ls2 (ls' := [(0, gR 90), (1, gR 1)]) rfl ?_
  refine Go_aload_n 0 rfl rfl dX3_init_0 ?_
  refine Go_oinit oiX3_3 ⟨Nat.le_of_ble_eq_true rfl, Nat.le_of_ble_eq_true rfl⟩ dX3_init_1 ?_
  refine Go_o 90 ?_
  refine Go_aload_n 0 rfl rfl dX3_init_4 ?_
  refine Go_bipush ⟨by decide, by unfold in32; omega⟩ dX3_init_5 ?_
  refine Go_nI (c := 90) (k := 91) (n := 120) sh_91 rfl (by decide) (by decide) (by decide) (by decide) dX3_init_7 ?_
  refine Go_putFS fpX3_9 rfl (tk_at sh_90 (by decide)) dX3_init_9 ?_
  refine Go_aload_n 0 rfl rfl dX3_init_12 ?_
  refine Go_iconst (by unfold in32; omega) dX3_init_13 ?_
  refine Go_putIS fpX3_15 (tk_at sh_90 (by decide)) dX3_init_14 ?_
  refine Go_aload_n 0 rfl rfl dX3_init_17 ?_
  refine Go_iconst (by unfold in32; omega) dX3_init_18 ?_
  refine Go_putIS fpX3_19 (tk_at sh_90 (by decide)) dX3_init_19 ?_
  refine Go_aload_n 0 rfl rfl dX3_init_22 ?_
  refine Go_aload_n 1 rfl rfl dX3_init_23 ?_
  refine Go_putFS fpX3_22 rfl (tk_at sh_90 (by decide)) dX3_init_24 ?_
  exact Go_ret rfl dX3_init_27
def x5M (M : gMem) : gMem := gSet (gSet (M) 93 zr) 92 (gUp ((M 92)) 9 (((93 : Nat) : Int) + 1))
theorem x5M_cm {N : gMem} {i : Nat} {r : Nat → Int} (h : i < 92) : x5M (gSet N i r) = gSet (x5M N) i r := by
  unfold x5M
  rw [gSet_n (show 92 ≠ i by omega), gSet_cm (show i ≠ 93 by omega), gSet_cm (show i ≠ 92 by omega)]
set_option maxHeartbeats 4000000 in
set_option maxRecDepth 100000 in
theorem iX5 {D : va_G} {ca : Nat → ClassId} {M : gMem} : Fn D ca mX5_init [gR 92] (SH.take (93)) M [] (SH.take (94)) (x5M M) := by
  refine Fn_of okX5_init (Nat.le_of_ble_eq_true rfl) (Or.inl ⟨rfl, rfl⟩) (tk_sh (k := 93) (k1 := 94) (K := 94) (by omega) (by omega) (by omega)).1 (gSz_tk (by omega)) ?_
  refine Go_ls2 (ls' := [(0, gR 92)]) rfl ?_
  refine Go_aload_n 0 rfl rfl dX5_init_0 ?_
  refine Go_oinit oiX5_3 ⟨Nat.le_of_ble_eq_true rfl, Nat.le_of_ble_eq_true rfl⟩ dX5_init_1 ?_
  refine Go_o 92 ?_
  refine Go_aload_n 0 rfl rfl dX5_init_4 ?_
  refine Go_bipush ⟨by decide, by unfold in32; omega⟩ dX5_init_5 ?_
  refine Go_nJ (c := 92) (k := 93) (n := 10) sh_93 rfl (by decide) (by decide) (by decide) (by decide) dX5_init_7 ?_
  refine Go_putFS fpX5_9 rfl (tk_at sh_92 (by decide)) dX5_init_9 ?_
  exact Go_ret rfl dX5_init_12
def x0M (M : gMem) : gMem := gSet (M) 94 (gUp (gUp (gUp (gUp ((M 94)) 1 (0)) 2 (0)) 3 (0)) 0 (((90 : Nat) : Int) + 1))
theorem x0M_cm {N : gMem} {i : Nat} {r : Nat → Int} (h : i < 94) : x0M (gSet N i r) = gSet (x0M N) i r := by
  unfold x0M
  rw [gSet_n (show 94 ≠ i by omega), gSet_cm (show i ≠ 94 by omega)]
set_option maxHeartbeats 4000000 in
set_option maxRecDepth 100000 in
theorem iX0 {D : va_G} {ca : Nat → ClassId} {M : gMem} : Fn D ca mX0_init [gR 94, gR 90] (SH.take (95)) M [] (SH.take (95)) (x0M M) := by
  refine Fn_of okX0_init (Nat.le_of_ble_eq_true rfl) (Or.inl ⟨rfl, rfl⟩) (tk_sh (k := 95) (k1 := 95) (K := 95) (by omega) (by omega) (by omega)).1 (gSz_tk (by omega)) ?_
  refine Go_ls2 (ls' := [(0, gR 94), (1, gR 90)]) rfl ?_
  refine Go_aload_n 0 rfl rfl dX0_init_0 ?_
  refine Go_oinit oiX0_3 ⟨Nat.le_of_ble_eq_true rfl, Nat.le_of_ble_eq_true rfl⟩ dX0_init_1 ?_
  refine Go_o 94 ?_
  refine Go_aload_n 0 rfl rfl dX0_init_4 ?_
  refine Go_iconst (by unfold in32; omega) dX0_init_5 ?_
  refine Go_putIS fpX0_9 (tk_at sh_94 (by decide)) dX0_init_6 ?_
  refine Go_aload_n 0 rfl rfl dX0_init_9 ?_
  refine Go_iconst (by unfold in32; omega) dX0_init_10 ?_
  refine Go_putIS fpX0_15 (tk_at sh_94 (by decide)) dX0_init_11 ?_
  refine Go_aload_n 0 rfl rfl dX0_init_14 ?_
  refine Go_lconst (v := 0) ⟨rfl, by unfold in64; omega⟩ dX0_init_15 ?_
  refine Go_putJS fpX0_18 (tk_at sh_94 (by decide)) dX0_init_16 ?_
  refine Go_aload_n 0 rfl rfl dX0_init_19 ?_
  refine Go_aload_n 1 rfl rfl dX0_init_20 ?_
  refine Go_putFS fpX0_22 rfl (tk_at sh_94 (by decide)) dX0_init_21 ?_
  exact Go_ret rfl dX0_init_24
def x4M (M : gMem) : gMem := gSet (gSet (gSet (M) 96 zr) 97 zr) 95 (gUp (gUp (gUp (gUp (gUp (gUp ((M 95)) 2 (((96 : Nat) : Int) + 1)) 3 (((97 : Nat) : Int) + 1)) 4 (-4)) 5 (0)) 0 (((1 : Nat) : Int) + 1)) 1 (((90 : Nat) : Int) + 1))
theorem x4M_cm {N : gMem} {i : Nat} {r : Nat → Int} (h : i < 95) : x4M (gSet N i r) = gSet (x4M N) i r := by
  unfold x4M
  rw [gSet_n (show 95 ≠ i by omega), gSet_cm (show i ≠ 96 by omega), gSet_cm (show i ≠ 97 by omega), gSet_cm (show i ≠ 95 by omega)]
set_option maxHeartbeats 4000000 in
set_option maxRecDepth 100000 in
theorem iX4 {D : va_G} {ca : Nat → ClassId} {M : gMem} : Fn D ca mX4_init [gR 95, gR 1, gR 90] (SH.take (96)) M [] (SH.take (98)) (x4M M) := by
  refine Fn_of okX4_init (Nat.le_of_ble_eq_true rfl) (Or.inl ⟨rfl, rfl⟩) (tk_sh (k := 96) (k1 := 98) (K := 98) (by omega) (by omega) (by omega)).1 (gSz_tk (by omega)) ?_
  refine Go_ls2 (ls' := [(0, gR 95), (1, gR 1), (2, gR 90)]) rfl ?_
  refine Go_aload_n 0 rfl rfl dX4_init_0 ?_
  refine Go_oinit oiX4_3 ⟨Nat.le_of_ble_eq_true rfl, Nat.le_of_ble_eq_true rfl⟩ dX4_init_1 ?_
  refine Go_o 95 ?_
  refine Go_aload_n 0 rfl rfl dX4_init_4 ?_
  refine Go_bipush ⟨by decide, by unfold in32; omega⟩ dX4_init_5 ?_
  refine Go_nJ (c := 95) (k := 96) (n := 12) sh_96 rfl (by decide) (by decide) (by decide) (by decide) dX4_init_7 ?_
  refine Go_putFS fpX4_9 rfl (tk_at sh_95 (by decide)) dX4_init_9 ?_
  refine Go_aload_n 0 rfl rfl dX4_init_12 ?_
  refine Go_sipush ⟨by decide, by unfold in32; omega⟩ dX4_init_13 ?_
  refine Go_nJ (c := 95) (k := 97) (n := 1024) sh_97 rfl (by decide) (by decide) (by decide) (by decide) dX4_init_16 ?_
  refine Go_putFS fpX4_15 rfl (tk_at sh_95 (by decide)) dX4_init_18 ?_
  refine Go_aload_n 0 rfl rfl dX4_init_21 ?_
  refine Go_bipush ⟨by decide, by unfold in32; omega⟩ dX4_init_22 ?_
  refine Go_putIS fpX4_18 (tk_at sh_95 (by decide)) dX4_init_24 ?_
  refine Go_aload_n 0 rfl rfl dX4_init_27 ?_
  refine Go_lconst (v := 0) ⟨rfl, by unfold in64; omega⟩ dX4_init_28 ?_
  refine Go_putJS fpX4_22 (tk_at sh_95 (by decide)) dX4_init_29 ?_
  refine Go_aload_n 0 rfl rfl dX4_init_32 ?_
  refine Go_aload_n 1 rfl rfl dX4_init_33 ?_
  refine Go_putFS fpX4_26 rfl (tk_at sh_95 (by decide)) dX4_init_34 ?_
  refine Go_aload_n 0 rfl rfl dX4_init_37 ?_
  refine Go_aload_n 2 rfl rfl dX4_init_38 ?_
  refine Go_putFS fpX4_30 rfl (tk_at sh_95 (by decide)) dX4_init_39 ?_
  exact Go_ret rfl dX4_init_42
def mnM (M : gMem) : gMem := gSet (gSet (gSet (gSet (gSet (gSet (gSet (gSet (gSet (gSet (gSet (gSet (gSet (gSet (gSet (gSet (gSet (gSet (gSet (gSet (M) 107 (zr)) 108 (zr)) 109 (zr)) 110 (zr)) 111 (zr)) 112 (zr)) 113 (zr)) 114 (gUp (gUp (gUp (gUp (zr) 0 (-4)) 1 (-4)) 2 (-4)) 3 (-4))) 115 (zr)) 116 (zr)) 117 (zr)) 118 (zr)) 119 (zr)) 120 (zr)) 121 (zr)) 122 (zr)) 123 (zr)) 124 (zr)) 125 (zr)) 106 (gUp (gUp (gUp (gUp (gUp (gUp (gUp (gUp (gUp (gUp (gUp (gUp (gUp (gUp (gUp (gUp (gUp (gUp (gUp (gUp ((M 106)) 1 (((107 : Nat) : Int) + 1)) 2 (((108 : Nat) : Int) + 1)) 3 (((109 : Nat) : Int) + 1)) 5 (((110 : Nat) : Int) + 1)) 6 (((111 : Nat) : Int) + 1)) 7 (((112 : Nat) : Int) + 1)) 8 (((113 : Nat) : Int) + 1)) 9 (3)) 10 (((114 : Nat) : Int) + 1)) 11 (((115 : Nat) : Int) + 1)) 12 (((116 : Nat) : Int) + 1)) 14 (((117 : Nat) : Int) + 1)) 15 (((118 : Nat) : Int) + 1)) 16 (((119 : Nat) : Int) + 1)) 17 (((120 : Nat) : Int) + 1)) 18 (((121 : Nat) : Int) + 1)) 19 (((122 : Nat) : Int) + 1)) 20 (((123 : Nat) : Int) + 1)) 21 (((124 : Nat) : Int) + 1)) 35 (((125 : Nat) : Int) + 1))
set_option maxHeartbeats 4000000 in
set_option maxRecDepth 100000 in
theorem iX9 {D : va_G} {ca : Nat → ClassId} {M : gMem} : Fn D ca mX9_init [gR 106] (SH.take 107) M [] (SH.take 126) (mnM M) := by
  refine Fn_of okX9_init (Nat.le_of_ble_eq_true rfl) (Or.inl ⟨rfl, rfl⟩) (tk_sh (k := 107) (k1 := 126) (K := 126) (by omega) (by omega) (by omega)).1 (gSz_tk (by omega)) ?_
  refine Go_ls2 (ls' := [(0, gR 106)]) rfl ?_
  refine Go_aload_n 0 rfl rfl dX9_init_0 ?_
  refine Go_oinit oiX9_1 ⟨Nat.le_of_ble_eq_true rfl, Nat.le_of_ble_eq_true rfl⟩ dX9_init_1 ?_
  refine Go_o 106 ?_
  refine Go_aload_n 0 rfl rfl dX9_init_4 ?_
  refine Go_bipush ⟨by decide, by unfold in32; omega⟩ dX9_init_5 ?_
  refine Go_nI (c := 106) (k := 107) (n := 12) sh_107 rfl (by decide) (by decide) (by decide) (by decide) dX9_init_7 ?_
  refine Go_putFS fpX9_7 rfl (tk_at sh_106 (by decide)) dX9_init_9 ?_
  refine Go_aload_n 0 rfl rfl dX9_init_12 ?_
  refine Go_bipush ⟨by decide, by unfold in32; omega⟩ dX9_init_13 ?_
  refine Go_nJ (c := 106) (k := 108) (n := 12) sh_108 rfl (by decide) (by decide) (by decide) (by decide) dX9_init_15 ?_
  refine Go_putFS fpX9_13 rfl (tk_at sh_106 (by decide)) dX9_init_17 ?_
  refine Go_aload_n 0 rfl rfl dX9_init_20 ?_
  refine Go_sipush ⟨by decide, by unfold in32; omega⟩ dX9_init_21 ?_
  refine Go_nI (c := 106) (k := 109) (n := 144) sh_109 rfl (by decide) (by decide) (by decide) (by decide) dX9_init_24 ?_
  refine Go_putFS fpX9_17 rfl (tk_at sh_106 (by decide)) dX9_init_26 ?_
  refine Go_aload_n 0 rfl rfl dX9_init_29 ?_
  refine Go_bipush ⟨by decide, by unfold in32; omega⟩ dX9_init_30 ?_
  refine Go_nI (c := 106) (k := 110) (n := 10) sh_110 rfl (by decide) (by decide) (by decide) (by decide) dX9_init_32 ?_
  refine Go_putFS fpX9_20 rfl (tk_at sh_106 (by decide)) dX9_init_34 ?_
  refine Go_aload_n 0 rfl rfl dX9_init_37 ?_
  refine Go_bipush ⟨by decide, by unfold in32; omega⟩ dX9_init_38 ?_
  refine Go_nI (c := 106) (k := 111) (n := 10) sh_111 rfl (by decide) (by decide) (by decide) (by decide) dX9_init_40 ?_
  refine Go_putFS fpX9_23 rfl (tk_at sh_106 (by decide)) dX9_init_42 ?_
  refine Go_aload_n 0 rfl rfl dX9_init_45 ?_
  refine Go_bipush ⟨by decide, by unfold in32; omega⟩ dX9_init_46 ?_
  refine Go_nI (c := 106) (k := 112) (n := 10) sh_112 rfl (by decide) (by decide) (by decide) (by decide) dX9_init_48 ?_
  refine Go_putFS fpX9_26 rfl (tk_at sh_106 (by decide)) dX9_init_50 ?_
  refine Go_aload_n 0 rfl rfl dX9_init_53 ?_
  refine Go_bipush ⟨by decide, by unfold in32; omega⟩ dX9_init_54 ?_
  refine Go_nI (c := 106) (k := 113) (n := 10) sh_113 rfl (by decide) (by decide) (by decide) (by decide) dX9_init_56 ?_
  refine Go_putFS fpX9_29 rfl (tk_at sh_106 (by decide)) dX9_init_58 ?_
  refine Go_aload_n 0 rfl rfl dX9_init_61 ?_
  refine Go_iconst (by unfold in32; omega) dX9_init_62 ?_
  refine Go_putIS fpX9_32 (tk_at sh_106 (by decide)) dX9_init_63 ?_
  refine Go_aload_n 0 rfl rfl dX9_init_66 ?_
  refine Go_iconst (by unfold in32; omega) dX9_init_67 ?_
  refine Go_nI (c := 106) (k := 114) (n := 4) sh_114 rfl (by decide) (by decide) (by decide) (by decide) dX9_init_68 ?_
  refine Go_dupR dX9_init_70 ?_
  refine Go_iconst (by unfold in32; omega) dX9_init_71 ?_
  refine Go_bipush ⟨by decide, by unfold in32; omega⟩ dX9_init_72 ?_
  refine Go_iastore 0 (tk_at sh_114 (by decide)) rfl (by decide) dX9_init_74 ?_
  refine Go_M (M2 := gSet (gSet (gSet (gSet (gSet (gSet (gSet (gSet (gSet (M) 107 (zr)) 108 (zr)) 109 (zr)) 110 (zr)) 111 (zr)) 112 (zr)) 113 (zr)) 114 (gUp (zr) 0 (-4))) 106 (gUp (gUp (gUp (gUp (gUp (gUp (gUp (gUp ((M 106)) 1 (((107 : Nat) : Int) + 1)) 2 (((108 : Nat) : Int) + 1)) 3 (((109 : Nat) : Int) + 1)) 5 (((110 : Nat) : Int) + 1)) 6 (((111 : Nat) : Int) + 1)) 7 (((112 : Nat) : Int) + 1)) 8 (((113 : Nat) : Int) + 1)) 9 (3))) (by rw [gSet_n (show 114 ≠ 106 by decide), gSet_s, gSet_cm (show 106 ≠ 114 by decide), gSet_ss]) ?_
  refine Go_dupR dX9_init_75 ?_
  refine Go_iconst (by unfold in32; omega) dX9_init_76 ?_
  refine Go_bipush ⟨by decide, by unfold in32; omega⟩ dX9_init_77 ?_
  refine Go_iastore 1 (tk_at sh_114 (by decide)) rfl (by decide) dX9_init_79 ?_
  refine Go_M (M2 := gSet (gSet (gSet (gSet (gSet (gSet (gSet (gSet (gSet (M) 107 (zr)) 108 (zr)) 109 (zr)) 110 (zr)) 111 (zr)) 112 (zr)) 113 (zr)) 114 (gUp (gUp (zr) 0 (-4)) 1 (-4))) 106 (gUp (gUp (gUp (gUp (gUp (gUp (gUp (gUp ((M 106)) 1 (((107 : Nat) : Int) + 1)) 2 (((108 : Nat) : Int) + 1)) 3 (((109 : Nat) : Int) + 1)) 5 (((110 : Nat) : Int) + 1)) 6 (((111 : Nat) : Int) + 1)) 7 (((112 : Nat) : Int) + 1)) 8 (((113 : Nat) : Int) + 1)) 9 (3))) (by rw [gSet_n (show 114 ≠ 106 by decide), gSet_s, gSet_cm (show 106 ≠ 114 by decide), gSet_ss]) ?_
  refine Go_dupR dX9_init_80 ?_
  refine Go_iconst (by unfold in32; omega) dX9_init_81 ?_
  refine Go_bipush ⟨by decide, by unfold in32; omega⟩ dX9_init_82 ?_
  refine Go_iastore 2 (tk_at sh_114 (by decide)) rfl (by decide) dX9_init_84 ?_
  refine Go_M (M2 := gSet (gSet (gSet (gSet (gSet (gSet (gSet (gSet (gSet (M) 107 (zr)) 108 (zr)) 109 (zr)) 110 (zr)) 111 (zr)) 112 (zr)) 113 (zr)) 114 (gUp (gUp (gUp (zr) 0 (-4)) 1 (-4)) 2 (-4))) 106 (gUp (gUp (gUp (gUp (gUp (gUp (gUp (gUp ((M 106)) 1 (((107 : Nat) : Int) + 1)) 2 (((108 : Nat) : Int) + 1)) 3 (((109 : Nat) : Int) + 1)) 5 (((110 : Nat) : Int) + 1)) 6 (((111 : Nat) : Int) + 1)) 7 (((112 : Nat) : Int) + 1)) 8 (((113 : Nat) : Int) + 1)) 9 (3))) (by rw [gSet_n (show 114 ≠ 106 by decide), gSet_s, gSet_cm (show 106 ≠ 114 by decide), gSet_ss]) ?_
  refine Go_dupR dX9_init_85 ?_
  refine Go_iconst (by unfold in32; omega) dX9_init_86 ?_
  refine Go_bipush ⟨by decide, by unfold in32; omega⟩ dX9_init_87 ?_
  refine Go_iastore 3 (tk_at sh_114 (by decide)) rfl (by decide) dX9_init_89 ?_
  refine Go_M (M2 := gSet (gSet (gSet (gSet (gSet (gSet (gSet (gSet (gSet (M) 107 (zr)) 108 (zr)) 109 (zr)) 110 (zr)) 111 (zr)) 112 (zr)) 113 (zr)) 114 (gUp (gUp (gUp (gUp (zr) 0 (-4)) 1 (-4)) 2 (-4)) 3 (-4))) 106 (gUp (gUp (gUp (gUp (gUp (gUp (gUp (gUp ((M 106)) 1 (((107 : Nat) : Int) + 1)) 2 (((108 : Nat) : Int) + 1)) 3 (((109 : Nat) : Int) + 1)) 5 (((110 : Nat) : Int) + 1)) 6 (((111 : Nat) : Int) + 1)) 7 (((112 : Nat) : Int) + 1)) 8 (((113 : Nat) : Int) + 1)) 9 (3))) (by rw [gSet_n (show 114 ≠ 106 by decide), gSet_s, gSet_cm (show 106 ≠ 114 by decide), gSet_ss]) ?_
  refine Go_putFS fpX9_36 rfl (tk_at sh_106 (by decide)) dX9_init_90 ?_
  refine Go_aload_n 0 rfl rfl dX9_init_93 ?_
  refine Go_iconst (by unfold in32; omega) dX9_init_94 ?_
  refine Go_nI (c := 106) (k := 115) (n := 4) sh_115 rfl (by decide) (by decide) (by decide) (by decide) dX9_init_95 ?_
  refine Go_putFS fpX9_39 rfl (tk_at sh_106 (by decide)) dX9_init_97 ?_
  refine Go_aload_n 0 rfl rfl dX9_init_100 ?_
  refine Go_sipush ⟨by decide, by unfold in32; omega⟩ dX9_init_101 ?_
  refine Go_nJ (c := 106) (k := 116) (n := 240) sh_116 rfl (by decide) (by decide) (by decide) (by decide) dX9_init_104 ?_
  refine Go_putFS fpX9_42 rfl (tk_at sh_106 (by decide)) dX9_init_106 ?_
  refine Go_aload_n 0 rfl rfl dX9_init_109 ?_
  refine Go_bipush ⟨by decide, by unfold in32; omega⟩ dX9_init_110 ?_
  refine Go_nI (c := 106) (k := 117) (n := 10) sh_117 rfl (by decide) (by decide) (by decide) (by decide) dX9_init_112 ?_
  refine Go_putFS fpX9_45 rfl (tk_at sh_106 (by decide)) dX9_init_114 ?_
  refine Go_aload_n 0 rfl rfl dX9_init_117 ?_
  refine Go_bipush ⟨by decide, by unfold in32; omega⟩ dX9_init_118 ?_
  refine Go_nI (c := 106) (k := 118) (n := 120) sh_118 rfl (by decide) (by decide) (by decide) (by decide) dX9_init_120 ?_
  refine Go_putFS fpX9_48 rfl (tk_at sh_106 (by decide)) dX9_init_122 ?_
  refine Go_aload_n 0 rfl rfl dX9_init_125 ?_
  refine Go_sipush ⟨by decide, by unfold in32; omega⟩ dX9_init_126 ?_
  refine Go_nI (c := 106) (k := 119) (n := 1440) sh_119 rfl (by decide) (by decide) (by decide) (by decide) dX9_init_129 ?_
  refine Go_putFS fpX9_51 rfl (tk_at sh_106 (by decide)) dX9_init_131 ?_
  refine Go_aload_n 0 rfl rfl dX9_init_134 ?_
  refine Go_bipush ⟨by decide, by unfold in32; omega⟩ dX9_init_135 ?_
  refine Go_nI (c := 106) (k := 120) (n := 10) sh_120 rfl (by decide) (by decide) (by decide) (by decide) dX9_init_137 ?_
  refine Go_putFS fpX9_54 rfl (tk_at sh_106 (by decide)) dX9_init_139 ?_
  refine Go_aload_n 0 rfl rfl dX9_init_142 ?_
  refine Go_bipush ⟨by decide, by unfold in32; omega⟩ dX9_init_143 ?_
  refine Go_nI (c := 106) (k := 121) (n := 100) sh_121 rfl (by decide) (by decide) (by decide) (by decide) dX9_init_145 ?_
  refine Go_putFS fpX9_57 rfl (tk_at sh_106 (by decide)) dX9_init_147 ?_
  refine Go_aload_n 0 rfl rfl dX9_init_150 ?_
  refine Go_bipush ⟨by decide, by unfold in32; omega⟩ dX9_init_151 ?_
  refine Go_nI (c := 106) (k := 122) (n := 10) sh_122 rfl (by decide) (by decide) (by decide) (by decide) dX9_init_153 ?_
  refine Go_putFS fpX9_60 rfl (tk_at sh_106 (by decide)) dX9_init_155 ?_
  refine Go_aload_n 0 rfl rfl dX9_init_158 ?_
  refine Go_sipush ⟨by decide, by unfold in32; omega⟩ dX9_init_159 ?_
  refine Go_nI (c := 106) (k := 123) (n := 144) sh_123 rfl (by decide) (by decide) (by decide) (by decide) dX9_init_162 ?_
  refine Go_putFS fpX9_63 rfl (tk_at sh_106 (by decide)) dX9_init_164 ?_
  refine Go_aload_n 0 rfl rfl dX9_init_167 ?_
  refine Go_sipush ⟨by decide, by unfold in32; omega⟩ dX9_init_168 ?_
  refine Go_nI (c := 106) (k := 124) (n := 144) sh_124 rfl (by decide) (by decide) (by decide) (by decide) dX9_init_171 ?_
  refine Go_putFS fpX9_66 rfl (tk_at sh_106 (by decide)) dX9_init_173 ?_
  refine Go_aload_n 0 rfl rfl dX9_init_176 ?_
  refine Go_bipush ⟨by decide, by unfold in32; omega⟩ dX9_init_177 ?_
  refine Go_nJ (c := 106) (k := 125) (n := 10) sh_125 rfl (by decide) (by decide) (by decide) (by decide) dX9_init_179 ?_
  refine Go_putFS fpX9_69 rfl (tk_at sh_106 (by decide)) dX9_init_181 ?_
  exact Go_ret rfl dX9_init_184
