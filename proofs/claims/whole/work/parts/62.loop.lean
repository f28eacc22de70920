set_option maxHeartbeats 4000000 in
set_option maxRecDepth 100000 in
theorem law_end {D : va_G} {ca : Nat → ClassId} {L : Nat} {xs : Nat → Int} {i : Nat} (hL : L ≤ 2560) (hi : ¬ i + 5 ≤ L) {M : gMem} : Go D ca (some (L, xs)) room_1 mL_law 18 [(0, gS), (1, gR 0), (2, gR 106), (3, gI (i : Int))] [] SH M [gI 1] SH M := by
  refine Go_iload_n 3 rfl rfl dL_law_18 ?_
  refine Go_sload_n 0 rfl rfl dL_law_19 ?_
  refine Go_slen rfl dL_law_20 ?_
  refine Go_iconst (by unfold in32; omega) dL_law_21 ?_
  refine Go_isubc (by omega) dL_law_22 ?_
  refine Go_icmp_gt dL_law_23 rfl (fun h23 => ?_) (fun h23 => ?_)
  · skip
    refine Go_iconst (by unfold in32; omega) dL_law_1164 ?_
    exact Go_ret rfl dL_law_1165
  · skip
    exfalso; omega
set_option maxHeartbeats 4000000 in
set_option maxRecDepth 100000 in
theorem law_head {D : va_G} {ca : Nat → ClassId} {L : Nat} {xs : Nat → Int} {i : Nat} (hL : L ≤ 2560) (hi : i + 5 ≤ L) {M M' : gMem} (hG : Go D ca (some (L, xs)) room_1 mL_law 32 [(0, gS), (1, gR 0), (2, gR 106), (3, gI (i : Int))] [gI (a32 (xs i) 63)] SH M [gI 1] SH M') : Go D ca (some (L, xs)) room_1 mL_law 18 [(0, gS), (1, gR 0), (2, gR 106), (3, gI (i : Int))] [] SH M [gI 1] SH M' := by
  refine Go_iload_n 3 rfl rfl dL_law_18 ?_
  refine Go_sload_n 0 rfl rfl dL_law_19 ?_
  refine Go_slen rfl dL_law_20 ?_
  refine Go_iconst (by unfold in32; omega) dL_law_21 ?_
  refine Go_isubc (by omega) dL_law_22 ?_
  refine Go_icmp_gt dL_law_23 rfl (fun h23 => ?_) (fun h23 => ?_)
  · skip
    exfalso; omega
  · skip
    refine Go_sload_n 0 rfl rfl dL_law_26 ?_
    refine Go_iload_n 3 rfl rfl dL_law_27 ?_
    refine Go_sld i rfl rfl (by omega) dL_law_28 ?_
    refine Go_bipush ⟨by decide, by unfold in32; omega⟩ dL_law_29 ?_
    refine Go_iand dL_law_31 ?_
    exact hG
set_option maxHeartbeats 4000000 in
set_option maxRecDepth 100000 in
theorem law_tail {D : va_G} {ca : Nat → ClassId} {L : Nat} {xs : Nat → Int} {i : Nat} (hL : L ≤ 2560) (hi : i + 5 ≤ L) {M M' : gMem} (hG : Go D ca (some (L, xs)) room_1 mL_law 18 [(0, gS), (1, gR 0), (2, gR 106), (3, gI ((i + 5 : Nat) : Int))] [] SH M [gI 1] SH M') : Go D ca (some (L, xs)) room_1 mL_law 1158 [(0, gS), (1, gR 0), (2, gR 106), (3, gI (i : Int))] [] SH M [gI 1] SH M' := by
  refine Go_iincn i 5 rfl rfl (by omega) 3 (ls' := [(3, gI _), (0, gS), (1, gR 0), (2, gR 106)]) rfl dL_law_1158 (by decide) rfl ?_
  refine Go_goto dL_law_1161 rfl ?_
  refine Go_pick [1, 2, 3, 0] (ls' := [(0, gS), (1, gR 0), (2, gR 106), (3, gI _)]) rfl ?_
  exact hG
set_option maxHeartbeats 4000000 in
set_option maxRecDepth 100000 in
theorem law_loop {D : va_G} {ca : Nat → ClassId} {L : Nat} {xs : Nat → Int} (hL : L ≤ 2560) (hxs : ∀ j, in32 (xs j)) : ∀ (j i : Nat) (M : gMem), L < i + 5 + j → Inv M → ∃ M', Go D ca (some (L, xs)) room_1 mL_law 18 [(0, gS), (1, gR 0), (2, gR 106), (3, gI (i : Int))] [] SH M [gI 1] SH M' := by
  intro j
  induction j with
  | zero =>
    intro i M hj hI
    exact ⟨M, law_end hL (by omega)⟩
  | succ j ih =>
    intro i M hj hI
    by_cases hi : i + 5 ≤ L
    · obtain ⟨nv, np, n, k, hX⟩ := hI
      by_cases hc : a32 (xs i) 63 < 0 ∨ 35 < a32 (xs i) 63
      · obtain ⟨M', hG⟩ := ih (i + 5) M (by omega) ⟨nv, np, n, k, hX⟩
        exact ⟨M', law_head hL hi (Go_tableOut (tgt := 1158) dL_law_32 hc rfl (law_tail hL hi hG))⟩
      · rcases (show a32 (xs i) 63 = 0 ∨ a32 (xs i) 63 = 1 ∨ a32 (xs i) 63 = 2 ∨ a32 (xs i) 63 = 3 ∨ a32 (xs i) 63 = 4 ∨ a32 (xs i) 63 = 5 ∨ a32 (xs i) 63 = 6 ∨ a32 (xs i) 63 = 7 ∨ a32 (xs i) 63 = 8 ∨ a32 (xs i) 63 = 9 ∨ a32 (xs i) 63 = 10 ∨ a32 (xs i) 63 = 11 ∨ a32 (xs i) 63 = 12 ∨ a32 (xs i) 63 = 13 ∨ a32 (xs i) 63 = 14 ∨ a32 (xs i) 63 = 15 ∨ a32 (xs i) 63 = 16 ∨ a32 (xs i) 63 = 17 ∨ a32 (xs i) 63 = 18 ∨ a32 (xs i) 63 = 19 ∨ a32 (xs i) 63 = 20 ∨ a32 (xs i) 63 = 21 ∨ a32 (xs i) 63 = 22 ∨ a32 (xs i) 63 = 23 ∨ a32 (xs i) 63 = 24 ∨ a32 (xs i) 63 = 25 ∨ a32 (xs i) 63 = 26 ∨ a32 (xs i) 63 = 27 ∨ a32 (xs i) 63 = 28 ∨ a32 (xs i) 63 = 29 ∨ a32 (xs i) 63 = 30 ∨ a32 (xs i) 63 = 31 ∨ a32 (xs i) 63 = 32 ∨ a32 (xs i) 63 = 33 ∨ a32 (xs i) 63 = 34 ∨ a32 (xs i) 63 = 35 by omega) with ez | ez | ez | ez | ez | ez | ez | ez | ez | ez | ez | ez | ez | ez | ez | ez | ez | ez | ez | ez | ez | ez | ez | ez | ez | ez | ez | ez | ez | ez | ez | ez | ez | ez | ez | ez
        · obtain ⟨r, M1, M2, F8, F9, hI2⟩ := st_village hX (xs (i + 1)) (D := D) (ca := ca)
          obtain ⟨M', hG⟩ := ih (i + 5) M2 (by omega) hI2
          exact ⟨M', law_head hL hi (by rw [ez]; exact Go_tableIn (off := 160) (tgt := 192) dL_law_32 (by decide) (by decide) rfl rfl (law_0 hL hi F8 F9 (law_tail hL hi hG)))⟩
        · obtain ⟨r, M1, M2, F8, F9, hI2⟩ := st_loaves hX (xs (i + 1)) (xs (i + 2)) (D := D) (ca := ca)
          obtain ⟨M', hG⟩ := ih (i + 5) M2 (by omega) hI2
          exact ⟨M', law_head hL hi (by rw [ez]; exact Go_tableIn (off := 183) (tgt := 215) dL_law_32 (by decide) (by decide) rfl rfl (law_1 hL hi F8 F9 (law_tail hL hi hG)))⟩
        · obtain ⟨r, M1, M2, F8, F9, hI2⟩ := st_road hX (xs (i + 1)) (xs (i + 2)) (xs (i + 3)) (D := D) (ca := ca)
          obtain ⟨M', hG⟩ := ih (i + 5) M2 (by omega) hI2
          exact ⟨M', law_head hL hi (by rw [ez]; exact Go_tableIn (off := 216) (tgt := 248) dL_law_32 (by decide) (by decide) rfl rfl (law_2 hL hi F8 F9 (law_tail hL hi hG)))⟩
        · obtain ⟨r, M1, M2, F8, F9, hI2⟩ := st_place hX (xs (i + 1)) (xs (i + 2)) (xs (i + 3)) (D := D) (ca := ca)
          obtain ⟨M', hG⟩ := ih (i + 5) M2 (by omega) hI2
          exact ⟨M', law_head hL hi (by rw [ez]; exact Go_tableIn (off := 259) (tgt := 291) dL_law_32 (by decide) (by decide) rfl rfl (law_3 hL hi F8 F9 (law_tail hL hi hG)))⟩
        · obtain ⟨r, M1, M2, F8, F9, hI2⟩ := st_reach hX (xs (i + 1)) (xs (i + 2)) (D := D) (ca := ca)
          obtain ⟨M', hG⟩ := ih (i + 5) M2 (by omega) hI2
          exact ⟨M', law_head hL hi (by rw [ez]; exact Go_tableIn (off := 302) (tgt := 334) dL_law_32 (by decide) (by decide) rfl rfl (law_4 hL hi F8 F9 (law_tail hL hi hG)))⟩
        · obtain ⟨r, M1, M2, F8, F9, hI2⟩ := st_number hX (xs (i + 1)) (D := D) (ca := ca)
          obtain ⟨M', hG⟩ := ih (i + 5) M2 (by omega) hI2
          exact ⟨M', law_head hL hi (by rw [ez]; exact Go_tableIn (off := 335) (tgt := 367) dL_law_32 (by decide) (by decide) rfl rfl (law_5 hL hi F8 F9 (law_tail hL hi hG)))⟩
        · obtain ⟨r, M1, M2, F8, F9, hI2⟩ := st_map hX (xs (i + 1)) (xs (i + 2)) (xs (i + 3)) (D := D) (ca := ca)
          obtain ⟨M', hG⟩ := ih (i + 5) M2 (by omega) hI2
          exact ⟨M', law_head hL hi (by rw [ez]; exact Go_tableIn (off := 358) (tgt := 390) dL_law_32 (by decide) (by decide) rfl rfl (law_6 hL hi F8 F9 (law_tail hL hi hG)))⟩
        · obtain ⟨r, M1, M2, F8, F9, hI2⟩ := st_lay hX (xs (i + 1)) (xs (i + 2)) (r64 (l64 (xs (i + 3)) 32) (a64 (xs (i + 4)) 4294967295)) (D := D) (ca := ca)
          obtain ⟨M', hG⟩ := ih (i + 5) M2 (by omega) hI2
          exact ⟨M', law_head hL hi (by rw [ez]; exact Go_tableIn (off := 401) (tgt := 433) dL_law_32 (by decide) (by decide) rfl rfl (law_7 hL hi F8 F9 (law_tail hL hi hG)))⟩
        · obtain ⟨r, M1, M2, F8, F9, hI2⟩ := st_draw hX (xs (i + 1)) (xs (i + 2)) (xs (i + 3)) (hxs _) (D := D) (ca := ca)
          obtain ⟨M', hG⟩ := ih (i + 5) M2 (by omega) hI2
          exact ⟨M', law_head hL hi (by rw [ez]; exact Go_tableIn (off := 474) (tgt := 506) dL_law_32 (by decide) (by decide) rfl rfl (law_8 hL hi F8 F9 (law_tail hL hi hG)))⟩
        · obtain ⟨r, M1, M2, F8, F9, hI2⟩ := st_apart hX (xs (i + 1)) (xs (i + 2)) (D := D) (ca := ca)
          obtain ⟨M', hG⟩ := ih (i + 5) M2 (by omega) hI2
          exact ⟨M', law_head hL hi (by rw [ez]; exact Go_tableIn (off := 517) (tgt := 549) dL_law_32 (by decide) (by decide) rfl rfl (law_9 hL hi F8 F9 (law_tail hL hi hG)))⟩
        · obtain ⟨r, M1, M2, F8, F9, hI2⟩ := st_way hX (xs (i + 1)) (xs (i + 2)) (xs (i + 3)) (hxs _) (D := D) (ca := ca)
          obtain ⟨M', hG⟩ := ih (i + 5) M2 (by omega) hI2
          exact ⟨M', law_head hL hi (by rw [ez]; exact Go_tableIn (off := 550) (tgt := 582) dL_law_32 (by decide) (by decide) rfl rfl (law_10 hL hi F8 F9 (law_tail hL hi hG)))⟩
        · obtain ⟨r, M1, M2, F8, F9, hI2⟩ := st_allowed hX (xs (i + 1)) (hxs _) (D := D) (ca := ca)
          obtain ⟨M', hG⟩ := ih (i + 5) M2 (by omega) hI2
          exact ⟨M', law_head hL hi (by rw [ez]; exact Go_tableIn (off := 593) (tgt := 625) dL_law_32 (by decide) (by decide) rfl rfl (law_11 hL hi F8 F9 (law_tail hL hi hG)))⟩
        · obtain ⟨r, M1, M2, F8, F9, hI2⟩ := st_cost hX (xs (i + 1)) (hxs _) (D := D) (ca := ca)
          obtain ⟨M', hG⟩ := ih (i + 5) M2 (by omega) hI2
          exact ⟨M', law_head hL hi (by rw [ez]; exact Go_tableIn (off := 616) (tgt := 648) dL_law_32 (by decide) (by decide) rfl rfl (law_12 hL hi F8 F9 (law_tail hL hi hG)))⟩
        · obtain ⟨r, M1, M2, F8, F9, hI2⟩ := st_served hX (xs (i + 1)) (xs (i + 2)) (hxs _) (D := D) (ca := ca)
          obtain ⟨M', hG⟩ := ih (i + 5) M2 (by omega) hI2
          exact ⟨M', law_head hL hi (by rw [ez]; exact Go_tableIn (off := 640) (tgt := 672) dL_law_32 (by decide) (by decide) rfl rfl (law_13 hL hi F8 F9 (law_tail hL hi hG)))⟩
        · obtain ⟨r, M1, M2, F8, F9, hI2⟩ := st_share hX (xs (i + 1)) (xs (i + 2)) (xs (i + 3)) (hxs _) (D := D) (ca := ca)
          obtain ⟨M', hG⟩ := ih (i + 5) M2 (by omega) hI2
          exact ⟨M', law_head hL hi (by rw [ez]; exact Go_tableIn (off := 673) (tgt := 705) dL_law_32 (by decide) (by decide) rfl rfl (law_14 hL hi F8 F9 (law_tail hL hi hG)))⟩
        · obtain ⟨r, M1, M2, F8, F9, hI2⟩ := st_least hX (D := D) (ca := ca)
          obtain ⟨M', hG⟩ := ih (i + 5) M2 (by omega) hI2
          exact ⟨M', law_head hL hi (by rw [ez]; exact Go_tableIn (off := 716) (tgt := 748) dL_law_32 (by decide) (by decide) rfl rfl (law_15 hL hi F8 F9 (law_tail hL hi hG)))⟩
        · obtain ⟨r, M1, M2, F8, F9, hI2⟩ := st_best hX (D := D) (ca := ca)
          obtain ⟨M', hG⟩ := ih (i + 5) M2 (by omega) hI2
          exact ⟨M', law_head hL hi (by rw [ez]; exact Go_tableIn (off := 730) (tgt := 762) dL_law_32 (by decide) (by decide) rfl rfl (law_16 hL hi F8 F9 (law_tail hL hi hG)))⟩
        · obtain ⟨r, M1, M2, F8, F9, hI2⟩ := st_many hX (D := D) (ca := ca)
          obtain ⟨M', hG⟩ := ih (i + 5) M2 (by omega) hI2
          exact ⟨M', law_head hL hi (by rw [ez]; exact Go_tableIn (off := 743) (tgt := 775) dL_law_32 (by decide) (by decide) rfl rfl (law_17 hL hi F8 F9 (law_tail hL hi hG)))⟩
        · obtain ⟨r, M1, M2, F8, F9, hI2⟩ := st_every hX (xs (i + 1)) (D := D) (ca := ca)
          obtain ⟨M', hG⟩ := ih (i + 5) M2 (by omega) hI2
          exact ⟨M', law_head hL hi (by rw [ez]; exact Go_tableIn (off := 756) (tgt := 788) dL_law_32 (by decide) (by decide) rfl rfl (law_18 hL hi F8 F9 (law_tail hL hi hG)))⟩
        · obtain ⟨r, M1, M2, F8, F9, hI2⟩ := st_second hX (xs (i + 1)) (hxs _) (D := D) (ca := ca)
          obtain ⟨M', hG⟩ := ih (i + 5) M2 (by omega) hI2
          exact ⟨M', law_head hL hi (by rw [ez]; exact Go_tableIn (off := 779) (tgt := 811) dL_law_32 (by decide) (by decide) rfl rfl (law_19 hL hi F8 F9 (law_tail hL hi hG)))⟩
        · obtain ⟨r, M1, M2, F8, F9, hI2⟩ := st_lose hX (xs (i + 1)) (D := D) (ca := ca)
          obtain ⟨M', hG⟩ := ih (i + 5) M2 (by omega) hI2
          exact ⟨M', law_head hL hi (by rw [ez]; exact Go_tableIn (off := 802) (tgt := 834) dL_law_32 (by decide) (by decide) rfl rfl (law_20 hL hi F8 F9 (law_tail hL hi hG)))⟩
        · obtain ⟨r, M1, M2, F8, F9, hI2⟩ := st_worst hX (D := D) (ca := ca)
          obtain ⟨M', hG⟩ := ih (i + 5) M2 (by omega) hI2
          exact ⟨M', law_head hL hi (by rw [ez]; exact Go_tableIn (off := 826) (tgt := 858) dL_law_32 (by decide) (by decide) rfl rfl (law_21 hL hi F8 F9 (law_tail hL hi hG)))⟩
        · obtain ⟨r, M1, M2, F8, F9, hI2⟩ := st_farthest hX (D := D) (ca := ca)
          obtain ⟨M', hG⟩ := ih (i + 5) M2 (by omega) hI2
          exact ⟨M', law_head hL hi (by rw [ez]; exact Go_tableIn (off := 839) (tgt := 871) dL_law_32 (by decide) (by decide) rfl rfl (law_22 hL hi F8 F9 (law_tail hL hi hG)))⟩
        · obtain ⟨r, M1, M2, F8, F9, hI2⟩ := st_nearest hX (D := D) (ca := ca)
          obtain ⟨M', hG⟩ := ih (i + 5) M2 (by omega) hI2
          exact ⟨M', law_head hL hi (by rw [ez]; exact Go_tableIn (off := 852) (tgt := 884) dL_law_32 (by decide) (by decide) rfl rfl (law_23 hL hi F8 F9 (law_tail hL hi hG)))⟩
        · obtain ⟨r, M1, M2, F8, F9, hI2⟩ := st_added hX (D := D) (ca := ca)
          obtain ⟨M', hG⟩ := ih (i + 5) M2 (by omega) hI2
          exact ⟨M', law_head hL hi (by rw [ez]; exact Go_tableIn (off := 865) (tgt := 897) dL_law_32 (by decide) (by decide) rfl rfl (law_24 hL hi F8 F9 (law_tail hL hi hG)))⟩
        · obtain ⟨r, M1, M2, F8, F9, hI2⟩ := st_changed hX (xs (i + 1)) (hxs _) (D := D) (ca := ca)
          obtain ⟨M', hG⟩ := ih (i + 5) M2 (by omega) hI2
          exact ⟨M', law_head hL hi (by rw [ez]; exact Go_tableIn (off := 878) (tgt := 910) dL_law_32 (by decide) (by decide) rfl rfl (law_25 hL hi F8 F9 (law_tail hL hi hG)))⟩
        · obtain ⟨r, M1, M2, F8, F9, hI2⟩ := st_moves hX (D := D) (ca := ca)
          obtain ⟨M', hG⟩ := ih (i + 5) M2 (by omega) hI2
          exact ⟨M', law_head hL hi (by rw [ez]; exact Go_tableIn (off := 901) (tgt := 933) dL_law_32 (by decide) (by decide) rfl rfl (law_26 hL hi F8 F9 (law_tail hL hi hG)))⟩
        · obtain ⟨r, M1, M2, F8, F9, hI2⟩ := st_price hX (xs (i + 1)) (xs (i + 2)) (D := D) (ca := ca)
          obtain ⟨M', hG⟩ := ih (i + 5) M2 (by omega) hI2
          exact ⟨M', law_head hL hi (by rw [ez]; exact Go_tableIn (off := 914) (tgt := 946) dL_law_32 (by decide) (by decide) rfl rfl (law_27 hL hi F8 F9 (law_tail hL hi hG)))⟩
        · obtain ⟨r, M1, M2, F8, F9, hI2⟩ := st_priced hX (xs (i + 1)) (D := D) (ca := ca)
          obtain ⟨M', hG⟩ := ih (i + 5) M2 (by omega) hI2
          exact ⟨M', law_head hL hi (by rw [ez]; exact Go_tableIn (off := 947) (tgt := 979) dL_law_32 (by decide) (by decide) rfl rfl (law_28 hL hi F8 F9 (law_tail hL hi hG)))⟩
        · obtain ⟨r, M1, M2, F8, F9, hI2⟩ := st_gives hX (xs (i + 1)) (xs (i + 2)) (D := D) (ca := ca)
          obtain ⟨M', hG⟩ := ih (i + 5) M2 (by omega) hI2
          exact ⟨M', law_head hL hi (by rw [ez]; exact Go_tableIn (off := 971) (tgt := 1003) dL_law_32 (by decide) (by decide) rfl rfl (law_29 hL hi F8 F9 (law_tail hL hi hG)))⟩
        · obtain ⟨r, M1, M2, F8, F9, hI2⟩ := st_worth hX (xs (i + 1)) (D := D) (ca := ca)
          obtain ⟨M', hG⟩ := ih (i + 5) M2 (by omega) hI2
          exact ⟨M', law_head hL hi (by rw [ez]; exact Go_tableIn (off := 1005) (tgt := 1037) dL_law_32 (by decide) (by decide) rfl rfl (law_30 hL hi F8 F9 (law_tail hL hi hG)))⟩
        · obtain ⟨r, M1, M2, F8, F9, hI2⟩ := st_bound hX (D := D) (ca := ca)
          obtain ⟨M', hG⟩ := ih (i + 5) M2 (by omega) hI2
          exact ⟨M', law_head hL hi (by rw [ez]; exact Go_tableIn (off := 1029) (tgt := 1061) dL_law_32 (by decide) (by decide) rfl rfl (law_31 hL hi F8 F9 (law_tail hL hi hG)))⟩
        · obtain ⟨r, M1, M2, F8, F9, hI2⟩ := st_climb hX (xs (i + 1)) (xs (i + 2)) (D := D) (ca := ca)
          obtain ⟨M', hG⟩ := ih (i + 5) M2 (by omega) hI2
          exact ⟨M', law_head hL hi (by rw [ez]; exact Go_tableIn (off := 1043) (tgt := 1075) dL_law_32 (by decide) (by decide) rfl rfl (law_32 hL hi F8 F9 (law_tail hL hi hG)))⟩
        · obtain ⟨r, M1, M2, F8, F9, hI2⟩ := st_highest hX (D := D) (ca := ca)
          obtain ⟨M', hG⟩ := ih (i + 5) M2 (by omega) hI2
          exact ⟨M', law_head hL hi (by rw [ez]; exact Go_tableIn (off := 1076) (tgt := 1108) dL_law_32 (by decide) (by decide) rfl rfl (law_33 hL hi F8 F9 (law_tail hL hi hG)))⟩
        · obtain ⟨r, M1, M2, F8, F9, hI2⟩ := st_undo hX (D := D) (ca := ca)
          obtain ⟨M', hG⟩ := ih (i + 5) M2 (by omega) hI2
          exact ⟨M', law_head hL hi (by rw [ez]; exact Go_tableIn (off := 1090) (tgt := 1122) dL_law_32 (by decide) (by decide) rfl rfl (law_34 hL hi F8 F9 (law_tail hL hi hG)))⟩
        · obtain ⟨r, M1, M2, F8, F9, hI2⟩ := st_count hX (xs (i + 1)) (D := D) (ca := ca)
          obtain ⟨M', hG⟩ := ih (i + 5) M2 (by omega) hI2
          exact ⟨M', law_head hL hi (by rw [ez]; exact Go_tableIn (off := 1103) (tgt := 1135) dL_law_32 (by decide) (by decide) rfl rfl (law_35 hL hi F8 F9 (law_tail hL hi hG)))⟩
    · exact ⟨M, law_end hL hi⟩
set_option maxHeartbeats 4000000 in
set_option maxRecDepth 100000 in
theorem law_go {D : va_G} {ca : Nat → ClassId} {L : Nat} {xs : Nat → Int} (hL : L ≤ 2560) (hxs : ∀ j, in32 (xs j)) : ∃ M', Go D ca (some (L, xs)) room_1 mL_law 0 [(0, gS)] [] (SH.take 0) gZ [gI 1] (SH.take 126) M' := by
  obtain ⟨M', hG⟩ := law_loop (D := D) (ca := ca) hL hxs (L + 1) 0 M0 (by omega) Inv_M0
  refine ⟨M', ?_⟩
  refine Go_nO0 (k := 0) ncL_7 sh_0 (by decide) (by decide) dL_law_0 ?_
  refine Go_dupR dL_law_3 ?_
  refine Go_callI iX8 rfl cwL_9 imX8_init ⟨Nat.le_of_ble_eq_true rfl, Nat.le_of_ble_eq_true rfl⟩ rfl (Nat.le_of_ble_eq_true rfl) (tk_sh (by decide) (by decide) (by decide)) dL_law_4 ?_
  refine Go_astore_n (x := 0) (ls' := [(1, gR 0), (0, gS)]) rfl dL_law_7 (by decide) rfl ?_
  refine Go_nO0 (k := 106) ncL_10 sh_106 (by decide) (by decide) dL_law_8 ?_
  refine Go_dupR dL_law_11 ?_
  refine Go_callI iX9 rfl cwL_12 imX9_init ⟨Nat.le_of_ble_eq_true rfl, Nat.le_of_ble_eq_true rfl⟩ rfl (Nat.le_of_ble_eq_true rfl) (tk_sh (by decide) (by decide) (by decide)) dL_law_12 ?_
  refine Go_astore_n (x := 106) (ls' := [(2, gR 106), (1, gR 0), (0, gS)]) rfl dL_law_15 (by decide) rfl ?_
  refine Go_iconst (by unfold in32; omega) dL_law_16 ?_
  refine Go_istore_n (ls' := [(3, gI _), (2, gR 106), (1, gR 0), (0, gS)]) rfl dL_law_17 (by decide) rfl ?_
  refine Go_pick [3, 2, 1, 0] (ls' := [(0, gS), (1, gR 0), (2, gR 106), (3, gI _)]) rfl ?_
  have e126 : SH.take 126 = SH := rfl
  rw [e126]
  exact hG
