/-! THE LAW'S LOOP -/
theorem lw_gtT {L c : Nat} (hL : L ≤ 3584) (h : L < 7 * c + 7) (hc : 7 * c ≤ L) : nI L - 7 < nI (7 * c) := by
  rw [Int32.lt_iff_toInt_lt, show (nI L - 7).toInt = (L : Int) - 7 from pk_sub_toInt (b := 7) (by omega) (by decide), nI_toInt (by omega)]
  omega
theorem lw_gtF {L c : Nat} (hL : L ≤ 3584) (h : 7 * c + 7 ≤ L) : ¬ (nI L - 7 < nI (7 * c)) := by
  rw [Int32.lt_iff_toInt_lt, show (nI L - 7).toInt = (L : Int) - 7 from pk_sub_toInt (b := 7) (by omega) (by decide), nI_toInt (by omega)]
  omega

set_option maxRecDepth 4000 in
theorem lL_loop {L : Nat} {xs : Nat → Int32} (hL : L ≤ 3584) : ∀ (n c : Nat) (S : St) (h : Hp), 7 * c + 7 * n ≤ L → L < 7 * c + 7 * n + 7 → IV L xs S h → am_n h ≤ 100 + 2 * c → am_z h ≤ 3000 + 15 * c → WP kL_law (Res 7) (fun r h => r = some (.int 1) ∧ am_n h ≤ 600001 ∧ am_z h ≤ 7302250) 18 [some (.ref 0), some (.ref 1), some (.ref 10), some (.int (nI (7 * c)))] [] h := by
  intro n
  induction n with
  | zero =>
    intro c S h h1 h2 hI hn hz
    have hpos : 0 < am_n h := hI.2.1.pos
    have hSc := hI.2.2.2.2.2
    refine wp_iload_n eL_law_18 rfl ?_
    refine wp_aload_n eL_law_19 rfl ?_
    refine wp_alen (v := nI L) eL_law_20 hpos (by rw [hSc.1]; decide) (by rw [hSc.1]; decide) (by rw [hSc.2.1]; rfl) ?_
    refine wp_bipush (v := 7) eL_law_21 rfl ?_
    refine wp_isub eL_law_23 ?_
    refine wp_icmpT eL_law_24 (show ((nI L) - 7) < (nI (7 * c)) from (lw_gtT hL (by omega) (by omega))) ?_
    refine wp_iconst (v := 1) eL_law_885 rfl ?_
    exact wp_zret eL_law_886 (Or.inr rfl) ⟨rfl, by omega, by omega⟩
  | succ n ih =>
    intro c S h h1 h2 hI hn hz
    have hpos : 0 < am_n h := hI.2.1.pos
    have hSc := hI.2.2.2.2.2
    have kx : ∀ (S' : St) (h2 : Hp), IV L xs S' h2 → am_n h2 ≤ am_n h + 2 → am_z h2 ≤ am_z h + 15 → WP kL_law (Res 7) (fun r h => r = some (.int 1) ∧ am_n h ≤ 600001 ∧ am_z h ≤ 7302250) 879 [some (.ref 0), some (.ref 1), some (.ref 10), some (.int (nI (7 * c)))] [] h2 := by
      intro S' h2 hI2 hn2 hz2
      refine wp_iinc (v := nI (7 * (c + 1))) (ls' := [some (.ref 0), some (.ref 1), some (.ref 10), some (.int (nI (7 * (c + 1))))]) eL_law_879 rfl (nI_add (7 * c) 7) rfl ?_
      refine wp_goto eL_law_882 ?_
      exact ih (c + 1) S' h2 (by omega) (by omega) hI2 (by omega) (by omega)
    refine wp_iload_n eL_law_18 rfl ?_
    refine wp_aload_n eL_law_19 rfl ?_
    refine wp_alen (v := nI L) eL_law_20 hpos (by rw [hSc.1]; decide) (by rw [hSc.1]; decide) (by rw [hSc.2.1]; rfl) ?_
    refine wp_bipush (v := 7) eL_law_21 rfl ?_
    refine wp_isub eL_law_23 ?_
    refine wp_icmpF eL_law_24 (show ¬ (((nI L) - 7) < (nI (7 * c))) from (lw_gtF hL (by omega))) ?_
    refine wp_aload_n eL_law_27 rfl ?_
    refine wp_iload_n eL_law_28 rfl ?_
    refine wp_sc (t := 7 * c) eL_law_29 hSc hpos (by omega) hL ?_
    refine wp_bipush (v := 31) eL_law_30 rfl ?_
    refine wp_iand eL_law_32 ?_
    by_cases c_33_0 : (xs (7 * c)) &&& 31 = 0
    · refine wp_switch (t := 140) eL_law_33 (am_swI (off := 107) (by rw [c_33_0]; decide) (by rw [c_33_0]; decide) (by rw [c_33_0]; rfl) rfl) ?_
      exact lL_clock hI hL (7 * c) (by omega) kx
    by_cases c_33_1 : (xs (7 * c)) &&& 31 = 1
    · refine wp_switch (t := 163) eL_law_33 (am_swI (off := 130) (by rw [c_33_1]; decide) (by rw [c_33_1]; decide) (by rw [c_33_1]; rfl) rfl) ?_
      exact lL_hours hI hL (7 * c) (by omega) kx
    by_cases c_33_2 : (xs (7 * c)) &&& 31 = 2
    · refine wp_switch (t := 196) eL_law_33 (am_swI (off := 163) (by rw [c_33_2]; decide) (by rw [c_33_2]; decide) (by rw [c_33_2]; rfl) rfl) ?_
      exact lL_prices hI hL (7 * c) (by omega) kx
    by_cases c_33_3 : (xs (7 * c)) &&& 31 = 3
    · refine wp_switch (t := 259) eL_law_33 (am_swI (off := 226) (by rw [c_33_3]; decide) (by rw [c_33_3]; decide) (by rw [c_33_3]; rfl) rfl) ?_
      exact lL_shelf hI hL (7 * c) (by omega) kx
    by_cases c_33_4 : (xs (7 * c)) &&& 31 = 4
    · refine wp_switch (t := 328) eL_law_33 (am_swI (off := 295) (by rw [c_33_4]; decide) (by rw [c_33_4]; decide) (by rw [c_33_4]; rfl) rfl) ?_
      exact lL_put hI hL (7 * c) (by omega) kx
    by_cases c_33_5 : (xs (7 * c)) &&& 31 = 5
    · refine wp_switch (t := 435) eL_law_33 (am_swI (off := 402) (by rw [c_33_5]; decide) (by rw [c_33_5]; decide) (by rw [c_33_5]; rfl) rfl) ?_
      exact lL_fee hI hL (7 * c) (by omega) kx
    by_cases c_33_6 : (xs (7 * c)) &&& 31 = 6
    · refine wp_switch (t := 458) eL_law_33 (am_swI (off := 425) (by rw [c_33_6]; decide) (by rw [c_33_6]; decide) (by rw [c_33_6]; rfl) rfl) ?_
      exact lL_give hI hL (7 * c) (by omega) kx
    by_cases c_33_7 : (xs (7 * c)) &&& 31 = 7
    · refine wp_switch (t := 481) eL_law_33 (am_swI (off := 448) (by rw [c_33_7]; decide) (by rw [c_33_7]; decide) (by rw [c_33_7]; rfl) rfl) ?_
      exact lL_claim hI hL (7 * c) (by omega) kx
    by_cases c_33_8 : (xs (7 * c)) &&& 31 = 8
    · refine wp_switch (t := 494) eL_law_33 (am_swI (off := 461) (by rw [c_33_8]; decide) (by rw [c_33_8]; decide) (by rw [c_33_8]; rfl) rfl) ?_
      exact lL_mark hI hL (7 * c) (by omega) kx
    by_cases c_33_9 : (xs (7 * c)) &&& 31 = 9
    · refine wp_switch (t := 537) eL_law_33 (am_swI (off := 504) (by rw [c_33_9]; decide) (by rw [c_33_9]; decide) (by rw [c_33_9]; rfl) rfl) ?_
      exact lL_means hI hL (7 * c) (by omega) kx
    by_cases c_33_10 : (xs (7 * c)) &&& 31 = 10
    · refine wp_switch (t := 560) eL_law_33 (am_swI (off := 527) (by rw [c_33_10]; decide) (by rw [c_33_10]; decide) (by rw [c_33_10]; rfl) rfl) ?_
      exact lL_ask hI hL (7 * c) (by omega) kx
    by_cases c_33_11 : (xs (7 * c)) &&& 31 = 11
    · refine wp_switch (t := 583) eL_law_33 (am_swI (off := 550) (by rw [c_33_11]; decide) (by rw [c_33_11]; decide) (by rw [c_33_11]; rfl) rfl) ?_
      exact lL_settle hI hL (7 * c) (by omega) kx
    by_cases c_33_12 : (xs (7 * c)) &&& 31 = 12
    · refine wp_switch (t := 606) eL_law_33 (am_swI (off := 573) (by rw [c_33_12]; decide) (by rw [c_33_12]; decide) (by rw [c_33_12]; rfl) rfl) ?_
      exact lL_misfit hI hL (7 * c) (by omega) kx
    by_cases c_33_13 : (xs (7 * c)) &&& 31 = 13
    · refine wp_switch (t := 619) eL_law_33 (am_swI (off := 586) (by rw [c_33_13]; decide) (by rw [c_33_13]; decide) (by rw [c_33_13]; rfl) rfl) ?_
      exact lL_tidy hI hL (7 * c) (by omega) kx
    by_cases c_33_14 : (xs (7 * c)) &&& 31 = 14
    · refine wp_switch (t := 642) eL_law_33 (am_swI (off := 609) (by rw [c_33_14]; decide) (by rw [c_33_14]; decide) (by rw [c_33_14]; rfl) rfl) ?_
      exact lL_least hI hL (7 * c) (by omega) kx
    by_cases c_33_15 : (xs (7 * c)) &&& 31 = 15
    · refine wp_switch (t := 655) eL_law_33 (am_swI (off := 622) (by rw [c_33_15]; decide) (by rw [c_33_15]; decide) (by rw [c_33_15]; rfl) rfl) ?_
      exact lL_sell hI hL (7 * c) (by omega) kx
    by_cases c_33_16 : (xs (7 * c)) &&& 31 = 16
    · refine wp_switch (t := 688) eL_law_33 (am_swI (off := 655) (by rw [c_33_16]; decide) (by rw [c_33_16]; decide) (by rw [c_33_16]; rfl) rfl) ?_
      exact lL_pay hI hL (7 * c) (by omega) kx
    by_cases c_33_17 : (xs (7 * c)) &&& 31 = 17
    · refine wp_switch (t := 711) eL_law_33 (am_swI (off := 678) (by rw [c_33_17]; decide) (by rw [c_33_17]; decide) (by rw [c_33_17]; rfl) rfl) ?_
      exact lL_tear hI hL (7 * c) (by omega) kx
    by_cases c_33_18 : (xs (7 * c)) &&& 31 = 18
    · refine wp_switch (t := 734) eL_law_33 (am_swI (off := 701) (by rw [c_33_18]; decide) (by rw [c_33_18]; decide) (by rw [c_33_18]; rfl) rfl) ?_
      exact lL_mend hI hL (7 * c) (by omega) kx
    by_cases c_33_19 : (xs (7 * c)) &&& 31 = 19
    · refine wp_switch (t := 757) eL_law_33 (am_swI (off := 724) (by rw [c_33_19]; decide) (by rw [c_33_19]; decide) (by rw [c_33_19]; rfl) rfl) ?_
      exact lL_shelfOf hI hL (7 * c) (by omega) kx
    by_cases c_33_20 : (xs (7 * c)) &&& 31 = 20
    · refine wp_switch (t := 790) eL_law_33 (am_swI (off := 757) (by rw [c_33_20]; decide) (by rw [c_33_20]; decide) (by rw [c_33_20]; rfl) rfl) ?_
      exact lL_thing hI hL (7 * c) (by omega) kx
    by_cases c_33_21 : (xs (7 * c)) &&& 31 = 21
    · refine wp_switch (t := 823) eL_law_33 (am_swI (off := 790) (by rw [c_33_21]; decide) (by rw [c_33_21]; decide) (by rw [c_33_21]; rfl) rfl) ?_
      exact lL_claimOf hI hL (7 * c) (by omega) kx
    by_cases c_33_22 : (xs (7 * c)) &&& 31 = 22
    · refine wp_switch (t := 856) eL_law_33 (am_swI (off := 823) (by rw [c_33_22]; decide) (by rw [c_33_22]; decide) (by rw [c_33_22]; rfl) rfl) ?_
      exact lL_count hI hL (7 * c) (by omega) kx
    refine wp_switch (t := 879) eL_law_33 (am_swO (am_out22 c_33_0 c_33_1 c_33_2 c_33_3 c_33_4 c_33_5 c_33_6 c_33_7 c_33_8 c_33_9 c_33_10 c_33_11 c_33_12 c_33_13 c_33_14 c_33_15 c_33_16 c_33_17 c_33_18 c_33_19 c_33_20 c_33_21 c_33_22) rfl) ?_
    exact kx S h hI (by omega) (by omega)

set_option maxRecDepth 4000 in
theorem law_pure (L : Nat) (xs : Nat → Int32) (hL : L ≤ 3584) : lw_run L xs := by
  show WP kL_law (Res 7) (fun r h => r = some (.int 1) ∧ am_n h ≤ 600001 ∧ am_z h ≤ 7302250) 0 [some (.ref 0), none, none, none] [] (am_h0 L xs)
  refine wp_new (a := 1) (h' := hq0 L xs) eL_law_0 rfl rfl ?_
  refine wp_dup eL_law_3 rfl ?_
  refine wp_spec (rv := none) (h' := hq10 L xs) (r := [.ref 1]) eL_law_4 [] rfl rfl rfl rfl (rX5_initC 5 L xs) ?_
  refine wp_astore_n (ls' := [some (.ref 0), some (.ref 1), none, none]) eL_law_7 rfl rfl ?_
  refine wp_new (a := 10) (h' := hm0 L xs) eL_law_8 rfl rfl ?_
  refine wp_dup eL_law_11 rfl ?_
  refine wp_spec (rv := none) (h' := hm28 L xs) (r := [.ref 10]) eL_law_12 [] rfl rfl rfl rfl (rX6_initC 6 L xs) ?_
  refine wp_astore_n (ls' := [some (.ref 0), some (.ref 1), some (.ref 10), none]) eL_law_15 rfl rfl ?_
  refine wp_iconst (v := 0) eL_law_16 rfl ?_
  refine wp_istore_n (ls' := [some (.ref 0), some (.ref 1), some (.ref 10), some (.int 0)]) eL_law_17 rfl rfl ?_
  exact lL_loop hL (L / 7) 0 _ _ (by omega) (by omega) (iv_start L xs) (show 38 ≤ 100 + 2 * 0 by omega) (show am_z (hm28 L xs) ≤ 3000 + 15 * 0 by rw [show am_z (hm28 L xs) = 2023 from rfl]; omega)
