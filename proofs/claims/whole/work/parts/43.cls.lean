/-! THE CLASS: mark; coins that fall -/
set_option maxRecDepth 4000 in
theorem bX5_mark_ok (d : Nat) {h : Hp} {S : St} (hR : CR S h) (hW : MW S) (c k : Nat) (v : Int32) (hc : c < cC S) (hk : k < 4) (hv : sIn v (-1) 15 = 1) (hd : S 34 c = 0) (hT1 : TI (up2 S 32 (4 * c + k) v) c) : Res (d + 4) nX5_mark [.ref 1, .int (nI c), .int (nI k), .int v] h (some (.int (sMeans (up2 S 32 (4 * c + k) v) c (cT (up2 S 32 (4 * c + k) v))))) (am_setI h (toA h c) k v) := by
  have hC := hR.1
  have h5 := hW.1.2
  have h11 := hW.2.1.2
  have h12 := hW.2.2.1.2
  have h29 := hW.2.2.2.2
  have z1 := sIn_01 v 0 15
  have z2 := (sIn_m1 v).mp hv
  refine Res_intro (ls := [some (.ref 1), some (.int (nI c)), some (.int (nI k)), some (.int v), none]) aX5_mark rfl rfl rfl rfl ?_
  show WP kX5_mark _ _ _ _ _ _
  refine wp_aload_n eX5_mark_0 rfl ?_
  refine wp_iload_n eX5_mark_1 rfl ?_
  refine wp_virt (rv := (some (.ref (clA h c)))) (h' := h) (r := []) eX5_mark_2 [.int (nI c)] rfl rfl rfl (show Ob h 1 5 from hC.ob) (bX5_claimAt _ hR hW _ (by omega)) ?_
  refine wp_astore (ls' := [some (.ref 1), some (.int (nI c)), some (.int (nI k)), some (.int v), some (.ref (clA h c))]) eX5_mark_5 rfl rfl ?_
  refine wp_aload eX5_mark_7 rfl ?_
  refine wp_ifnullF eX5_mark_9 ?_
  refine wp_aload eX5_mark_12 rfl ?_
  refine wp_getI (v := S 34 c) eX5_mark_14 (show Ob h (clA h c) 1 from hR.cl_ob c (by omega)) rfl (hR.cl1 c (by omega)) ?_
  refine wp_ifF eX5_mark_17 (show ¬ (¬ (S 34 c) = 0) from (fun q => q hd)) ?_
  refine wp_iload_n eX5_mark_20 rfl ?_
  refine wp_iconst (v := 0) eX5_mark_21 rfl ?_
  refine wp_iconst (v := 3) eX5_mark_22 rfl ?_
  refine wp_stat (rv := (some (.int (sIn (nI k) 0 3)))) (h' := h) (r := []) eX5_mark_23 [.int (nI k), .int 0, .int 3] rfl rfl rfl rfl (rX5_isWithin _ _ _ _) ?_
  refine wp_ifT eX5_mark_26 (show ¬ (sIn (nI k) 0 3) = 0 from (by rw [show sIn (nI k) 0 3 = 1 from sIn_in (x := 4) (n := 4) rfl hk (by omega)]; decide)) ?_
  refine wp_iload_n eX5_mark_31 rfl ?_
  refine wp_iconst (v := (-1)) eX5_mark_32 rfl ?_
  refine wp_icmp eX5_mark_33 (fun (c_33 : v = ((-1))) => ?_) (fun (c_33 : ¬ (v = ((-1)))) => ?_)
  · refine wp_aload eX5_mark_48 rfl ?_
    refine wp_getR (v := toA h c) eX5_mark_50 (show Ob h (clA h c) 1 from hR.cl_ob c (by omega)) rfl (hR.cl_t c (by omega)) ?_
    refine wp_iload_n eX5_mark_53 rfl ?_
    refine wp_iload_n eX5_mark_54 rfl ?_
    refine wp_ias (t := k) (h' := am_setI h (toA h c) k v) eX5_mark_55 (show Ar h (toA h c) 7 4 from hR.cl_ta c (by omega)) (by omega) rfl rfl ?_
    refine wp_aload_n eX5_mark_56 rfl ?_
    refine wp_aload eX5_mark_57 rfl ?_
    refine wp_virt (rv := (some (.int (sMeans (up2 S 32 (4 * c + k) v) c (cT (up2 S 32 (4 * c + k) v)))))) (h' := am_setI h (toA h c) k v) (r := []) eX5_mark_59 [.ref (clA h c)] rfl rfl rfl (show Ob (am_setI h (toA h c) k v) 1 5 from hC.ob) (show Res (d + 3) nX5_meantBy [.ref 1, .ref (clA h c)] (am_setI h (toA h c) k v) (some (.int (sMeans (up2 S 32 (4 * c + k) v) c (cT (up2 S 32 (4 * c + k) v))))) (am_setI h (toA h c) k v) from bX5_meantBy d (hR.told hc hk v) (show MW (up2 S 32 (4 * c + k) v) from hW) c (show c < cC (up2 S 32 (4 * c + k) v) from hc) hT1) ?_
    exact wp_iret eX5_mark_62 ⟨congrArg (fun z => some (Value.int z)) (rfl), rfl⟩
  · refine wp_iload_n eX5_mark_36 rfl ?_
    refine wp_iconst (v := 0) eX5_mark_37 rfl ?_
    refine wp_bipush (v := 15) eX5_mark_38 rfl ?_
    refine wp_stat (rv := (some (.int (sIn v 0 15)))) (h' := h) (r := []) eX5_mark_40 [.int v, .int 0, .int 15] rfl rfl rfl rfl (rX5_isWithin _ _ _ _) ?_
    refine wp_ifT eX5_mark_43 (show ¬ (sIn v 0 15) = 0 from (by rw [z2.resolve_left c_33]; decide)) ?_
    refine wp_aload eX5_mark_48 rfl ?_
    refine wp_getR (v := toA h c) eX5_mark_50 (show Ob h (clA h c) 1 from hR.cl_ob c (by omega)) rfl (hR.cl_t c (by omega)) ?_
    refine wp_iload_n eX5_mark_53 rfl ?_
    refine wp_iload_n eX5_mark_54 rfl ?_
    refine wp_ias (t := k) (h' := am_setI h (toA h c) k v) eX5_mark_55 (show Ar h (toA h c) 7 4 from hR.cl_ta c (by omega)) (by omega) rfl rfl ?_
    refine wp_aload_n eX5_mark_56 rfl ?_
    refine wp_aload eX5_mark_57 rfl ?_
    refine wp_virt (rv := (some (.int (sMeans (up2 S 32 (4 * c + k) v) c (cT (up2 S 32 (4 * c + k) v)))))) (h' := am_setI h (toA h c) k v) (r := []) eX5_mark_59 [.ref (clA h c)] rfl rfl rfl (show Ob (am_setI h (toA h c) k v) 1 5 from hC.ob) (show Res (d + 3) nX5_meantBy [.ref 1, .ref (clA h c)] (am_setI h (toA h c) k v) (some (.int (sMeans (up2 S 32 (4 * c + k) v) c (cT (up2 S 32 (4 * c + k) v))))) (am_setI h (toA h c) k v) from bX5_meantBy d (hR.told hc hk v) (show MW (up2 S 32 (4 * c + k) v) from hW) c (show c < cC (up2 S 32 (4 * c + k) v) from hc) hT1) ?_
    exact wp_iret eX5_mark_62 ⟨congrArg (fun z => some (Value.int z)) (rfl), rfl⟩

theorem up2_comm {S : St} {a k b l : Nat} {v w : Int32} (e : ¬ (a = b ∧ k = l)) : up2 (up2 S a k v) b l w = up2 (up2 S b l w) a k v := by
  funext x j
  unfold up2
  by_cases h1 : x = a ∧ j = k
  · by_cases h2 : x = b ∧ j = l
    · exact absurd ⟨h1.1.symm.trans h2.1, h1.2.symm.trans h2.2⟩ e
    · simp only [h1, h2, if_true, if_false]
      rw [if_neg (fun z => e ⟨z.1, z.2⟩)]
      simp
  · simp only [h1, if_false]
def cFall (S : St) (h : Hp) (t : Nat) : Hp := if S 26 t = 2 ∧ 30 < S 10 0 / 1440 - S 29 t then am_setI (am_setI (am_setI h 1 13 (S 10 3 + S 28 t)) (thA h t) 9 0) (thA h t) 7 4 else h
def cFallN : Nat → Nat → St → Hp → Hp
  | 0, _, _, h => h
  | n + 1, t, S, h => cFallN n (t + 1) (sClk1 S t) (cFall S h t)
def sFallN : Nat → Nat → St → St
  | 0, _, S => S
  | n + 1, t, S => sFallN n (t + 1) (sClk1 S t)
theorem sFallN_eq (S : St) : ∀ (n t : Nat), sFallN n t (sClkN S t) = sClkN S (t + n) := by
  intro n
  induction n with
  | zero => intro t; rfl
  | succ n ih =>
    intro t
    show sFallN n (t + 1) (sClk1 (sClkN S t) t) = _
    rw [show sClk1 (sClkN S t) t = sClkN S (t + 1) from rfl, ih (t + 1), show t + 1 + n = t + (n + 1) by omega]
theorem CR.fall {S : St} {h : Hp} (hR : CR S h) {t : Nat} (ht : t < cT S) : CR (sClk1 S t) (cFall S h t) := by
  unfold sClk1 cFall
  split
  · rename_i q
    have a1 := hR.till (S 10 3 + S 28 t)
    have a2 := a1.coins (t := t) ht 0
    have a3 := a2.how (t := t) (v := 4) ht (by show ¬ S 26 t = 0; rw [q.1]; decide) (by decide)
    rw [up2_comm (S := up2 S 26 t 4) (a := 10) (k := 3) (b := 28) (l := t) (by omega), up2_comm (S := S) (a := 26) (k := t) (b := 28) (l := t) (by omega), up2_comm (S := up2 S 28 t 0) (a := 26) (k := t) (b := 10) (l := 3) (by omega), up2_comm (S := S) (a := 28) (k := t) (b := 10) (l := 3) (by omega)]
    exact a3
  · exact hR
theorem sClk1_MW {S : St} (t : Nat) (hW : MW S) : MW (sClk1 S t) ∧ cT (sClk1 S t) = cT S := by
  unfold sClk1
  split
  · exact ⟨hW, rfl⟩
  · exact ⟨hW, rfl⟩

set_option maxRecDepth 4000 in
theorem lX5_fall (d : Nat) : ∀ (n t : Nat) (S : St) (h : Hp) (x2 : Option Value), t + n = cT S → CR S h → MW S → WP kX5_letOldCoinsFall (Res (d + 2)) (fun r1 h1 => r1 = none ∧ h1 = cFallN n t S h) 2 [some (.ref 1), some (.int (nI t)), x2] [] h := by
  intro n
  induction n with
  | zero =>
    intro t S h x2 hn hR hW
    have hC := hR.1
    have h5 := hW.1.2
    have h11 := hW.2.1.2
    have h12 := hW.2.2.1.2
    have h29 := hW.2.2.2.2
    refine wp_iload_n eX5_letOldCoinsFall_2 rfl ?_
    refine wp_aload_n eX5_letOldCoinsFall_3 rfl ?_
    refine wp_getI (v := S 10 12) eX5_letOldCoinsFall_4 (show Ob h 1 5 from hC.ob) rfl hR.c3 ?_
    refine wp_icmpT eX5_letOldCoinsFall_7 (show (S 10 12) ≤ (nI t) from (lp_ge hW.2.2.1.1 (by omega) (by omega))) ?_
    exact wp_vret eX5_letOldCoinsFall_72 ⟨rfl, rfl⟩
  | succ n ih =>
    intro t S h x2 hn hR hW
    have hC := hR.1
    have h5 := hW.1.2
    have h11 := hW.2.1.2
    have h12 := hW.2.2.1.2
    have h29 := hW.2.2.2.2
    refine wp_iload_n eX5_letOldCoinsFall_2 rfl ?_
    refine wp_aload_n eX5_letOldCoinsFall_3 rfl ?_
    refine wp_getI (v := S 10 12) eX5_letOldCoinsFall_4 (show Ob h 1 5 from hC.ob) rfl hR.c3 ?_
    refine wp_icmpF eX5_letOldCoinsFall_7 (show ¬ ((S 10 12) ≤ (nI t)) from (lp_lt hW.2.2.1.1 (by omega) (by omega))) ?_
    refine wp_aload_n eX5_letOldCoinsFall_10 rfl ?_
    refine wp_getR (v := 3) eX5_letOldCoinsFall_11 (show Ob h 1 5 from hC.ob) rfl hC.r2 ?_
    refine wp_iload_n eX5_letOldCoinsFall_14 rfl ?_
    refine wp_aal (v := thA h t) (t := t) eX5_letOldCoinsFall_15 (show Ar h 3 10 120 from hC.a3) rfl rfl (by omega) rfl (hR.th_r t (by omega)) ?_
    refine wp_astore_n (ls' := [some (.ref 1), some (.int (nI t)), some (.ref (thA h t))]) eX5_letOldCoinsFall_16 rfl rfl ?_
    refine wp_aload_n eX5_letOldCoinsFall_17 rfl ?_
    refine wp_ifnullF eX5_letOldCoinsFall_18 ?_
    refine wp_aload_n eX5_letOldCoinsFall_21 rfl ?_
    refine wp_getI (v := S 26 t) eX5_letOldCoinsFall_22 (show Ob h (thA h t) 4 from hR.th_ob t (by omega)) rfl (hR.th7 t (by omega)) ?_
    refine wp_iconst (v := 2) eX5_letOldCoinsFall_25 rfl ?_
    refine wp_icmp eX5_letOldCoinsFall_26 (fun (c_26 : ¬ (S 26 t) = 2) => ?_) (fun (c_26 : ¬ (¬ (S 26 t) = 2)) => ?_)
    · refine wp_iinc (v := nI (t + 1)) (ls' := [some (.ref 1), some (.int (nI (t + 1))), some (.ref (thA h t))]) eX5_letOldCoinsFall_66 rfl (nI_1 t) rfl ?_
      refine wp_goto eX5_letOldCoinsFall_69 ?_
      have nq : ¬ (S 26 t = 2 ∧ 30 < S 10 0 / 1440 - S 29 t) := by
        intro z
        first | exact c_26 z.1 | exact absurd c_40 (Int32.not_le.mpr z.2)
      have e2 : cFallN (n + 1) t S h = cFallN n (t + 1) S h := by
        simp only [cFallN, sClk1, cFall]
        rw [if_neg nq, if_neg nq]
      rw [e2]
      exact ih (t + 1) S h _ (by omega) hR hW
    · refine wp_aload_n eX5_letOldCoinsFall_29 rfl ?_
      refine wp_virt (rv := (some (.int (S 10 0 / 1440)))) (h' := h) (r := []) eX5_letOldCoinsFall_30 [] rfl rfl rfl (show Ob h 1 5 from hC.ob) (bX5_today _ hR hW) ?_
      refine wp_aload_n eX5_letOldCoinsFall_33 rfl ?_
      refine wp_getI (v := S 29 t) eX5_letOldCoinsFall_34 (show Ob h (thA h t) 4 from hR.th_ob t (by omega)) rfl (hR.th10 t (by omega)) ?_
      refine wp_isub eX5_letOldCoinsFall_37 ?_
      refine wp_bipush (v := 30) eX5_letOldCoinsFall_38 rfl ?_
      refine wp_icmp eX5_letOldCoinsFall_40 (fun (c_40 : ((S 10 0 / 1440) - (S 29 t)) ≤ 30) => ?_) (fun (c_40 : ¬ (((S 10 0 / 1440) - (S 29 t)) ≤ 30)) => ?_)
      · refine wp_iinc (v := nI (t + 1)) (ls' := [some (.ref 1), some (.int (nI (t + 1))), some (.ref (thA h t))]) eX5_letOldCoinsFall_66 rfl (nI_1 t) rfl ?_
        refine wp_goto eX5_letOldCoinsFall_69 ?_
        have nq : ¬ (S 26 t = 2 ∧ 30 < S 10 0 / 1440 - S 29 t) := by
          intro z
          first | exact c_26 z.1 | exact absurd c_40 (Int32.not_le.mpr z.2)
        have e2 : cFallN (n + 1) t S h = cFallN n (t + 1) S h := by
          simp only [cFallN, sClk1, cFall]
          rw [if_neg nq, if_neg nq]
        rw [e2]
        exact ih (t + 1) S h _ (by omega) hR hW
      · refine wp_aload_n eX5_letOldCoinsFall_43 rfl ?_
        refine wp_dup eX5_letOldCoinsFall_44 rfl ?_
        refine wp_getI (v := S 10 3) eX5_letOldCoinsFall_45 (show Ob h 1 5 from hC.ob) rfl hR.c13 ?_
        refine wp_aload_n eX5_letOldCoinsFall_48 rfl ?_
        refine wp_getI (v := S 28 t) eX5_letOldCoinsFall_49 (show Ob h (thA h t) 4 from hR.th_ob t (by omega)) rfl (hR.th9 t (by omega)) ?_
        refine wp_iadd eX5_letOldCoinsFall_52 ?_
        refine wp_putI (h' := am_setI h 1 13 ((S 10 3) + (S 28 t))) eX5_letOldCoinsFall_53 (show Ob h 1 5 from hC.ob) rfl rfl ?_
        refine wp_aload_n eX5_letOldCoinsFall_56 rfl ?_
        refine wp_iconst (v := 0) eX5_letOldCoinsFall_57 rfl ?_
        refine wp_putI (h' := am_setI (am_setI h 1 13 ((S 10 3) + (S 28 t))) (thA h t) 9 0) eX5_letOldCoinsFall_58 (show Ob (am_setI h 1 13 ((S 10 3) + (S 28 t))) (thA h t) 4 from hR.th_ob t (by omega)) rfl rfl ?_
        refine wp_aload_n eX5_letOldCoinsFall_61 rfl ?_
        refine wp_iconst (v := 4) eX5_letOldCoinsFall_62 rfl ?_
        refine wp_putI (h' := am_setI (am_setI (am_setI h 1 13 ((S 10 3) + (S 28 t))) (thA h t) 9 0) (thA h t) 7 4) eX5_letOldCoinsFall_63 (show Ob (am_setI (am_setI h 1 13 ((S 10 3) + (S 28 t))) (thA h t) 9 0) (thA h t) 4 from hR.th_ob t (by omega)) rfl rfl ?_
        refine wp_iinc (v := nI (t + 1)) (ls' := [some (.ref 1), some (.int (nI (t + 1))), some (.ref (thA h t))]) eX5_letOldCoinsFall_66 rfl (nI_1 t) rfl ?_
        refine wp_goto eX5_letOldCoinsFall_69 ?_
        have q2 : S 26 t = 2 ∧ 30 < S 10 0 / 1440 - S 29 t := ⟨Decidable.not_not.mp c_26, Int32.not_le.mp c_40⟩
        have e2 : cFall S h t = am_setI (am_setI (am_setI h 1 13 ((S 10 3) + (S 28 t))) (thA h t) 9 0) (thA h t) 7 4 := by unfold cFall; rw [if_pos q2]
        have e3 := sClk1_MW t hW
        have q3 := ih (t + 1) (sClk1 S t) (cFall S h t) (some (.ref (thA h t))) (by rw [e3.2]; omega) (hR.fall (by omega)) e3.1
        rw [e2] at q3
        rw [show cFallN (n + 1) t S h = cFallN n (t + 1) (sClk1 S t) (am_setI (am_setI (am_setI h 1 13 ((S 10 3) + (S 28 t))) (thA h t) 9 0) (thA h t) 7 4) by simp only [cFallN]; rw [e2]]
        exact q3

set_option maxRecDepth 4000 in
theorem bX5_fall (d : Nat) {h : Hp} {S : St} (hR : CR S h) (hW : MW S)  : Res (d + 3) nX5_letOldCoinsFall [.ref 1] h none (cFallN (cT S) 0 S h) := by
  have hC := hR.1
  have h5 := hW.1.2
  have h11 := hW.2.1.2
  have h12 := hW.2.2.1.2
  have h29 := hW.2.2.2.2
  refine Res_intro (ls := [some (.ref 1), none, none]) aX5_letOldCoinsFall rfl rfl rfl rfl ?_
  show WP kX5_letOldCoinsFall _ _ _ _ _ _
  refine wp_iconst (v := 0) eX5_letOldCoinsFall_0 rfl ?_
  refine wp_istore_n (ls' := [some (.ref 1), some (.int 0), none]) eX5_letOldCoinsFall_1 rfl rfl ?_
  exact lX5_fall d (cT S) 0 S h _ (by omega) hR hW

theorem CR.fallN : ∀ (n t : Nat) {S : St} {h : Hp}, t + n ≤ cT S → CR S h → MW S → CR (sFallN n t S) (cFallN n t S h) := by
  intro n
  induction n with
  | zero => intro t S h _ hR _; exact hR
  | succ n ih =>
    intro t S h hn hR hW
    have e3 := sClk1_MW t hW
    exact ih (t + 1) (by rw [e3.2]; omega) (hR.fall (by omega)) e3.1

theorem fall_min {S : St} {h : Hp} (hR : CR S h) (hW : MW S) (n : Int32) : CR (sClkN (up2 S 10 0 (S 10 0 + n)) (cT S)) (cFallN (cT S) 0 (up2 S 10 0 (S 10 0 + n)) (am_setI h 1 10 (S 10 0 + n))) := by
  have q := CR.fallN (cT S) 0 (S := up2 S 10 0 (S 10 0 + n)) (h := am_setI h 1 10 (S 10 0 + n)) (by show 0 + cT S ≤ cT S; omega) (hR.minute (S 10 0 + n)) hW
  have e := sFallN_eq (up2 S 10 0 (S 10 0 + n)) (cT S) 0
  rw [Nat.zero_add] at e
  rw [show sFallN (cT S) 0 (up2 S 10 0 (S 10 0 + n)) = sClkN (up2 S 10 0 (S 10 0 + n)) (cT S) from e] at q
  exact q

set_option maxRecDepth 4000 in
theorem bX5_clock (d : Nat) {h : Hp} {S : St} (hR : CR S h) (hW : MW S) (n : Int32) : Res (d + 4) nX5_clock [.ref 1, .int n] h (some (.int (if kClk S n = true then S 10 0 + n else -1))) (if kClk S n = true then cFallN (cT S) 0 (up2 S 10 0 (S 10 0 + n)) (am_setI h 1 10 (S 10 0 + n)) else h) := by
  have hC := hR.1
  have h5 := hW.1.2
  have h11 := hW.2.1.2
  have h12 := hW.2.2.1.2
  have h29 := hW.2.2.2.2
  refine Res_intro (ls := [some (.ref 1), some (.int n)]) aX5_clock rfl rfl rfl rfl ?_
  show WP kX5_clock _ _ _ _ _ _
  refine wp_iload_n eX5_clock_0 rfl ?_
  refine wp_iconst (v := 1) eX5_clock_1 rfl ?_
  refine wp_icmp eX5_clock_2 (fun (c_2 : n < 1) => ?_) (fun (c_2 : ¬ (n < 1)) => ?_)
  · refine wp_iconst (v := (-1)) eX5_clock_16 rfl ?_
    exact wp_iret eX5_clock_17 ⟨congrArg (fun z => some (Value.int z)) (by simp only [kClk, decide_eq_true_eq]; (repeat' split) <;> first | rfl | (exfalso; simp_all; done) | (exfalso; simp only [Int32.lt_iff_toInt_lt, Int32.le_iff_toInt_le, ← Int32.toInt_inj, Int32.reduceToInt] at *; omega)), by simp only [kClk, decide_eq_true_eq]; (repeat' split) <;> first | rfl | (exfalso; simp_all; done) | (exfalso; simp only [Int32.lt_iff_toInt_lt, Int32.le_iff_toInt_le, ← Int32.toInt_inj, Int32.reduceToInt] at *; omega)⟩
  · refine wp_iload_n eX5_clock_5 rfl ?_
    refine wp_ldc (v := 100000) eX5_clock_6 rfl ?_
    refine wp_aload_n eX5_clock_8 rfl ?_
    refine wp_getI (v := S 10 0) eX5_clock_9 (show Ob h 1 5 from hC.ob) rfl hR.c10 ?_
    refine wp_isub eX5_clock_12 ?_
    refine wp_icmp eX5_clock_13 (fun (c_13 : n ≤ (100000 - (S 10 0))) => ?_) (fun (c_13 : ¬ (n ≤ (100000 - (S 10 0)))) => ?_)
    · refine wp_aload_n eX5_clock_18 rfl ?_
      refine wp_dup eX5_clock_19 rfl ?_
      refine wp_getI (v := S 10 0) eX5_clock_20 (show Ob h 1 5 from hC.ob) rfl hR.c10 ?_
      refine wp_iload_n eX5_clock_23 rfl ?_
      refine wp_iadd eX5_clock_24 ?_
      refine wp_putI (h' := am_setI h 1 10 ((S 10 0) + n)) eX5_clock_25 (show Ob h 1 5 from hC.ob) rfl rfl ?_
      refine wp_aload_n eX5_clock_28 rfl ?_
      refine wp_virt (rv := none) (h' := cFallN (cT S) 0 (up2 S 10 0 (S 10 0 + n)) (am_setI h 1 10 (S 10 0 + n))) (r := []) eX5_clock_29 [] rfl rfl rfl (show Ob (am_setI h 1 10 ((S 10 0) + n)) 1 5 from hC.ob) (show Res (d + 3) nX5_letOldCoinsFall [.ref 1] (am_setI h 1 10 (S 10 0 + n)) none (cFallN (cT S) 0 (up2 S 10 0 (S 10 0 + n)) (am_setI h 1 10 (S 10 0 + n))) from bX5_fall d (hR.minute (S 10 0 + n)) (show MW (up2 S 10 0 (S 10 0 + n)) from hW)) ?_
      refine wp_aload_n eX5_clock_32 rfl ?_
      have hfm := fall_min hR hW n
      refine wp_getI (v := S 10 0 + n) eX5_clock_33 (show Ob (cFallN (cT S) 0 (up2 S 10 0 (S 10 0 + n)) (am_setI h 1 10 (S 10 0 + n))) 1 5 from hfm.1.ob) rfl (hfm.c10.trans (sClkN_keep _ _ 10 0 (by omega))) ?_
      exact wp_iret eX5_clock_36 ⟨congrArg (fun z => some (Value.int z)) (by simp only [kClk, decide_eq_true_eq]; (repeat' split) <;> first | rfl | (exfalso; simp_all; done) | (exfalso; simp only [Int32.lt_iff_toInt_lt, Int32.le_iff_toInt_le, ← Int32.toInt_inj, Int32.reduceToInt] at *; omega)), by simp only [kClk, decide_eq_true_eq]; (repeat' split) <;> first | rfl | (exfalso; simp_all; done) | (exfalso; simp only [Int32.lt_iff_toInt_lt, Int32.le_iff_toInt_le, ← Int32.toInt_inj, Int32.reduceToInt] at *; omega)⟩
    · refine wp_iconst (v := (-1)) eX5_clock_16 rfl ?_
      exact wp_iret eX5_clock_17 ⟨congrArg (fun z => some (Value.int z)) (by simp only [kClk, decide_eq_true_eq]; (repeat' split) <;> first | rfl | (exfalso; simp_all; done) | (exfalso; simp only [Int32.lt_iff_toInt_lt, Int32.le_iff_toInt_le, ← Int32.toInt_inj, Int32.reduceToInt] at *; omega)), by simp only [kClk, decide_eq_true_eq]; (repeat' split) <;> first | rfl | (exfalso; simp_all; done) | (exfalso; simp only [Int32.lt_iff_toInt_lt, Int32.le_iff_toInt_le, ← Int32.toInt_inj, Int32.reduceToInt] at *; omega)⟩
