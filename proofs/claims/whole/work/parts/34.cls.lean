/-! THE CLASS: fees, misfit -/
theorem bX2_dayPrice (d : Nat) {h : Hp} {S : St} (hR : CR S h) {t k : Nat} (ht : t < cT S) (hk : k < cR S) : Res (d + 1) nX2_dayPrice [.ref (roA h k), .ref (thA h t)] h (some (.int (sOne S t k))) h := by
  have q := rX2_dayPrice (h := h) d (thA h t) (hR.th_ob t ht) (roA h k) (hR.ro_ob k hk)
  rw [hR.th2 t ht, hR.th0 t ht, hR.ro2 k hk, hR.ro3 k hk, hR.ro4 k hk] at q
  have e : sOne S t k = (if S 30 t = 0 then S 13 k + S 14 k * S 21 t else S 13 k + S 14 k * S 21 t + S 15 k) := by
    unfold sOne
    split
    · exact Int32.add_zero _
    · rfl
  rw [e]
  exact q
theorem cRow_some {S : St} {h : Hp} {day : Int32} {n k : Nat} (hk : k < 100) (e : sRow S day n = nI k) : cRow S h day n = some (roA h k) := by
  unfold cRow
  rw [e, if_neg (nI_pos (by omega)), nI_clamp (by omega)]
theorem cRow_none {S : St} {h : Hp} {day : Int32} {n : Nat} (e : sRow S day n < 0) : cRow S h day n = none := by
  unfold cRow
  rw [if_pos e]

set_option maxRecDepth 4000 in
theorem lX5_feeOf (d : Nat) {h : Hp} {S : St} (hR : CR S h) (hW : MW S) (u : Nat) (hu : u < cT S) (f l : Nat) (hl : l ≤ 100) (x4 : Option Value) : ∀ (n t : Nat) (a : Int32) (x7 : Option Value), t + n = l + 1 → f ≤ t → a = sFeeN S u f (t - f) → WP kX5_feeOf (Res (d + 2)) (fun r1 h1 => r1 = some (.int (sFeeN S u f (l + 1 - f))) ∧ h1 = h) 54 [some (.ref 1), some (.ref (thA h u)), some (.int (nI f)), some (.int (nI l)), x4, some (.int a), some (.int (nI t)), x7] [] h := by
  intro n
  induction n with
  | zero =>
    intro t a x7 hn hft ha
    have hC := hR.1
    have h5 := hW.1.2
    have h11 := hW.2.1.2
    have h12 := hW.2.2.1.2
    have h29 := hW.2.2.2.2
    refine wp_iload eX5_feeOf_54 rfl ?_
    refine wp_iload_n eX5_feeOf_56 rfl ?_
    refine wp_icmpT eX5_feeOf_57 (show (nI l) < (nI t) from (lp_gtT (rfl : nI l = nI l) (by omega) (by omega))) ?_
    refine wp_iload eX5_feeOf_110 rfl ?_
    exact wp_iret eX5_feeOf_112 ⟨congrArg (fun z => some (Value.int z)) (by rw [ha, show t = l + 1 by omega]), rfl⟩
  | succ n ih =>
    intro t a x7 hn hft ha
    have hC := hR.1
    have h5 := hW.1.2
    have h11 := hW.2.1.2
    have h12 := hW.2.2.1.2
    have h29 := hW.2.2.2.2
    rcases Decidable.em (sRow S (nI t) (cR S) < 0) with c0 | c0
    · refine wp_iload eX5_feeOf_54 rfl ?_
      refine wp_iload_n eX5_feeOf_56 rfl ?_
      refine wp_icmpF eX5_feeOf_57 (show ¬ ((nI l) < (nI t)) from (lp_gtF (rfl : nI l = nI l) (by omega) (by omega))) ?_
      refine wp_aload_n eX5_feeOf_60 rfl ?_
      refine wp_iload eX5_feeOf_61 rfl ?_
      refine wp_virt (rv := (some (va_rf none))) (h' := h) (r := []) eX5_feeOf_63 [.int (nI t)] rfl rfl rfl (show Ob h 1 5 from hC.ob) (show Res (d + 2) nX5_rowOn _ _ (some (va_rf none)) _ by rw [← cRow_none c0]; exact bX5_rowOn _ hR hW _) ?_
      refine wp_astoreO (ls' := [some (.ref 1), some (.ref (thA h u)), some (.int (nI f)), some (.int (nI l)), x4, some (.int a), some (.int (nI t)), some (va_rf none)]) eX5_feeOf_66 rfl rfl ?_
      refine wp_aloadO eX5_feeOf_68 rfl ?_
      refine wp_ifnullT eX5_feeOf_70 ?_
      refine wp_iinc (v := nI (t + 1)) (ls' := [some (.ref 1), some (.ref (thA h u)), some (.int (nI f)), some (.int (nI l)), x4, some (.int a), some (.int (nI (t + 1))), some (va_rf none)]) eX5_feeOf_104 rfl (nI_1 t) rfl ?_
      refine wp_goto eX5_feeOf_107 ?_
      exact ih (t + 1) _ _ (by omega) (by omega) (by rw [show t + 1 - f = (t - f) + 1 by omega]; simp only [sFeeN, show f + (t - f) = t by omega]; first | (rw [if_pos c0]; exact ha) | (rw [if_neg c0, ek0, ec0, if_pos c_81, ha]; done) | (rw [if_neg c0, ek0, ec0, if_neg c_81, ha]; done))
    · refine wp_iload eX5_feeOf_54 rfl ?_
      refine wp_iload_n eX5_feeOf_56 rfl ?_
      refine wp_icmpF eX5_feeOf_57 (show ¬ ((nI l) < (nI t)) from (lp_gtF (rfl : nI l = nI l) (by omega) (by omega))) ?_
      refine wp_aload_n eX5_feeOf_60 rfl ?_
      refine wp_iload eX5_feeOf_61 rfl ?_
      obtain ⟨k0, hk0, ek0⟩ := sRow_get hW.1.2 (Int32.not_lt.mp c0)
      have ec0 : (nI k0).toNatClampNeg = k0 := nI_clamp (by omega)
      have ge0 : ¬ nI k0 < 0 := nI_pos (by omega)
      refine wp_virt (rv := (some (.ref (roA h k0)))) (h' := h) (r := []) eX5_feeOf_63 [.int (nI t)] rfl rfl rfl (show Ob h 1 5 from hC.ob) (show Res (d + 2) nX5_rowOn _ _ (some (va_rf (some (roA h k0)))) _ by rw [← cRow_some (by omega) ek0]; exact bX5_rowOn _ hR hW _) ?_
      refine wp_astore (ls' := [some (.ref 1), some (.ref (thA h u)), some (.int (nI f)), some (.int (nI l)), x4, some (.int a), some (.int (nI t)), some (.ref (roA h k0))]) eX5_feeOf_66 rfl rfl ?_
      refine wp_aload eX5_feeOf_68 rfl ?_
      refine wp_ifnullF eX5_feeOf_70 ?_
      refine wp_iload eX5_feeOf_73 rfl ?_
      refine wp_iload eX5_feeOf_75 rfl ?_
      refine wp_aload_n eX5_feeOf_77 rfl ?_
      refine wp_virt (rv := (some (.int (S 24 u / 1440)))) (h' := h) (r := [.int (nI t), .int a]) eX5_feeOf_78 [] rfl rfl rfl (show Ob h (thA h u) 4 from hR.th_ob u (by omega)) (bX4_dueDay _ hR (by omega)) ?_
      refine wp_icmp eX5_feeOf_81 (fun (c_81 : (nI t) ≤ (S 24 u / 1440)) => ?_) (fun (c_81 : ¬ ((nI t) ≤ (S 24 u / 1440))) => ?_)
      · refine wp_aload eX5_feeOf_95 rfl ?_
        refine wp_aload_n eX5_feeOf_97 rfl ?_
        refine wp_virt (rv := (some (.int (sOne S u k0)))) (h' := h) (r := [.int a]) eX5_feeOf_98 [.ref (thA h u)] rfl rfl rfl (show Ob h (roA h k0) 2 from hR.ro_ob k0 (by omega)) (bX2_dayPrice _ hR (by omega) (by omega)) ?_
        refine wp_iadd eX5_feeOf_101 ?_
        refine wp_istore (ls' := [some (.ref 1), some (.ref (thA h u)), some (.int (nI f)), some (.int (nI l)), x4, some (.int (a + (sOne S u k0))), some (.int (nI t)), some (.ref (roA h k0))]) eX5_feeOf_102 rfl rfl ?_
        refine wp_iinc (v := nI (t + 1)) (ls' := [some (.ref 1), some (.ref (thA h u)), some (.int (nI f)), some (.int (nI l)), x4, some (.int (a + (sOne S u k0))), some (.int (nI (t + 1))), some (.ref (roA h k0))]) eX5_feeOf_104 rfl (nI_1 t) rfl ?_
        refine wp_goto eX5_feeOf_107 ?_
        exact ih (t + 1) _ _ (by omega) (by omega) (by rw [show t + 1 - f = (t - f) + 1 by omega]; simp only [sFeeN, show f + (t - f) = t by omega]; first | (rw [if_pos c0]; exact ha) | (rw [if_neg c0, ek0, ec0, if_pos c_81, ha]; done) | (rw [if_neg c0, ek0, ec0, if_neg c_81, ha]; done))
      · refine wp_iconst (v := 2) eX5_feeOf_84 rfl ?_
        refine wp_aload eX5_feeOf_85 rfl ?_
        refine wp_aload_n eX5_feeOf_87 rfl ?_
        refine wp_virt (rv := (some (.int (sOne S u k0)))) (h' := h) (r := [.int 2, .int a]) eX5_feeOf_88 [.ref (thA h u)] rfl rfl rfl (show Ob h (roA h k0) 2 from hR.ro_ob k0 (by omega)) (bX2_dayPrice _ hR (by omega) (by omega)) ?_
        refine wp_imul eX5_feeOf_91 ?_
        refine wp_goto eX5_feeOf_92 ?_
        refine wp_iadd eX5_feeOf_101 ?_
        refine wp_istore (ls' := [some (.ref 1), some (.ref (thA h u)), some (.int (nI f)), some (.int (nI l)), x4, some (.int (a + (2 * (sOne S u k0)))), some (.int (nI t)), some (.ref (roA h k0))]) eX5_feeOf_102 rfl rfl ?_
        refine wp_iinc (v := nI (t + 1)) (ls' := [some (.ref 1), some (.ref (thA h u)), some (.int (nI f)), some (.int (nI l)), x4, some (.int (a + (2 * (sOne S u k0)))), some (.int (nI (t + 1))), some (.ref (roA h k0))]) eX5_feeOf_104 rfl (nI_1 t) rfl ?_
        refine wp_goto eX5_feeOf_107 ?_
        exact ih (t + 1) _ _ (by omega) (by omega) (by rw [show t + 1 - f = (t - f) + 1 by omega]; simp only [sFeeN, show f + (t - f) = t by omega]; first | (rw [if_pos c0]; exact ha) | (rw [if_neg c0, ek0, ec0, if_pos c_81, ha]; done) | (rw [if_neg c0, ek0, ec0, if_neg c_81, ha]; done))

set_option maxRecDepth 4000 in
theorem bX5_feeOf (d : Nat) {h : Hp} {S : St} (hR : CR S h) (hW : MW S) (u : Nat) (hu : u < cT S) (hF : FW S u) (hle : sF S u ≤ sL S u + 1) (hn1 : S 29 u < 0 → S 29 u = -1) : Res (d + 3) nX5_feeOf [.ref 1, .ref (thA h u)] h (some (.int (sFee S u))) h := by
  have hC := hR.1
  have h5 := hW.1.2
  have h11 := hW.2.1.2
  have h12 := hW.2.2.1.2
  have h29 := hW.2.2.2.2
  obtain ⟨w1, w2, w3, w4⟩ := hF
  refine Res_intro (ls := [some (.ref 1), some (.ref (thA h u)), none, none, none, none, none, none]) aX5_feeOf rfl rfl rfl rfl ?_
  show WP kX5_feeOf _ _ _ _ _ _
  rcases Decidable.em (sRow S (nI (sF S u)) (cR S) < 0) with c0 | c0
  · refine wp_aload_n eX5_feeOf_0 rfl ?_
    refine wp_getI (v := S 25 u) eX5_feeOf_1 (show Ob h (thA h u) 4 from hR.th_ob u (by omega)) rfl (hR.th6 u (by omega)) ?_
    refine wp_stat (rv := (some (.int ((S 25 u) / 1440)))) (h' := h) (r := []) eX5_feeOf_4 [.int (S 25 u)] rfl rfl rfl rfl (rX5_dayOf _ _) ?_
    refine wp_top (y := nI (sF S u)) w1 ?_
    refine wp_istore_n (ls' := [some (.ref 1), some (.ref (thA h u)), some (.int (nI (sF S u))), none, none, none, none, none]) eX5_feeOf_7 rfl rfl ?_
    refine wp_aload_n eX5_feeOf_8 rfl ?_
    refine wp_getI (v := S 29 u) eX5_feeOf_9 (show Ob h (thA h u) 4 from hR.th_ob u (by omega)) rfl (hR.th10 u (by omega)) ?_
    refine wp_iconst (v := (-1)) eX5_feeOf_12 rfl ?_
    refine wp_icmp eX5_feeOf_13 (fun (c_13 : ¬ (S 29 u) = ((-1))) => ?_) (fun (c_13 : ¬ (¬ (S 29 u) = ((-1)))) => ?_)
    · refine wp_aload_n eX5_feeOf_23 rfl ?_
      refine wp_getI (v := S 29 u) eX5_feeOf_24 (show Ob h (thA h u) 4 from hR.th_ob u (by omega)) rfl (hR.th10 u (by omega)) ?_
      rw [show S 29 u = nI (sL S u) by rw [← w3]; unfold sLd; first | (rw [if_pos (by rw [Decidable.not_not.mp c_13]; decide)]; done) | (rw [if_neg (fun z => c_13 (hn1 z))]; done)]
      refine wp_istore_n (ls' := [some (.ref 1), some (.ref (thA h u)), some (.int (nI (sF S u))), some (.int (nI (sL S u))), none, none, none, none]) eX5_feeOf_27 rfl rfl ?_
      refine wp_aload_n eX5_feeOf_28 rfl ?_
      refine wp_iload_n eX5_feeOf_29 rfl ?_
      refine wp_virt (rv := (some (va_rf none))) (h' := h) (r := []) eX5_feeOf_30 [.int (nI (sF S u))] rfl rfl rfl (show Ob h 1 5 from hC.ob) (show Res (d + 2) nX5_rowOn _ _ (some (va_rf none)) _ by rw [← cRow_none c0]; exact bX5_rowOn _ hR hW _) ?_
      refine wp_astoreO (ls' := [some (.ref 1), some (.ref (thA h u)), some (.int (nI (sF S u))), some (.int (nI (sL S u))), some (va_rf none), none, none, none]) eX5_feeOf_33 rfl rfl ?_
      refine wp_aloadO eX5_feeOf_35 rfl ?_
      refine wp_ifnonnullF eX5_feeOf_37 ?_
      refine wp_iconst (v := 0) eX5_feeOf_40 rfl ?_
      refine wp_goto eX5_feeOf_41 ?_
      refine wp_istore (ls' := [some (.ref 1), some (.ref (thA h u)), some (.int (nI (sF S u))), some (.int (nI (sL S u))), some (va_rf none), some (.int 0), none, none]) eX5_feeOf_49 rfl rfl ?_
      refine wp_iload_n eX5_feeOf_51 rfl ?_
      refine wp_istore (ls' := [some (.ref 1), some (.ref (thA h u)), some (.int (nI (sF S u))), some (.int (nI (sL S u))), some (va_rf none), some (.int 0), some (.int (nI (sF S u))), none]) eX5_feeOf_52 rfl rfl ?_
      exact lX5_feeOf d hR hW u hu (sF S u) (sL S u) w4 _ (sL S u + 1 - sF S u) (sF S u) _ _ (by omega) (Nat.le_refl _) (by rw [Nat.sub_self]; simp only [sFeeN]; first | (rw [if_pos c0]; done) | (rw [if_neg c0, ek0, ec0]; done))
    · refine wp_aload_n eX5_feeOf_16 rfl ?_
      refine wp_virt (rv := (some (.int (S 10 0 / 1440)))) (h' := h) (r := []) eX5_feeOf_17 [] rfl rfl rfl (show Ob h 1 5 from hC.ob) (bX5_today _ hR hW) ?_
      refine wp_goto eX5_feeOf_20 ?_
      rw [show S 10 0 / 1440 = nI (sL S u) by rw [← w3]; unfold sLd; first | (rw [if_pos (by rw [Decidable.not_not.mp c_13]; decide)]; done) | (rw [if_neg (fun z => c_13 (hn1 z))]; done)]
      refine wp_istore_n (ls' := [some (.ref 1), some (.ref (thA h u)), some (.int (nI (sF S u))), some (.int (nI (sL S u))), none, none, none, none]) eX5_feeOf_27 rfl rfl ?_
      refine wp_aload_n eX5_feeOf_28 rfl ?_
      refine wp_iload_n eX5_feeOf_29 rfl ?_
      refine wp_virt (rv := (some (va_rf none))) (h' := h) (r := []) eX5_feeOf_30 [.int (nI (sF S u))] rfl rfl rfl (show Ob h 1 5 from hC.ob) (show Res (d + 2) nX5_rowOn _ _ (some (va_rf none)) _ by rw [← cRow_none c0]; exact bX5_rowOn _ hR hW _) ?_
      refine wp_astoreO (ls' := [some (.ref 1), some (.ref (thA h u)), some (.int (nI (sF S u))), some (.int (nI (sL S u))), some (va_rf none), none, none, none]) eX5_feeOf_33 rfl rfl ?_
      refine wp_aloadO eX5_feeOf_35 rfl ?_
      refine wp_ifnonnullF eX5_feeOf_37 ?_
      refine wp_iconst (v := 0) eX5_feeOf_40 rfl ?_
      refine wp_goto eX5_feeOf_41 ?_
      refine wp_istore (ls' := [some (.ref 1), some (.ref (thA h u)), some (.int (nI (sF S u))), some (.int (nI (sL S u))), some (va_rf none), some (.int 0), none, none]) eX5_feeOf_49 rfl rfl ?_
      refine wp_iload_n eX5_feeOf_51 rfl ?_
      refine wp_istore (ls' := [some (.ref 1), some (.ref (thA h u)), some (.int (nI (sF S u))), some (.int (nI (sL S u))), some (va_rf none), some (.int 0), some (.int (nI (sF S u))), none]) eX5_feeOf_52 rfl rfl ?_
      exact lX5_feeOf d hR hW u hu (sF S u) (sL S u) w4 _ (sL S u + 1 - sF S u) (sF S u) _ _ (by omega) (Nat.le_refl _) (by rw [Nat.sub_self]; simp only [sFeeN]; first | (rw [if_pos c0]; done) | (rw [if_neg c0, ek0, ec0]; done))
  · refine wp_aload_n eX5_feeOf_0 rfl ?_
    refine wp_getI (v := S 25 u) eX5_feeOf_1 (show Ob h (thA h u) 4 from hR.th_ob u (by omega)) rfl (hR.th6 u (by omega)) ?_
    refine wp_stat (rv := (some (.int ((S 25 u) / 1440)))) (h' := h) (r := []) eX5_feeOf_4 [.int (S 25 u)] rfl rfl rfl rfl (rX5_dayOf _ _) ?_
    refine wp_top (y := nI (sF S u)) w1 ?_
    refine wp_istore_n (ls' := [some (.ref 1), some (.ref (thA h u)), some (.int (nI (sF S u))), none, none, none, none, none]) eX5_feeOf_7 rfl rfl ?_
    refine wp_aload_n eX5_feeOf_8 rfl ?_
    refine wp_getI (v := S 29 u) eX5_feeOf_9 (show Ob h (thA h u) 4 from hR.th_ob u (by omega)) rfl (hR.th10 u (by omega)) ?_
    refine wp_iconst (v := (-1)) eX5_feeOf_12 rfl ?_
    refine wp_icmp eX5_feeOf_13 (fun (c_13 : ¬ (S 29 u) = ((-1))) => ?_) (fun (c_13 : ¬ (¬ (S 29 u) = ((-1)))) => ?_)
    · refine wp_aload_n eX5_feeOf_23 rfl ?_
      refine wp_getI (v := S 29 u) eX5_feeOf_24 (show Ob h (thA h u) 4 from hR.th_ob u (by omega)) rfl (hR.th10 u (by omega)) ?_
      rw [show S 29 u = nI (sL S u) by rw [← w3]; unfold sLd; first | (rw [if_pos (by rw [Decidable.not_not.mp c_13]; decide)]; done) | (rw [if_neg (fun z => c_13 (hn1 z))]; done)]
      refine wp_istore_n (ls' := [some (.ref 1), some (.ref (thA h u)), some (.int (nI (sF S u))), some (.int (nI (sL S u))), none, none, none, none]) eX5_feeOf_27 rfl rfl ?_
      refine wp_aload_n eX5_feeOf_28 rfl ?_
      refine wp_iload_n eX5_feeOf_29 rfl ?_
      obtain ⟨k0, hk0, ek0⟩ := sRow_get hW.1.2 (Int32.not_lt.mp c0)
      have ec0 : (nI k0).toNatClampNeg = k0 := nI_clamp (by omega)
      refine wp_virt (rv := (some (.ref (roA h k0)))) (h' := h) (r := []) eX5_feeOf_30 [.int (nI (sF S u))] rfl rfl rfl (show Ob h 1 5 from hC.ob) (show Res (d + 2) nX5_rowOn _ _ (some (va_rf (some (roA h k0)))) _ by rw [← cRow_some (by omega) ek0]; exact bX5_rowOn _ hR hW _) ?_
      refine wp_astore (ls' := [some (.ref 1), some (.ref (thA h u)), some (.int (nI (sF S u))), some (.int (nI (sL S u))), some (.ref (roA h k0)), none, none, none]) eX5_feeOf_33 rfl rfl ?_
      refine wp_aload eX5_feeOf_35 rfl ?_
      refine wp_ifnonnullT eX5_feeOf_37 ?_
      refine wp_aload eX5_feeOf_44 rfl ?_
      refine wp_getI (v := S 12 k0) eX5_feeOf_46 (show Ob h (roA h k0) 2 from hR.ro_ob k0 (by omega)) rfl (hR.ro1 k0 (by omega)) ?_
      refine wp_istore (ls' := [some (.ref 1), some (.ref (thA h u)), some (.int (nI (sF S u))), some (.int (nI (sL S u))), some (.ref (roA h k0)), some (.int (S 12 k0)), none, none]) eX5_feeOf_49 rfl rfl ?_
      refine wp_iload_n eX5_feeOf_51 rfl ?_
      refine wp_istore (ls' := [some (.ref 1), some (.ref (thA h u)), some (.int (nI (sF S u))), some (.int (nI (sL S u))), some (.ref (roA h k0)), some (.int (S 12 k0)), some (.int (nI (sF S u))), none]) eX5_feeOf_52 rfl rfl ?_
      exact lX5_feeOf d hR hW u hu (sF S u) (sL S u) w4 _ (sL S u + 1 - sF S u) (sF S u) _ _ (by omega) (Nat.le_refl _) (by rw [Nat.sub_self]; simp only [sFeeN]; first | (rw [if_pos c0]; done) | (rw [if_neg c0, ek0, ec0]; done))
    · refine wp_aload_n eX5_feeOf_16 rfl ?_
      refine wp_virt (rv := (some (.int (S 10 0 / 1440)))) (h' := h) (r := []) eX5_feeOf_17 [] rfl rfl rfl (show Ob h 1 5 from hC.ob) (bX5_today _ hR hW) ?_
      refine wp_goto eX5_feeOf_20 ?_
      rw [show S 10 0 / 1440 = nI (sL S u) by rw [← w3]; unfold sLd; first | (rw [if_pos (by rw [Decidable.not_not.mp c_13]; decide)]; done) | (rw [if_neg (fun z => c_13 (hn1 z))]; done)]
      refine wp_istore_n (ls' := [some (.ref 1), some (.ref (thA h u)), some (.int (nI (sF S u))), some (.int (nI (sL S u))), none, none, none, none]) eX5_feeOf_27 rfl rfl ?_
      refine wp_aload_n eX5_feeOf_28 rfl ?_
      refine wp_iload_n eX5_feeOf_29 rfl ?_
      obtain ⟨k0, hk0, ek0⟩ := sRow_get hW.1.2 (Int32.not_lt.mp c0)
      have ec0 : (nI k0).toNatClampNeg = k0 := nI_clamp (by omega)
      refine wp_virt (rv := (some (.ref (roA h k0)))) (h' := h) (r := []) eX5_feeOf_30 [.int (nI (sF S u))] rfl rfl rfl (show Ob h 1 5 from hC.ob) (show Res (d + 2) nX5_rowOn _ _ (some (va_rf (some (roA h k0)))) _ by rw [← cRow_some (by omega) ek0]; exact bX5_rowOn _ hR hW _) ?_
      refine wp_astore (ls' := [some (.ref 1), some (.ref (thA h u)), some (.int (nI (sF S u))), some (.int (nI (sL S u))), some (.ref (roA h k0)), none, none, none]) eX5_feeOf_33 rfl rfl ?_
      refine wp_aload eX5_feeOf_35 rfl ?_
      refine wp_ifnonnullT eX5_feeOf_37 ?_
      refine wp_aload eX5_feeOf_44 rfl ?_
      refine wp_getI (v := S 12 k0) eX5_feeOf_46 (show Ob h (roA h k0) 2 from hR.ro_ob k0 (by omega)) rfl (hR.ro1 k0 (by omega)) ?_
      refine wp_istore (ls' := [some (.ref 1), some (.ref (thA h u)), some (.int (nI (sF S u))), some (.int (nI (sL S u))), some (.ref (roA h k0)), some (.int (S 12 k0)), none, none]) eX5_feeOf_49 rfl rfl ?_
      refine wp_iload_n eX5_feeOf_51 rfl ?_
      refine wp_istore (ls' := [some (.ref 1), some (.ref (thA h u)), some (.int (nI (sF S u))), some (.int (nI (sL S u))), some (.ref (roA h k0)), some (.int (S 12 k0)), some (.int (nI (sF S u))), none]) eX5_feeOf_52 rfl rfl ?_
      exact lX5_feeOf d hR hW u hu (sF S u) (sL S u) w4 _ (sL S u + 1 - sF S u) (sF S u) _ _ (by omega) (Nat.le_refl _) (by rw [Nat.sub_self]; simp only [sFeeN]; first | (rw [if_pos c0]; done) | (rw [if_neg c0, ek0, ec0]; done))

set_option maxRecDepth 4000 in
theorem lX5_misfit (d : Nat) {h : Hp} {S : St} (hR : CR S h) (hW : MW S) (hS : SR S) (hA : OA S) : ∀ (n t : Nat) (a : Int32) (x3 : Option Value), t + n = cT S → (a = sMisf S t) → WP kX5_misfit (Res (d + 3)) (fun r1 h1 => r1 = some (.int (sMisf S (cT S))) ∧ h1 = h) 4 [some (.ref 1), some (.int a), some (.int (nI t)), x3] [] h := by
  intro n
  induction n with
  | zero =>
    intro t a x3 hn ha
    have hC := hR.1
    have h5 := hW.1.2
    have h11 := hW.2.1.2
    have h12 := hW.2.2.1.2
    have h29 := hW.2.2.2.2
    refine wp_iload_n eX5_misfit_4 rfl ?_
    refine wp_aload_n eX5_misfit_5 rfl ?_
    refine wp_getI (v := S 10 12) eX5_misfit_6 (show Ob h 1 5 from hC.ob) rfl hR.c3 ?_
    refine wp_icmpT eX5_misfit_9 (show (S 10 12) ≤ (nI t) from (lp_ge hW.2.2.1.1 (by omega) (by omega))) ?_
    refine wp_iload_n eX5_misfit_47 rfl ?_
    exact wp_iret eX5_misfit_48 ⟨congrArg (fun z => some (Value.int z)) (by rw [ha, show t = cT S by omega]), rfl⟩
  | succ n ih =>
    intro t a x3 hn ha
    have hC := hR.1
    have h5 := hW.1.2
    have h11 := hW.2.1.2
    have h12 := hW.2.2.1.2
    have h29 := hW.2.2.2.2
    refine wp_iload_n eX5_misfit_4 rfl ?_
    refine wp_aload_n eX5_misfit_5 rfl ?_
    refine wp_getI (v := S 10 12) eX5_misfit_6 (show Ob h 1 5 from hC.ob) rfl hR.c3 ?_
    refine wp_icmpF eX5_misfit_9 (show ¬ ((S 10 12) ≤ (nI t)) from (lp_lt hW.2.2.1.1 (by omega) (by omega))) ?_
    refine wp_aload_n eX5_misfit_12 rfl ?_
    refine wp_getR (v := 3) eX5_misfit_13 (show Ob h 1 5 from hC.ob) rfl hC.r2 ?_
    refine wp_iload_n eX5_misfit_16 rfl ?_
    refine wp_aal (v := thA h t) (t := t) eX5_misfit_17 (show Ar h 3 10 120 from hC.a3) rfl rfl (by omega) rfl (hR.th_r t (by omega)) ?_
    refine wp_astore_n (ls' := [some (.ref 1), some (.int a), some (.int (nI t)), some (.ref (thA h t))]) eX5_misfit_18 rfl rfl ?_
    refine wp_aload_n eX5_misfit_19 rfl ?_
    refine wp_ifnullF eX5_misfit_20 ?_
    refine wp_aload_n eX5_misfit_23 rfl ?_
    refine wp_getI (v := S 26 t) eX5_misfit_24 (show Ob h (thA h t) 4 from hR.th_ob t (by omega)) rfl (hR.th7 t (by omega)) ?_
    refine wp_if eX5_misfit_27 (fun (c_27 : ¬ (S 26 t) = 0) => ?_) (fun (c_27 : ¬ (¬ (S 26 t) = 0)) => ?_)
    · refine wp_iinc (v := nI (t + 1)) (ls' := [some (.ref 1), some (.int a), some (.int (nI (t + 1))), some (.ref (thA h t))]) eX5_misfit_41 rfl (nI_1 t) rfl ?_
      refine wp_goto eX5_misfit_44 ?_
      exact ih (t + 1) _ _ (by omega) (by simp only [sMisf]; first | (rw [if_neg c_27]; exact ha) | (rw [if_pos h26, ha]; rfl))
    · have h26 : S 26 t = 0 := Decidable.not_not.mp c_27
      refine wp_iload_n eX5_misfit_30 rfl ?_
      refine wp_aload_n eX5_misfit_31 rfl ?_
      refine wp_aload_n eX5_misfit_32 rfl ?_
      refine wp_getI (v := S 10 0) eX5_misfit_33 (show Ob h 1 5 from hC.ob) rfl hR.c10 ?_
      refine wp_virt (rv := (some (.int (sMis S t (onN S t))))) (h' := h) (r := [.int a]) eX5_misfit_36 [.int (S 10 0)] rfl rfl rfl (show Ob h (thA h t) 4 from hR.th_ob t (by omega)) (bX4_misfitHere _ hR hS (by omega) h26 (hA _ (by omega) h26)) ?_
      refine wp_iadd eX5_misfit_39 ?_
      refine wp_istore_n (ls' := [some (.ref 1), some (.int (a + (sMis S t (onN S t)))), some (.int (nI t)), some (.ref (thA h t))]) eX5_misfit_40 rfl rfl ?_
      refine wp_iinc (v := nI (t + 1)) (ls' := [some (.ref 1), some (.int (a + (sMis S t (onN S t)))), some (.int (nI (t + 1))), some (.ref (thA h t))]) eX5_misfit_41 rfl (nI_1 t) rfl ?_
      refine wp_goto eX5_misfit_44 ?_
      exact ih (t + 1) _ _ (by omega) (by simp only [sMisf]; first | (rw [if_neg c_27]; exact ha) | (rw [if_pos h26, ha]; rfl))

set_option maxRecDepth 4000 in
theorem bX5_misfit (d : Nat) {h : Hp} {S : St} (hR : CR S h) (hW : MW S) (hS : SR S) (hA : OA S) : Res (d + 4) nX5_misfit [.ref 1] h (some (.int (sMisf S (cT S)))) h := by
  have hC := hR.1
  have h5 := hW.1.2
  have h11 := hW.2.1.2
  have h12 := hW.2.2.1.2
  have h29 := hW.2.2.2.2
  refine Res_intro (ls := [some (.ref 1), none, none, none]) aX5_misfit rfl rfl rfl rfl ?_
  show WP kX5_misfit _ _ _ _ _ _
  refine wp_iconst (v := 0) eX5_misfit_0 rfl ?_
  refine wp_istore_n (ls' := [some (.ref 1), some (.int 0), none, none]) eX5_misfit_1 rfl rfl ?_
  refine wp_iconst (v := 0) eX5_misfit_2 rfl ?_
  refine wp_istore_n (ls' := [some (.ref 1), some (.int 0), some (.int 0), none]) eX5_misfit_3 rfl rfl ?_
  exact lX5_misfit d hR hW hS hA (cT S) 0 _ _ (by omega) rfl
