/-! THE CLASS: sell, pay, settle, mark over the heap -/
theorem mn_stay (S : St) (t : Nat) : mn (sFee S t) (S 28 t) = sStay S t := by
  unfold mn sStay
  by_cases h : S 28 t < sFee S t
  · rw [if_pos h, if_pos (Int32.le_of_lt h)]
  · rw [if_neg h]
    by_cases e : S 28 t ≤ sFee S t
    · rw [if_pos e]; exact Int32.le_antisymm (Int32.not_lt.mp h) e
    · rw [if_neg e]
def cSellH (S : St) (h : Hp) (t : Nat) (c : Int32) : Hp := if sIn c 0 100000 = 0 then h else if ¬ S 26 t = 0 then h else if ¬ 7 ≤ S 10 0 / 1440 - S 24 t / 1440 then h else if ¬ S 20 (onN S t) = 0 then h else if S 31 t = 0 then am_setI (cLv (am_setI h (thA h t) 10 (S 10 0 / 1440)) (thA h t) (shA h (onN S t)) 2) (thA h t) 9 c else cLv (am_setI h (thA h t) 10 (S 10 0 / 1440)) (thA h t) (shA h (onN S t)) 5
def cPayH (S : St) (h : Hp) (t : Nat) : Hp := if ¬ S 26 t = 2 then h else if sOpen S = 0 then h else am_setI (am_setI (am_setI h 1 13 (S 10 3 + sStay S t)) (thA h t) 9 0) (thA h t) 7 3

set_option maxRecDepth 4000 in
theorem bX5_sell (d : Nat) {h : Hp} {S : St} (hR : CR S h) (hW : MW S) (t : Nat) (c : Int32) (ht : t < cT S) (hO : S 26 t = 0 → OW S t) : Res (d + 4) nX5_sell [.ref 1, .int (nI t), .int c] h (some (.int (sSell S t c))) (cSellH S h t c) := by
  have hC := hR.1
  have h5 := hW.1.2
  have h11 := hW.2.1.2
  have h12 := hW.2.2.1.2
  have h29 := hW.2.2.2.2
  have z0 := sIn_01 c 0 100000
  refine Res_intro (ls := [some (.ref 1), some (.int (nI t)), some (.int c), none]) aX5_sell rfl rfl rfl rfl ?_
  show WP kX5_sell _ _ _ _ _ _
  refine wp_aload_n eX5_sell_0 rfl ?_
  refine wp_iload_n eX5_sell_1 rfl ?_
  refine wp_virt (rv := (some (.ref (thA h t)))) (h' := h) (r := []) eX5_sell_2 [.int (nI t)] rfl rfl rfl (show Ob h 1 5 from hC.ob) (bX5_thingAt _ hR hW _ (by omega)) ?_
  refine wp_astore_n (ls' := [some (.ref 1), some (.int (nI t)), some (.int c), some (.ref (thA h t))]) eX5_sell_5 rfl rfl ?_
  refine wp_aload_n eX5_sell_6 rfl ?_
  refine wp_ifnullF eX5_sell_7 ?_
  refine wp_iload_n eX5_sell_10 rfl ?_
  refine wp_iconst (v := 0) eX5_sell_11 rfl ?_
  refine wp_ldc (v := 100000) eX5_sell_12 rfl ?_
  refine wp_stat (rv := (some (.int (sIn c 0 100000)))) (h' := h) (r := []) eX5_sell_14 [.int c, .int 0, .int 100000] rfl rfl rfl rfl (rX5_isWithin _ _ _ _) ?_
  refine wp_if eX5_sell_17 (fun (c_17 : ¬ (sIn c 0 100000) = 0) => ?_) (fun (c_17 : ¬ (¬ (sIn c 0 100000) = 0)) => ?_)
  · refine wp_aload_n eX5_sell_23 rfl ?_
    refine wp_getI (v := S 26 t) eX5_sell_24 (show Ob h (thA h t) 4 from hR.th_ob t (by omega)) rfl (hR.th7 t (by omega)) ?_
    refine wp_if eX5_sell_27 (fun (c_27 : (S 26 t) = 0) => ?_) (fun (c_27 : ¬ ((S 26 t) = 0)) => ?_)
    · refine wp_aload_n eX5_sell_33 rfl ?_
      refine wp_virt (rv := (some (.int (S 10 0 / 1440)))) (h' := h) (r := []) eX5_sell_34 [] rfl rfl rfl (show Ob h 1 5 from hC.ob) (bX5_today _ hR hW) ?_
      refine wp_aload_n eX5_sell_37 rfl ?_
      refine wp_virt (rv := (some (.int (S 24 t / 1440)))) (h' := h) (r := [.int (S 10 0 / 1440)]) eX5_sell_38 [] rfl rfl rfl (show Ob h (thA h t) 4 from hR.th_ob t (by omega)) (bX4_dueDay _ hR (by omega)) ?_
      refine wp_isub eX5_sell_41 ?_
      refine wp_bipush (v := 7) eX5_sell_42 rfl ?_
      refine wp_icmp eX5_sell_44 (fun (c_44 : 7 ≤ ((S 10 0 / 1440) - (S 24 t / 1440))) => ?_) (fun (c_44 : ¬ (7 ≤ ((S 10 0 / 1440) - (S 24 t / 1440)))) => ?_)
      · have h26 : S 26 t = 0 := c_27
        have hO := hO h26
        have hpl : am_r h (thA h t) 8 = some (shA h (onN S t)) := by rw [hR.th_p t ht, if_pos h26]
        refine wp_aload_n eX5_sell_50 rfl ?_
        refine wp_virt (rv := (some (.int (if S 20 (onN S t) = 0 then 0 else 1)))) (h' := h) (r := []) eX5_sell_51 [] rfl rfl rfl (show Ob h (thA h t) 4 from hR.th_ob t (by omega)) (bX4_isStuck _ hR ht h26 hO) ?_
        refine wp_if eX5_sell_54 (fun (c_54 : (if S 20 (onN S t) = 0 then 0 else 1) = 0) => ?_) (fun (c_54 : ¬ ((if S 20 (onN S t) = 0 then 0 else 1) = 0)) => ?_)
        · refine wp_aload_n eX5_sell_60 rfl ?_
          refine wp_aload_n eX5_sell_61 rfl ?_
          refine wp_virt (rv := (some (.int (S 10 0 / 1440)))) (h' := h) (r := [.ref (thA h t)]) eX5_sell_62 [] rfl rfl rfl (show Ob h 1 5 from hC.ob) (bX5_today _ hR hW) ?_
          refine wp_putI (h' := am_setI h (thA h t) 10 (S 10 0 / 1440)) eX5_sell_65 (show Ob h (thA h t) 4 from hR.th_ob t (by omega)) rfl rfl ?_
          refine wp_aload_n eX5_sell_68 rfl ?_
          refine wp_getI (v := S 31 t) eX5_sell_69 (show Ob (am_setI h (thA h t) 10 (S 10 0 / 1440)) (thA h t) 4 from hR.th_ob t (by omega)) rfl (by rw [am_ij_ne (by decide)]; exact hR.th3 t ht) ?_
          refine wp_if eX5_sell_72 (fun (c_72 : (S 31 t) = 0) => ?_) (fun (c_72 : ¬ ((S 31 t) = 0)) => ?_)
          · refine wp_aload_n eX5_sell_83 rfl ?_
            refine wp_aload_n eX5_sell_84 rfl ?_
            refine wp_iconst (v := 2) eX5_sell_85 rfl ?_
            refine wp_virt (rv := none) (h' := cLv (am_setI h (thA h t) 10 (S 10 0 / 1440)) (thA h t) (shA h (onN S t)) 2) (r := []) eX5_sell_86 [.ref (thA h t), .int 2] rfl rfl rfl (show Ob (am_setI h (thA h t) 10 (S 10 0 / 1440)) 1 5 from hC.ob) (rX5_takeAway (h := am_setI h (thA h t) 10 (S 10 0 / 1440)) _ hC.ob _ (hR.th_ob t ht) _ (hR.sh_ob _ hO.2) (show am_r (am_setI h (thA h t) 10 (S 10 0 / 1440)) (thA h t) 8 = some (shA h (onN S t)) by first | exact hpl | (simp only [am_setI, am_r]; exact hpl)) _) ?_
            refine wp_aload_n eX5_sell_89 rfl ?_
            refine wp_iload_n eX5_sell_90 rfl ?_
            refine wp_putI (h' := am_setI (cLv (am_setI h (thA h t) 10 (S 10 0 / 1440)) (thA h t) (shA h (onN S t)) 2) (thA h t) 9 c) eX5_sell_91 (show Ob (cLv (am_setI h (thA h t) 10 (S 10 0 / 1440)) (thA h t) (shA h (onN S t)) 2) (thA h t) 4 from hR.th_ob t (by omega)) rfl rfl ?_
            refine wp_iconst (v := 0) eX5_sell_94 rfl ?_
            exact wp_iret eX5_sell_95 ⟨congrArg (fun z => some (Value.int z)) (by simp only [sSell, decide_eq_true_eq]; (repeat' split) <;> first | rfl | (exfalso; simp_all; done) | (exfalso; simp only [Int32.lt_iff_toInt_lt, Int32.le_iff_toInt_le, ← Int32.toInt_inj, Int32.reduceToInt] at *; omega)), by simp only [cSellH, decide_eq_true_eq]; (repeat' split) <;> first | rfl | (exfalso; simp_all; done) | (exfalso; simp only [Int32.lt_iff_toInt_lt, Int32.le_iff_toInt_le, ← Int32.toInt_inj, Int32.reduceToInt] at *; omega)⟩
          · refine wp_aload_n eX5_sell_75 rfl ?_
            refine wp_aload_n eX5_sell_76 rfl ?_
            refine wp_iconst (v := 5) eX5_sell_77 rfl ?_
            refine wp_virt (rv := none) (h' := cLv (am_setI h (thA h t) 10 (S 10 0 / 1440)) (thA h t) (shA h (onN S t)) 5) (r := []) eX5_sell_78 [.ref (thA h t), .int 5] rfl rfl rfl (show Ob (am_setI h (thA h t) 10 (S 10 0 / 1440)) 1 5 from hC.ob) (rX5_takeAway (h := am_setI h (thA h t) 10 (S 10 0 / 1440)) _ hC.ob _ (hR.th_ob t ht) _ (hR.sh_ob _ hO.2) (show am_r (am_setI h (thA h t) 10 (S 10 0 / 1440)) (thA h t) 8 = some (shA h (onN S t)) by first | exact hpl | (simp only [am_setI, am_r]; exact hpl)) _) ?_
            refine wp_iconst (v := 1) eX5_sell_81 rfl ?_
            exact wp_iret eX5_sell_82 ⟨congrArg (fun z => some (Value.int z)) (by simp only [sSell, decide_eq_true_eq]; (repeat' split) <;> first | rfl | (exfalso; simp_all; done) | (exfalso; simp only [Int32.lt_iff_toInt_lt, Int32.le_iff_toInt_le, ← Int32.toInt_inj, Int32.reduceToInt] at *; omega)), by simp only [cSellH, decide_eq_true_eq]; (repeat' split) <;> first | rfl | (exfalso; simp_all; done) | (exfalso; simp only [Int32.lt_iff_toInt_lt, Int32.le_iff_toInt_le, ← Int32.toInt_inj, Int32.reduceToInt] at *; omega)⟩
        · refine wp_bipush (v := (-5)) eX5_sell_57 rfl ?_
          exact wp_iret eX5_sell_59 ⟨congrArg (fun z => some (Value.int z)) (by simp only [sSell, decide_eq_true_eq]; (repeat' split) <;> first | rfl | (exfalso; simp_all; done) | (exfalso; simp only [Int32.lt_iff_toInt_lt, Int32.le_iff_toInt_le, ← Int32.toInt_inj, Int32.reduceToInt] at *; omega)), by simp only [cSellH, decide_eq_true_eq]; (repeat' split) <;> first | rfl | (exfalso; simp_all; done) | (exfalso; simp only [Int32.lt_iff_toInt_lt, Int32.le_iff_toInt_le, ← Int32.toInt_inj, Int32.reduceToInt] at *; omega)⟩
      · refine wp_bipush (v := (-4)) eX5_sell_47 rfl ?_
        exact wp_iret eX5_sell_49 ⟨congrArg (fun z => some (Value.int z)) (by simp only [sSell, decide_eq_true_eq]; (repeat' split) <;> first | rfl | (exfalso; simp_all; done) | (exfalso; simp only [Int32.lt_iff_toInt_lt, Int32.le_iff_toInt_le, ← Int32.toInt_inj, Int32.reduceToInt] at *; omega)), by simp only [cSellH, decide_eq_true_eq]; (repeat' split) <;> first | rfl | (exfalso; simp_all; done) | (exfalso; simp only [Int32.lt_iff_toInt_lt, Int32.le_iff_toInt_le, ← Int32.toInt_inj, Int32.reduceToInt] at *; omega)⟩
    · refine wp_bipush (v := (-3)) eX5_sell_30 rfl ?_
      exact wp_iret eX5_sell_32 ⟨congrArg (fun z => some (Value.int z)) (by simp only [sSell, decide_eq_true_eq]; (repeat' split) <;> first | rfl | (exfalso; simp_all; done) | (exfalso; simp only [Int32.lt_iff_toInt_lt, Int32.le_iff_toInt_le, ← Int32.toInt_inj, Int32.reduceToInt] at *; omega)), by simp only [cSellH, decide_eq_true_eq]; (repeat' split) <;> first | rfl | (exfalso; simp_all; done) | (exfalso; simp only [Int32.lt_iff_toInt_lt, Int32.le_iff_toInt_le, ← Int32.toInt_inj, Int32.reduceToInt] at *; omega)⟩
  · refine wp_bipush (v := (-2)) eX5_sell_20 rfl ?_
    exact wp_iret eX5_sell_22 ⟨congrArg (fun z => some (Value.int z)) (by simp only [sSell, decide_eq_true_eq]; (repeat' split) <;> first | rfl | (exfalso; simp_all; done) | (exfalso; simp only [Int32.lt_iff_toInt_lt, Int32.le_iff_toInt_le, ← Int32.toInt_inj, Int32.reduceToInt] at *; omega)), by simp only [cSellH, decide_eq_true_eq]; (repeat' split) <;> first | rfl | (exfalso; simp_all; done) | (exfalso; simp only [Int32.lt_iff_toInt_lt, Int32.le_iff_toInt_le, ← Int32.toInt_inj, Int32.reduceToInt] at *; omega)⟩

set_option maxRecDepth 4000 in
theorem bX5_sell_out (d : Nat) {h : Hp} {S : St} (hR : CR S h) (hW : MW S) (x c : Int32) (hx : ∀ c, c < cT S → ¬ x = nI c) : Res (d + 4) nX5_sell [.ref 1, .int x, .int c] h (some (.int (-2))) h := by
  have hC := hR.1
  have h5 := hW.1.2
  have h11 := hW.2.1.2
  have h12 := hW.2.2.1.2
  have h29 := hW.2.2.2.2
  refine Res_intro (ls := [some (.ref 1), some (.int x), some (.int c), none]) aX5_sell rfl rfl rfl rfl ?_
  show WP kX5_sell _ _ _ _ _ _
  refine wp_aload_n eX5_sell_0 rfl ?_
  refine wp_iload_n eX5_sell_1 rfl ?_
  refine wp_virt (rv := (some (va_rf none))) (h' := h) (r := []) eX5_sell_2 [.int x] rfl rfl rfl (show Ob h 1 5 from hC.ob) (bX5_thingAtN _ hR hW _ hx) ?_
  refine wp_astore_nO (ls' := [some (.ref 1), some (.int x), some (.int c), some (va_rf none)]) eX5_sell_5 rfl rfl ?_
  refine wp_aload_nO eX5_sell_6 rfl ?_
  refine wp_ifnullT eX5_sell_7 ?_
  refine wp_bipush (v := (-2)) eX5_sell_20 rfl ?_
  exact wp_iret eX5_sell_22 ⟨congrArg (fun z => some (Value.int z)) (rfl), rfl⟩

set_option maxRecDepth 4000 in
theorem bX5_pay (d : Nat) {h : Hp} {S : St} (hR : CR S h) (hW : MW S) (x : Int32) (t : Nat) (ht : t < cT S) (hx : sThOf S x = nI t) (hF : FW S t) (hle : sF S t ≤ sL S t + 1) (hn1 : S 29 t < 0 → S 29 t = -1) : Res (d + 4) nX5_pay [.ref 1, .int x] h (some (.int (sPay S t))) (cPayH S h t) := by
  have hC := hR.1
  have h5 := hW.1.2
  have h11 := hW.2.1.2
  have h12 := hW.2.2.1.2
  have h29 := hW.2.2.2.2
  obtain ⟨t1, t2⟩ := sThOf_in (by omega) hx
  refine Res_intro (ls := [some (.ref 1), some (.int x), none, none, none]) aX5_pay rfl rfl rfl rfl ?_
  show WP kX5_pay _ _ _ _ _ _
  refine wp_iload_n eX5_pay_0 rfl ?_
  refine wp_stat (rv := (some (.int (cTkt x)))) (h' := h) (r := []) eX5_pay_1 [.int x] rfl rfl rfl rfl (rX5_isTicket _ _) ?_
  refine wp_ifT eX5_pay_4 (show ¬ (cTkt x) = 0 from (by rw [t1]; decide)) ?_
  refine wp_aload_n eX5_pay_10 rfl ?_
  refine wp_iload_n eX5_pay_11 rfl ?_
  refine wp_bipush (v := 100) eX5_pay_12 rfl ?_
  refine wp_idiv eX5_pay_14 (by decide) ?_
  refine wp_top (y := nI t) t2 ?_
  refine wp_virt (rv := (some (.ref (thA h t)))) (h' := h) (r := []) eX5_pay_15 [.int (nI t)] rfl rfl rfl (show Ob h 1 5 from hC.ob) (bX5_thingAt _ hR hW _ (by omega)) ?_
  refine wp_astore_n (ls' := [some (.ref 1), some (.int x), some (.ref (thA h t)), none, none]) eX5_pay_18 rfl rfl ?_
  refine wp_aload_n eX5_pay_19 rfl ?_
  refine wp_ifnonnullT eX5_pay_20 ?_
  refine wp_aload_n eX5_pay_26 rfl ?_
  refine wp_getI (v := S 26 t) eX5_pay_27 (show Ob h (thA h t) 4 from hR.th_ob t (by omega)) rfl (hR.th7 t (by omega)) ?_
  refine wp_iconst (v := 2) eX5_pay_30 rfl ?_
  refine wp_icmp eX5_pay_31 (fun (c_31 : (S 26 t) = 2) => ?_) (fun (c_31 : ¬ ((S 26 t) = 2)) => ?_)
  · refine wp_aload_n eX5_pay_37 rfl ?_
    refine wp_virt (rv := (some (.int (sOpen S)))) (h' := h) (r := []) eX5_pay_38 [] rfl rfl rfl (show Ob h 1 5 from hC.ob) (bX5_isOpen _ hR hW) ?_
    refine wp_if eX5_pay_41 (fun (c_41 : ¬ (sOpen S) = 0) => ?_) (fun (c_41 : ¬ (¬ (sOpen S) = 0)) => ?_)
    · refine wp_aload_n eX5_pay_47 rfl ?_
      refine wp_aload_n eX5_pay_48 rfl ?_
      refine wp_virt (rv := (some (.int (sFee S t)))) (h' := h) (r := []) eX5_pay_49 [.ref (thA h t)] rfl rfl rfl (show Ob h 1 5 from hC.ob) (bX5_feeOf _ hR hW _ (by omega) hF hle hn1) ?_
      refine wp_aload_n eX5_pay_52 rfl ?_
      refine wp_getI (v := S 28 t) eX5_pay_53 (show Ob h (thA h t) 4 from hR.th_ob t (by omega)) rfl (hR.th9 t (by omega)) ?_
      refine wp_min eX5_pay_56 rfl ?_
      refine wp_top (y := sStay S t) (mn_stay S t) ?_
      refine wp_istore_n (ls' := [some (.ref 1), some (.int x), some (.ref (thA h t)), some (.int (sStay S t)), none]) eX5_pay_59 rfl rfl ?_
      refine wp_aload_n eX5_pay_60 rfl ?_
      refine wp_getI (v := S 28 t) eX5_pay_61 (show Ob h (thA h t) 4 from hR.th_ob t (by omega)) rfl (hR.th9 t (by omega)) ?_
      refine wp_iload_n eX5_pay_64 rfl ?_
      refine wp_isub eX5_pay_65 ?_
      refine wp_istore (ls' := [some (.ref 1), some (.int x), some (.ref (thA h t)), some (.int (sStay S t)), some (.int ((S 28 t) - (sStay S t)))]) eX5_pay_66 rfl rfl ?_
      refine wp_aload_n eX5_pay_68 rfl ?_
      refine wp_dup eX5_pay_69 rfl ?_
      refine wp_getI (v := S 10 3) eX5_pay_70 (show Ob h 1 5 from hC.ob) rfl hR.c13 ?_
      refine wp_iload_n eX5_pay_73 rfl ?_
      refine wp_iadd eX5_pay_74 ?_
      refine wp_putI (h' := am_setI h 1 13 ((S 10 3) + (sStay S t))) eX5_pay_75 (show Ob h 1 5 from hC.ob) rfl rfl ?_
      refine wp_aload_n eX5_pay_78 rfl ?_
      refine wp_iconst (v := 0) eX5_pay_79 rfl ?_
      refine wp_putI (h' := am_setI (am_setI h 1 13 ((S 10 3) + (sStay S t))) (thA h t) 9 0) eX5_pay_80 (show Ob (am_setI h 1 13 ((S 10 3) + (sStay S t))) (thA h t) 4 from hR.th_ob t (by omega)) rfl rfl ?_
      refine wp_aload_n eX5_pay_83 rfl ?_
      refine wp_iconst (v := 3) eX5_pay_84 rfl ?_
      refine wp_putI (h' := am_setI (am_setI (am_setI h 1 13 ((S 10 3) + (sStay S t))) (thA h t) 9 0) (thA h t) 7 3) eX5_pay_85 (show Ob (am_setI (am_setI h 1 13 ((S 10 3) + (sStay S t))) (thA h t) 9 0) (thA h t) 4 from hR.th_ob t (by omega)) rfl rfl ?_
      refine wp_iload eX5_pay_88 rfl ?_
      exact wp_iret eX5_pay_90 ⟨congrArg (fun z => some (Value.int z)) (by simp only [sPay, decide_eq_true_eq]; (repeat' split) <;> first | rfl | (exfalso; simp_all; done) | (exfalso; simp only [Int32.lt_iff_toInt_lt, Int32.le_iff_toInt_le, ← Int32.toInt_inj, Int32.reduceToInt] at *; omega)), by simp only [cPayH, decide_eq_true_eq]; (repeat' split) <;> first | rfl | (exfalso; simp_all; done) | (exfalso; simp only [Int32.lt_iff_toInt_lt, Int32.le_iff_toInt_le, ← Int32.toInt_inj, Int32.reduceToInt] at *; omega)⟩
    · refine wp_bipush (v := (-6)) eX5_pay_44 rfl ?_
      exact wp_iret eX5_pay_46 ⟨congrArg (fun z => some (Value.int z)) (by simp only [sPay, decide_eq_true_eq]; (repeat' split) <;> first | rfl | (exfalso; simp_all; done) | (exfalso; simp only [Int32.lt_iff_toInt_lt, Int32.le_iff_toInt_le, ← Int32.toInt_inj, Int32.reduceToInt] at *; omega)), by simp only [cPayH, decide_eq_true_eq]; (repeat' split) <;> first | rfl | (exfalso; simp_all; done) | (exfalso; simp only [Int32.lt_iff_toInt_lt, Int32.le_iff_toInt_le, ← Int32.toInt_inj, Int32.reduceToInt] at *; omega)⟩
  · refine wp_bipush (v := (-4)) eX5_pay_34 rfl ?_
    exact wp_iret eX5_pay_36 ⟨congrArg (fun z => some (Value.int z)) (by simp only [sPay, decide_eq_true_eq]; (repeat' split) <;> first | rfl | (exfalso; simp_all; done) | (exfalso; simp only [Int32.lt_iff_toInt_lt, Int32.le_iff_toInt_le, ← Int32.toInt_inj, Int32.reduceToInt] at *; omega)), by simp only [cPayH, decide_eq_true_eq]; (repeat' split) <;> first | rfl | (exfalso; simp_all; done) | (exfalso; simp only [Int32.lt_iff_toInt_lt, Int32.le_iff_toInt_le, ← Int32.toInt_inj, Int32.reduceToInt] at *; omega)⟩

set_option maxRecDepth 4000 in
theorem bX5_pay_out2 (d : Nat) {h : Hp} {S : St} (hR : CR S h) (hW : MW S) (x : Int32) (hx : cTkt x = 0) : Res (d + 4) nX5_pay [.ref 1, .int x] h (some (.int (-2))) h := by
  have hC := hR.1
  have h5 := hW.1.2
  have h11 := hW.2.1.2
  have h12 := hW.2.2.1.2
  have h29 := hW.2.2.2.2
  refine Res_intro (ls := [some (.ref 1), some (.int x), none, none, none]) aX5_pay rfl rfl rfl rfl ?_
  show WP kX5_pay _ _ _ _ _ _
  refine wp_iload_n eX5_pay_0 rfl ?_
  refine wp_stat (rv := (some (.int (cTkt x)))) (h' := h) (r := []) eX5_pay_1 [.int x] rfl rfl rfl rfl (rX5_isTicket _ _) ?_
  refine wp_ifF eX5_pay_4 (show ¬ (¬ (cTkt x) = 0) from (fun q => q hx)) ?_
  refine wp_bipush (v := (-2)) eX5_pay_7 rfl ?_
  exact wp_iret eX5_pay_9 ⟨congrArg (fun z => some (Value.int z)) (rfl), rfl⟩

set_option maxRecDepth 4000 in
theorem bX5_pay_out3 (d : Nat) {h : Hp} {S : St} (hR : CR S h) (hW : MW S) (x : Int32) (ht : cTkt x = 1) (hx : ∀ c, c < cT S → ¬ x / 100 = nI c) : Res (d + 4) nX5_pay [.ref 1, .int x] h (some (.int (-3))) h := by
  have hC := hR.1
  have h5 := hW.1.2
  have h11 := hW.2.1.2
  have h12 := hW.2.2.1.2
  have h29 := hW.2.2.2.2
  refine Res_intro (ls := [some (.ref 1), some (.int x), none, none, none]) aX5_pay rfl rfl rfl rfl ?_
  show WP kX5_pay _ _ _ _ _ _
  refine wp_iload_n eX5_pay_0 rfl ?_
  refine wp_stat (rv := (some (.int (cTkt x)))) (h' := h) (r := []) eX5_pay_1 [.int x] rfl rfl rfl rfl (rX5_isTicket _ _) ?_
  refine wp_ifT eX5_pay_4 (show ¬ (cTkt x) = 0 from (by rw [ht]; decide)) ?_
  refine wp_aload_n eX5_pay_10 rfl ?_
  refine wp_iload_n eX5_pay_11 rfl ?_
  refine wp_bipush (v := 100) eX5_pay_12 rfl ?_
  refine wp_idiv eX5_pay_14 (by decide) ?_
  refine wp_virt (rv := (some (va_rf none))) (h' := h) (r := []) eX5_pay_15 [.int (x / 100)] rfl rfl rfl (show Ob h 1 5 from hC.ob) (bX5_thingAtN _ hR hW _ hx) ?_
  refine wp_astore_nO (ls' := [some (.ref 1), some (.int x), some (va_rf none), none, none]) eX5_pay_18 rfl rfl ?_
  refine wp_aload_nO eX5_pay_19 rfl ?_
  refine wp_ifnonnullF eX5_pay_20 ?_
  refine wp_bipush (v := (-3)) eX5_pay_23 rfl ?_
  exact wp_iret eX5_pay_25 ⟨congrArg (fun z => some (Value.int z)) (rfl), rfl⟩

set_option maxRecDepth 4000 in
theorem bX5_give_outA (d : Nat) {h : Hp} {S : St} (hR : CR S h) (hW : MW S) (x v : Int32) (hfee : Res (d + 4) nX5_fee [.ref 1, .int x] h (some (.int v)) h) (hv : v < 0) (k : Nat) (hk : k < cT S) (hq : x / 100 = nI k) : Res (d + 5) nX5_give [.ref 1, .int x] h (some (.int v)) h := by
  have hC := hR.1
  have h5 := hW.1.2
  have h11 := hW.2.1.2
  have h12 := hW.2.2.1.2
  have h29 := hW.2.2.2.2
  refine Res_intro (ls := [some (.ref 1), some (.int x), none, none]) aX5_give rfl rfl rfl rfl ?_
  show WP kX5_give _ _ _ _ _ _
  refine wp_aload_n eX5_give_0 rfl ?_
  refine wp_iload_n eX5_give_1 rfl ?_
  refine wp_virt (rv := (some (.int v))) (h' := h) (r := []) eX5_give_2 [.int x] rfl rfl rfl (show Ob h 1 5 from hC.ob) hfee ?_
  refine wp_istore_n (ls' := [some (.ref 1), some (.int x), some (.int v), none]) eX5_give_5 rfl rfl ?_
  refine wp_aload_n eX5_give_6 rfl ?_
  refine wp_iload_n eX5_give_7 rfl ?_
  refine wp_bipush (v := 100) eX5_give_8 rfl ?_
  refine wp_idiv eX5_give_10 (by decide) ?_
  refine wp_top (y := nI k) hq ?_
  refine wp_virt (rv := (some (.ref (thA h k)))) (h' := h) (r := []) eX5_give_11 [.int (nI k)] rfl rfl rfl (show Ob h 1 5 from hC.ob) (bX5_thingAt _ hR hW _ (by omega)) ?_
  refine wp_astore_n (ls' := [some (.ref 1), some (.int x), some (.int v), some (.ref (thA h k))]) eX5_give_14 rfl rfl ?_
  refine wp_iload_n eX5_give_15 rfl ?_
  refine wp_ifT eX5_give_16 (show v < 0 from hv) ?_
  refine wp_iload_n eX5_give_23 rfl ?_
  exact wp_iret eX5_give_24 ⟨congrArg (fun z => some (Value.int z)) (rfl), rfl⟩

set_option maxRecDepth 4000 in
theorem bX5_give_outB (d : Nat) {h : Hp} {S : St} (hR : CR S h) (hW : MW S) (x v : Int32) (hfee : Res (d + 4) nX5_fee [.ref 1, .int x] h (some (.int v)) h) (hv : v < 0) (hx : ∀ c, c < cT S → ¬ x / 100 = nI c) : Res (d + 5) nX5_give [.ref 1, .int x] h (some (.int v)) h := by
  have hC := hR.1
  have h5 := hW.1.2
  have h11 := hW.2.1.2
  have h12 := hW.2.2.1.2
  have h29 := hW.2.2.2.2
  refine Res_intro (ls := [some (.ref 1), some (.int x), none, none]) aX5_give rfl rfl rfl rfl ?_
  show WP kX5_give _ _ _ _ _ _
  refine wp_aload_n eX5_give_0 rfl ?_
  refine wp_iload_n eX5_give_1 rfl ?_
  refine wp_virt (rv := (some (.int v))) (h' := h) (r := []) eX5_give_2 [.int x] rfl rfl rfl (show Ob h 1 5 from hC.ob) hfee ?_
  refine wp_istore_n (ls' := [some (.ref 1), some (.int x), some (.int v), none]) eX5_give_5 rfl rfl ?_
  refine wp_aload_n eX5_give_6 rfl ?_
  refine wp_iload_n eX5_give_7 rfl ?_
  refine wp_bipush (v := 100) eX5_give_8 rfl ?_
  refine wp_idiv eX5_give_10 (by decide) ?_
  refine wp_virt (rv := (some (va_rf none))) (h' := h) (r := []) eX5_give_11 [.int (x / 100)] rfl rfl rfl (show Ob h 1 5 from hC.ob) (bX5_thingAtN _ hR hW _ hx) ?_
  refine wp_astore_nO (ls' := [some (.ref 1), some (.int x), some (.int v), some (va_rf none)]) eX5_give_14 rfl rfl ?_
  refine wp_iload_n eX5_give_15 rfl ?_
  refine wp_ifT eX5_give_16 (show v < 0 from hv) ?_
  refine wp_iload_n eX5_give_23 rfl ?_
  exact wp_iret eX5_give_24 ⟨congrArg (fun z => some (Value.int z)) (rfl), rfl⟩

set_option maxRecDepth 4000 in
theorem bX5_settle_out (d : Nat) {h : Hp} {S : St} (hR : CR S h) (hW : MW S) (x : Int32) (hx : ∀ c, c < cC S → ¬ x = nI c) : Res (d + 5) nX5_settle [.ref 1, .int x] h (some (.int (-2))) h := by
  have hC := hR.1
  have h5 := hW.1.2
  have h11 := hW.2.1.2
  have h12 := hW.2.2.1.2
  have h29 := hW.2.2.2.2
  refine Res_intro (ls := [some (.ref 1), some (.int x), none, none, none, none]) aX5_settle rfl rfl rfl rfl ?_
  show WP kX5_settle _ _ _ _ _ _
  refine wp_aload_n eX5_settle_0 rfl ?_
  refine wp_iload_n eX5_settle_1 rfl ?_
  refine wp_virt (rv := (some (va_rf none))) (h' := h) (r := []) eX5_settle_2 [.int x] rfl rfl rfl (show Ob h 1 5 from hC.ob) (bX5_claimAtN _ hR hW _ hx) ?_
  refine wp_astore_nO (ls' := [some (.ref 1), some (.int x), some (va_rf none), none, none, none]) eX5_settle_5 rfl rfl ?_
  refine wp_aload_nO eX5_settle_6 rfl ?_
  refine wp_ifnullT eX5_settle_7 ?_
  refine wp_bipush (v := (-2)) eX5_settle_17 rfl ?_
  exact wp_iret eX5_settle_19 ⟨congrArg (fun z => some (Value.int z)) (rfl), rfl⟩

set_option maxRecDepth 4000 in
theorem bX5_settle2 (d : Nat) {h : Hp} {S : St} (hR : CR S h) (hW : MW S) (c : Nat) (hc : c < cC S) (hTA : ∀ c, c < cC S → TI S c) (h34 : ¬ S 34 c = 0) : Res (d + 5) nX5_settle [.ref 1, .int (nI c)] h (some (.int (-2))) h := by
  have hC := hR.1
  have h5 := hW.1.2
  have h11 := hW.2.1.2
  have h12 := hW.2.2.1.2
  have h29 := hW.2.2.2.2
  have hT := hTA c hc
  refine Res_intro (ls := [some (.ref 1), some (.int (nI c)), none, none, none, none]) aX5_settle rfl rfl rfl rfl ?_
  show WP kX5_settle _ _ _ _ _ _
  refine wp_aload_n eX5_settle_0 rfl ?_
  refine wp_iload_n eX5_settle_1 rfl ?_
  refine wp_virt (rv := (some (.ref (clA h c)))) (h' := h) (r := []) eX5_settle_2 [.int (nI c)] rfl rfl rfl (show Ob h 1 5 from hC.ob) (bX5_claimAt _ hR hW _ (by omega)) ?_
  refine wp_astore_n (ls' := [some (.ref 1), some (.int (nI c)), some (.ref (clA h c)), none, none, none]) eX5_settle_5 rfl rfl ?_
  refine wp_aload_n eX5_settle_6 rfl ?_
  refine wp_ifnullF eX5_settle_7 ?_
  refine wp_aload_n eX5_settle_10 rfl ?_
  refine wp_getI (v := S 34 c) eX5_settle_11 (show Ob h (clA h c) 1 from hR.cl_ob c (by omega)) rfl (hR.cl1 c (by omega)) ?_
  refine wp_ifF eX5_settle_14 (show ¬ ((S 34 c) = 0) from h34) ?_
  refine wp_bipush (v := (-2)) eX5_settle_17 rfl ?_
  exact wp_iret eX5_settle_19 ⟨congrArg (fun z => some (Value.int z)) (rfl), rfl⟩

set_option maxRecDepth 4000 in
theorem bX5_settle3 (d : Nat) {h : Hp} {S : St} (hR : CR S h) (hW : MW S) (c : Nat) (hc : c < cC S) (hTA : ∀ c, c < cC S → TI S c) (h34 : S 34 c = 0) (h3 : ¬ 3 ≤ sTold S c 4) : Res (d + 5) nX5_settle [.ref 1, .int (nI c)] h (some (.int (-3))) h := by
  have hC := hR.1
  have h5 := hW.1.2
  have h11 := hW.2.1.2
  have h12 := hW.2.2.1.2
  have h29 := hW.2.2.2.2
  have hT := hTA c hc
  refine Res_intro (ls := [some (.ref 1), some (.int (nI c)), none, none, none, none]) aX5_settle rfl rfl rfl rfl ?_
  show WP kX5_settle _ _ _ _ _ _
  refine wp_aload_n eX5_settle_0 rfl ?_
  refine wp_iload_n eX5_settle_1 rfl ?_
  refine wp_virt (rv := (some (.ref (clA h c)))) (h' := h) (r := []) eX5_settle_2 [.int (nI c)] rfl rfl rfl (show Ob h 1 5 from hC.ob) (bX5_claimAt _ hR hW _ (by omega)) ?_
  refine wp_astore_n (ls' := [some (.ref 1), some (.int (nI c)), some (.ref (clA h c)), none, none, none]) eX5_settle_5 rfl rfl ?_
  refine wp_aload_n eX5_settle_6 rfl ?_
  refine wp_ifnullF eX5_settle_7 ?_
  refine wp_aload_n eX5_settle_10 rfl ?_
  refine wp_getI (v := S 34 c) eX5_settle_11 (show Ob h (clA h c) 1 from hR.cl_ob c (by omega)) rfl (hR.cl1 c (by omega)) ?_
  refine wp_ifT eX5_settle_14 (show (S 34 c) = 0 from h34) ?_
  refine wp_aload_n eX5_settle_20 rfl ?_
  refine wp_virt (rv := (some (.int (sTold S c 4)))) (h' := h) (r := []) eX5_settle_21 [] rfl rfl rfl (show Ob h (clA h c) 1 from hR.cl_ob c (by omega)) (bX1_toldCount _ hR hW _ (by omega) hT) ?_
  refine wp_iconst (v := 3) eX5_settle_24 rfl ?_
  refine wp_icmpF eX5_settle_25 (show ¬ (3 ≤ (sTold S c 4)) from h3) ?_
  refine wp_bipush (v := (-3)) eX5_settle_28 rfl ?_
  exact wp_iret eX5_settle_30 ⟨congrArg (fun z => some (Value.int z)) (rfl), rfl⟩

set_option maxRecDepth 4000 in
theorem bX5_settle4 (d : Nat) {h : Hp} {S : St} (hR : CR S h) (hW : MW S) (c : Nat) (hc : c < cC S) (hTA : ∀ c, c < cC S → TI S c) (h34 : S 34 c = 0) (h3 : 3 ≤ sTold S c 4) (hx : ∀ k, k < cT S → ¬ cFst S c (cT S) 0 = nI k) : Res (d + 5) nX5_settle [.ref 1, .int (nI c)] h (some (.int (-4))) h := by
  have hC := hR.1
  have h5 := hW.1.2
  have h11 := hW.2.1.2
  have h12 := hW.2.2.1.2
  have h29 := hW.2.2.2.2
  have hT := hTA c hc
  refine Res_intro (ls := [some (.ref 1), some (.int (nI c)), none, none, none, none]) aX5_settle rfl rfl rfl rfl ?_
  show WP kX5_settle _ _ _ _ _ _
  refine wp_aload_n eX5_settle_0 rfl ?_
  refine wp_iload_n eX5_settle_1 rfl ?_
  refine wp_virt (rv := (some (.ref (clA h c)))) (h' := h) (r := []) eX5_settle_2 [.int (nI c)] rfl rfl rfl (show Ob h 1 5 from hC.ob) (bX5_claimAt _ hR hW _ (by omega)) ?_
  refine wp_astore_n (ls' := [some (.ref 1), some (.int (nI c)), some (.ref (clA h c)), none, none, none]) eX5_settle_5 rfl rfl ?_
  refine wp_aload_n eX5_settle_6 rfl ?_
  refine wp_ifnullF eX5_settle_7 ?_
  refine wp_aload_n eX5_settle_10 rfl ?_
  refine wp_getI (v := S 34 c) eX5_settle_11 (show Ob h (clA h c) 1 from hR.cl_ob c (by omega)) rfl (hR.cl1 c (by omega)) ?_
  refine wp_ifT eX5_settle_14 (show (S 34 c) = 0 from h34) ?_
  refine wp_aload_n eX5_settle_20 rfl ?_
  refine wp_virt (rv := (some (.int (sTold S c 4)))) (h' := h) (r := []) eX5_settle_21 [] rfl rfl rfl (show Ob h (clA h c) 1 from hR.cl_ob c (by omega)) (bX1_toldCount _ hR hW _ (by omega) hT) ?_
  refine wp_iconst (v := 3) eX5_settle_24 rfl ?_
  refine wp_icmpT eX5_settle_25 (show 3 ≤ (sTold S c 4) from h3) ?_
  refine wp_aload_n eX5_settle_31 rfl ?_
  refine wp_aload_n eX5_settle_32 rfl ?_
  refine wp_virt (rv := (some (.int (cFst S c (cT S) 0)))) (h' := h) (r := []) eX5_settle_33 [.ref (clA h c)] rfl rfl rfl (show Ob h 1 5 from hC.ob) (bX5_firstMeantBy _ hR hW _ (by omega) hT) ?_
  refine wp_istore_n (ls' := [some (.ref 1), some (.int (nI c)), some (.ref (clA h c)), some (.int (cFst S c (cT S) 0)), none, none]) eX5_settle_36 rfl rfl ?_
  refine wp_aload_n eX5_settle_37 rfl ?_
  refine wp_iload_n eX5_settle_38 rfl ?_
  refine wp_virt (rv := (some (va_rf none))) (h' := h) (r := []) eX5_settle_39 [.int (cFst S c (cT S) 0)] rfl rfl rfl (show Ob h 1 5 from hC.ob) (bX5_thingAtN _ hR hW _ hx) ?_
  refine wp_astoreO (ls' := [some (.ref 1), some (.int (nI c)), some (.ref (clA h c)), some (.int (cFst S c (cT S) 0)), some (va_rf none), none]) eX5_settle_42 rfl rfl ?_
  refine wp_aloadO eX5_settle_44 rfl ?_
  refine wp_ifnonnullF eX5_settle_46 ?_
  refine wp_bipush (v := (-4)) eX5_settle_49 rfl ?_
  exact wp_iret eX5_settle_51 ⟨congrArg (fun z => some (Value.int z)) (rfl), rfl⟩

set_option maxRecDepth 4000 in
theorem bX5_settle5 (d : Nat) {h : Hp} {S : St} (hR : CR S h) (hW : MW S) (c : Nat) (hc : c < cC S) (hTA : ∀ c, c < cC S → TI S c) (h34 : S 34 c = 0) (h3 : 3 ≤ sTold S c 4) (t : Nat) (ht : t < cT S) (hf : cFst S c (cT S) 0 = nI t) (h1 : ¬ sMeans S c (cT S) ≤ 1) : Res (d + 5) nX5_settle [.ref 1, .int (nI c)] h (some (.int (-5))) h := by
  have hC := hR.1
  have h5 := hW.1.2
  have h11 := hW.2.1.2
  have h12 := hW.2.2.1.2
  have h29 := hW.2.2.2.2
  have hT := hTA c hc
  refine Res_intro (ls := [some (.ref 1), some (.int (nI c)), none, none, none, none]) aX5_settle rfl rfl rfl rfl ?_
  show WP kX5_settle _ _ _ _ _ _
  refine wp_aload_n eX5_settle_0 rfl ?_
  refine wp_iload_n eX5_settle_1 rfl ?_
  refine wp_virt (rv := (some (.ref (clA h c)))) (h' := h) (r := []) eX5_settle_2 [.int (nI c)] rfl rfl rfl (show Ob h 1 5 from hC.ob) (bX5_claimAt _ hR hW _ (by omega)) ?_
  refine wp_astore_n (ls' := [some (.ref 1), some (.int (nI c)), some (.ref (clA h c)), none, none, none]) eX5_settle_5 rfl rfl ?_
  refine wp_aload_n eX5_settle_6 rfl ?_
  refine wp_ifnullF eX5_settle_7 ?_
  refine wp_aload_n eX5_settle_10 rfl ?_
  refine wp_getI (v := S 34 c) eX5_settle_11 (show Ob h (clA h c) 1 from hR.cl_ob c (by omega)) rfl (hR.cl1 c (by omega)) ?_
  refine wp_ifT eX5_settle_14 (show (S 34 c) = 0 from h34) ?_
  refine wp_aload_n eX5_settle_20 rfl ?_
  refine wp_virt (rv := (some (.int (sTold S c 4)))) (h' := h) (r := []) eX5_settle_21 [] rfl rfl rfl (show Ob h (clA h c) 1 from hR.cl_ob c (by omega)) (bX1_toldCount _ hR hW _ (by omega) hT) ?_
  refine wp_iconst (v := 3) eX5_settle_24 rfl ?_
  refine wp_icmpT eX5_settle_25 (show 3 ≤ (sTold S c 4) from h3) ?_
  refine wp_aload_n eX5_settle_31 rfl ?_
  refine wp_aload_n eX5_settle_32 rfl ?_
  refine wp_virt (rv := (some (.int (cFst S c (cT S) 0)))) (h' := h) (r := []) eX5_settle_33 [.ref (clA h c)] rfl rfl rfl (show Ob h 1 5 from hC.ob) (bX5_firstMeantBy _ hR hW _ (by omega) hT) ?_
  refine wp_top (y := nI t) hf ?_
  refine wp_istore_n (ls' := [some (.ref 1), some (.int (nI c)), some (.ref (clA h c)), some (.int (nI t)), none, none]) eX5_settle_36 rfl rfl ?_
  refine wp_aload_n eX5_settle_37 rfl ?_
  refine wp_iload_n eX5_settle_38 rfl ?_
  refine wp_virt (rv := (some (.ref (thA h t)))) (h' := h) (r := []) eX5_settle_39 [.int (nI t)] rfl rfl rfl (show Ob h 1 5 from hC.ob) (bX5_thingAt _ hR hW _ (by omega)) ?_
  refine wp_astore (ls' := [some (.ref 1), some (.int (nI c)), some (.ref (clA h c)), some (.int (nI t)), some (.ref (thA h t)), none]) eX5_settle_42 rfl rfl ?_
  refine wp_aload eX5_settle_44 rfl ?_
  refine wp_ifnonnullT eX5_settle_46 ?_
  refine wp_aload_n eX5_settle_52 rfl ?_
  refine wp_aload_n eX5_settle_53 rfl ?_
  refine wp_virt (rv := (some (.int (sMeans S c (cT S))))) (h' := h) (r := []) eX5_settle_54 [.ref (clA h c)] rfl rfl rfl (show Ob h 1 5 from hC.ob) (bX5_meantBy _ hR hW _ (by omega) hT) ?_
  refine wp_iconst (v := 1) eX5_settle_57 rfl ?_
  refine wp_icmpF eX5_settle_58 (show ¬ ((sMeans S c (cT S)) ≤ 1) from h1) ?_
  refine wp_bipush (v := (-5)) eX5_settle_61 rfl ?_
  exact wp_iret eX5_settle_63 ⟨congrArg (fun z => some (Value.int z)) (rfl), rfl⟩

def cSet (S : St) (c t : Nat) : Int32 := if cCon S c t (cC S) = true then -6 else if sOpen S = 0 then -7 else if ¬ S 20 (onN S t) = 0 then -8 else sFee S t + 500
def cSetH (S : St) (h : Hp) (c t : Nat) : Hp := if cCon S c t (cC S) = true then h else if sOpen S = 0 then h else if ¬ S 20 (onN S t) = 0 then h else am_setI (am_setI (am_setI (cLv h (thA h t) (shA h (onN S t)) 1) 1 13 (am_i (cLv h (thA h t) (shA h (onN S t)) 1) 1 13 + (sFee S t + 500))) (clA h c) 1 1) (clA h c) 2 (nI t)

set_option maxRecDepth 4000 in
theorem bX5_settle (d : Nat) {h : Hp} {S : St} (hR : CR S h) (hW : MW S) (c : Nat) (hc : c < cC S) (hTA : ∀ c, c < cC S → TI S c) (h34 : S 34 c = 0) (h3 : 3 ≤ sTold S c 4) (t : Nat) (ht : t < cT S) (hf : cFst S c (cT S) 0 = nI t) (h1 : sMeans S c (cT S) ≤ 1) (hF : FW S t) (hle : sF S t ≤ sL S t + 1) (hn1 : S 29 t < 0 → S 29 t = -1) (h26 : S 26 t = 0) (hO : OW S t) : Res (d + 5) nX5_settle [.ref 1, .int (nI c)] h (some (.int (cSet S c t))) (cSetH S h c t) := by
  have hC := hR.1
  have h5 := hW.1.2
  have h11 := hW.2.1.2
  have h12 := hW.2.2.1.2
  have h29 := hW.2.2.2.2
  have hT := hTA c hc
  have hpl : am_r h (thA h t) 8 = some (shA h (onN S t)) := by rw [hR.th_p t ht, if_pos h26]
  refine Res_intro (ls := [some (.ref 1), some (.int (nI c)), none, none, none, none]) aX5_settle rfl rfl rfl rfl ?_
  show WP kX5_settle _ _ _ _ _ _
  refine wp_aload_n eX5_settle_0 rfl ?_
  refine wp_iload_n eX5_settle_1 rfl ?_
  refine wp_virt (rv := (some (.ref (clA h c)))) (h' := h) (r := []) eX5_settle_2 [.int (nI c)] rfl rfl rfl (show Ob h 1 5 from hC.ob) (bX5_claimAt _ hR hW _ (by omega)) ?_
  refine wp_astore_n (ls' := [some (.ref 1), some (.int (nI c)), some (.ref (clA h c)), none, none, none]) eX5_settle_5 rfl rfl ?_
  refine wp_aload_n eX5_settle_6 rfl ?_
  refine wp_ifnullF eX5_settle_7 ?_
  refine wp_aload_n eX5_settle_10 rfl ?_
  refine wp_getI (v := S 34 c) eX5_settle_11 (show Ob h (clA h c) 1 from hR.cl_ob c (by omega)) rfl (hR.cl1 c (by omega)) ?_
  refine wp_ifT eX5_settle_14 (show (S 34 c) = 0 from h34) ?_
  refine wp_aload_n eX5_settle_20 rfl ?_
  refine wp_virt (rv := (some (.int (sTold S c 4)))) (h' := h) (r := []) eX5_settle_21 [] rfl rfl rfl (show Ob h (clA h c) 1 from hR.cl_ob c (by omega)) (bX1_toldCount _ hR hW _ (by omega) hT) ?_
  refine wp_iconst (v := 3) eX5_settle_24 rfl ?_
  refine wp_icmpT eX5_settle_25 (show 3 ≤ (sTold S c 4) from h3) ?_
  refine wp_aload_n eX5_settle_31 rfl ?_
  refine wp_aload_n eX5_settle_32 rfl ?_
  refine wp_virt (rv := (some (.int (cFst S c (cT S) 0)))) (h' := h) (r := []) eX5_settle_33 [.ref (clA h c)] rfl rfl rfl (show Ob h 1 5 from hC.ob) (bX5_firstMeantBy _ hR hW _ (by omega) hT) ?_
  refine wp_top (y := nI t) hf ?_
  refine wp_istore_n (ls' := [some (.ref 1), some (.int (nI c)), some (.ref (clA h c)), some (.int (nI t)), none, none]) eX5_settle_36 rfl rfl ?_
  refine wp_aload_n eX5_settle_37 rfl ?_
  refine wp_iload_n eX5_settle_38 rfl ?_
  refine wp_virt (rv := (some (.ref (thA h t)))) (h' := h) (r := []) eX5_settle_39 [.int (nI t)] rfl rfl rfl (show Ob h 1 5 from hC.ob) (bX5_thingAt _ hR hW _ (by omega)) ?_
  refine wp_astore (ls' := [some (.ref 1), some (.int (nI c)), some (.ref (clA h c)), some (.int (nI t)), some (.ref (thA h t)), none]) eX5_settle_42 rfl rfl ?_
  refine wp_aload eX5_settle_44 rfl ?_
  refine wp_ifnonnullT eX5_settle_46 ?_
  refine wp_aload_n eX5_settle_52 rfl ?_
  refine wp_aload_n eX5_settle_53 rfl ?_
  refine wp_virt (rv := (some (.int (sMeans S c (cT S))))) (h' := h) (r := []) eX5_settle_54 [.ref (clA h c)] rfl rfl rfl (show Ob h 1 5 from hC.ob) (bX5_meantBy _ hR hW _ (by omega) hT) ?_
  refine wp_iconst (v := 1) eX5_settle_57 rfl ?_
  refine wp_icmpT eX5_settle_58 (show (sMeans S c (cT S)) ≤ 1 from h1) ?_
  refine wp_aload_n eX5_settle_64 rfl ?_
  refine wp_aload_n eX5_settle_65 rfl ?_
  refine wp_aload eX5_settle_66 rfl ?_
  refine wp_virt (rv := (some (.int (if cCon S c t (cC S) = true then 1 else 0)))) (h' := h) (r := []) eX5_settle_68 [.ref (clA h c), .ref (thA h t)] rfl rfl rfl (show Ob h 1 5 from hC.ob) (bX5_isContested _ hR hW _ _ hc ht hTA) ?_
  refine wp_if eX5_settle_71 (fun (c_71 : (if cCon S c t (cC S) = true then 1 else 0) = 0) => ?_) (fun (c_71 : ¬ ((if cCon S c t (cC S) = true then 1 else 0) = 0)) => ?_)
  · refine wp_aload_n eX5_settle_77 rfl ?_
    refine wp_virt (rv := (some (.int (sOpen S)))) (h' := h) (r := []) eX5_settle_78 [] rfl rfl rfl (show Ob h 1 5 from hC.ob) (bX5_isOpen _ hR hW) ?_
    refine wp_if eX5_settle_81 (fun (c_81 : ¬ (sOpen S) = 0) => ?_) (fun (c_81 : ¬ (¬ (sOpen S) = 0)) => ?_)
    · refine wp_aload eX5_settle_87 rfl ?_
      refine wp_virt (rv := (some (.int (if S 20 (onN S t) = 0 then 0 else 1)))) (h' := h) (r := []) eX5_settle_89 [] rfl rfl rfl (show Ob h (thA h t) 4 from hR.th_ob t (by omega)) (bX4_isStuck _ hR ht h26 hO) ?_
      refine wp_if eX5_settle_92 (fun (c_92 : (if S 20 (onN S t) = 0 then 0 else 1) = 0) => ?_) (fun (c_92 : ¬ ((if S 20 (onN S t) = 0 then 0 else 1) = 0)) => ?_)
      · refine wp_aload_n eX5_settle_98 rfl ?_
        refine wp_aload eX5_settle_99 rfl ?_
        refine wp_virt (rv := (some (.int (sFee S t)))) (h' := h) (r := []) eX5_settle_101 [.ref (thA h t)] rfl rfl rfl (show Ob h 1 5 from hC.ob) (bX5_feeOf _ hR hW _ (by omega) hF hle hn1) ?_
        refine wp_sipush (v := 500) eX5_settle_104 rfl ?_
        refine wp_iadd eX5_settle_107 ?_
        refine wp_istore (ls' := [some (.ref 1), some (.int (nI c)), some (.ref (clA h c)), some (.int (nI t)), some (.ref (thA h t)), some (.int ((sFee S t) + 500))]) eX5_settle_108 rfl rfl ?_
        refine wp_aload_n eX5_settle_110 rfl ?_
        refine wp_aload eX5_settle_111 rfl ?_
        refine wp_iconst (v := 1) eX5_settle_113 rfl ?_
        refine wp_virt (rv := none) (h' := cLv h (thA h t) (shA h (onN S t)) 1) (r := []) eX5_settle_114 [.ref (thA h t), .int 1] rfl rfl rfl (show Ob h 1 5 from hC.ob) (rX5_takeAway (h := h) _ hC.ob _ (hR.th_ob t ht) _ (hR.sh_ob _ hO.2) (show am_r h (thA h t) 8 = some (shA h (onN S t)) by first | exact hpl | (simp only [am_setI, am_r]; exact hpl)) _) ?_
        refine wp_aload_n eX5_settle_117 rfl ?_
        refine wp_dup eX5_settle_118 rfl ?_
        refine wp_getI (v := am_i (cLv h (thA h t) (shA h (onN S t)) 1) 1 13) eX5_settle_119 (show Ob (cLv h (thA h t) (shA h (onN S t)) 1) 1 5 from hC.ob) rfl rfl ?_
        refine wp_iload eX5_settle_122 rfl ?_
        refine wp_iadd eX5_settle_124 ?_
        refine wp_putI (h' := am_setI (cLv h (thA h t) (shA h (onN S t)) 1) 1 13 ((am_i (cLv h (thA h t) (shA h (onN S t)) 1) 1 13) + ((sFee S t) + 500))) eX5_settle_125 (show Ob (cLv h (thA h t) (shA h (onN S t)) 1) 1 5 from hC.ob) rfl rfl ?_
        refine wp_aload_n eX5_settle_128 rfl ?_
        refine wp_iconst (v := 1) eX5_settle_129 rfl ?_
        refine wp_putZ (h' := am_setI (am_setI (cLv h (thA h t) (shA h (onN S t)) 1) 1 13 ((am_i (cLv h (thA h t) (shA h (onN S t)) 1) 1 13) + ((sFee S t) + 500))) (clA h c) 1 1) eX5_settle_130 (show Ob (am_setI (cLv h (thA h t) (shA h (onN S t)) 1) 1 13 ((am_i (cLv h (thA h t) (shA h (onN S t)) 1) 1 13) + ((sFee S t) + 500))) (clA h c) 1 from hR.cl_ob c (by omega)) rfl (by first | exact Or.inl rfl | exact Or.inr rfl | assumption) rfl ?_
        refine wp_aload_n eX5_settle_133 rfl ?_
        refine wp_iload_n eX5_settle_134 rfl ?_
        refine wp_putI (h' := am_setI (am_setI (am_setI (cLv h (thA h t) (shA h (onN S t)) 1) 1 13 ((am_i (cLv h (thA h t) (shA h (onN S t)) 1) 1 13) + ((sFee S t) + 500))) (clA h c) 1 1) (clA h c) 2 (nI t)) eX5_settle_135 (show Ob (am_setI (am_setI (cLv h (thA h t) (shA h (onN S t)) 1) 1 13 ((am_i (cLv h (thA h t) (shA h (onN S t)) 1) 1 13) + ((sFee S t) + 500))) (clA h c) 1 1) (clA h c) 1 from hR.cl_ob c (by omega)) rfl rfl ?_
        refine wp_iload eX5_settle_138 rfl ?_
        exact wp_iret eX5_settle_140 ⟨congrArg (fun z => some (Value.int z)) (by simp only [cSet, decide_eq_true_eq]; (repeat' split) <;> first | rfl | (exfalso; simp_all; done) | (exfalso; simp only [Int32.lt_iff_toInt_lt, Int32.le_iff_toInt_le, ← Int32.toInt_inj, Int32.reduceToInt] at *; omega)), by simp only [cSetH, decide_eq_true_eq]; (repeat' split) <;> first | rfl | (exfalso; simp_all; done) | (exfalso; simp only [Int32.lt_iff_toInt_lt, Int32.le_iff_toInt_le, ← Int32.toInt_inj, Int32.reduceToInt] at *; omega)⟩
      · refine wp_bipush (v := (-8)) eX5_settle_95 rfl ?_
        exact wp_iret eX5_settle_97 ⟨congrArg (fun z => some (Value.int z)) (by simp only [cSet, decide_eq_true_eq]; (repeat' split) <;> first | rfl | (exfalso; simp_all; done) | (exfalso; simp only [Int32.lt_iff_toInt_lt, Int32.le_iff_toInt_le, ← Int32.toInt_inj, Int32.reduceToInt] at *; omega)), by simp only [cSetH, decide_eq_true_eq]; (repeat' split) <;> first | rfl | (exfalso; simp_all; done) | (exfalso; simp only [Int32.lt_iff_toInt_lt, Int32.le_iff_toInt_le, ← Int32.toInt_inj, Int32.reduceToInt] at *; omega)⟩
    · refine wp_bipush (v := (-7)) eX5_settle_84 rfl ?_
      exact wp_iret eX5_settle_86 ⟨congrArg (fun z => some (Value.int z)) (by simp only [cSet, decide_eq_true_eq]; (repeat' split) <;> first | rfl | (exfalso; simp_all; done) | (exfalso; simp only [Int32.lt_iff_toInt_lt, Int32.le_iff_toInt_le, ← Int32.toInt_inj, Int32.reduceToInt] at *; omega)), by simp only [cSetH, decide_eq_true_eq]; (repeat' split) <;> first | rfl | (exfalso; simp_all; done) | (exfalso; simp only [Int32.lt_iff_toInt_lt, Int32.le_iff_toInt_le, ← Int32.toInt_inj, Int32.reduceToInt] at *; omega)⟩
  · refine wp_bipush (v := (-6)) eX5_settle_74 rfl ?_
    exact wp_iret eX5_settle_76 ⟨congrArg (fun z => some (Value.int z)) (by simp only [cSet, decide_eq_true_eq]; (repeat' split) <;> first | rfl | (exfalso; simp_all; done) | (exfalso; simp only [Int32.lt_iff_toInt_lt, Int32.le_iff_toInt_le, ← Int32.toInt_inj, Int32.reduceToInt] at *; omega)), by simp only [cSetH, decide_eq_true_eq]; (repeat' split) <;> first | rfl | (exfalso; simp_all; done) | (exfalso; simp only [Int32.lt_iff_toInt_lt, Int32.le_iff_toInt_le, ← Int32.toInt_inj, Int32.reduceToInt] at *; omega)⟩

set_option maxRecDepth 4000 in
theorem bX5_mark_out (d : Nat) {h : Hp} {S : St} (hR : CR S h) (hW : MW S) (x k v : Int32) (hx : ∀ c, c < cC S → ¬ x = nI c) : Res (d + 4) nX5_mark [.ref 1, .int x, .int k, .int v] h (some (.int (-1))) h := by
  have hC := hR.1
  have h5 := hW.1.2
  have h11 := hW.2.1.2
  have h12 := hW.2.2.1.2
  have h29 := hW.2.2.2.2
  refine Res_intro (ls := [some (.ref 1), some (.int x), some (.int k), some (.int v), none]) aX5_mark rfl rfl rfl rfl ?_
  show WP kX5_mark _ _ _ _ _ _
  refine wp_aload_n eX5_mark_0 rfl ?_
  refine wp_iload_n eX5_mark_1 rfl ?_
  refine wp_virt (rv := (some (va_rf none))) (h' := h) (r := []) eX5_mark_2 [.int x] rfl rfl rfl (show Ob h 1 5 from hC.ob) (bX5_claimAtN _ hR hW _ hx) ?_
  refine wp_astoreO (ls' := [some (.ref 1), some (.int x), some (.int k), some (.int v), some (va_rf none)]) eX5_mark_5 rfl rfl ?_
  refine wp_aloadO eX5_mark_7 rfl ?_
  refine wp_ifnullT eX5_mark_9 ?_
  refine wp_iconst (v := (-1)) eX5_mark_29 rfl ?_
  exact wp_iret eX5_mark_30 ⟨congrArg (fun z => some (Value.int z)) (rfl), rfl⟩

theorem sIn_m1 (v : Int32) : sIn v (-1) 15 = 1 ↔ v = -1 ∨ sIn v 0 15 = 1 := by
  unfold sIn
  constructor
  · intro h
    split at h
    · rename_i q
      by_cases e : v = -1
      · exact Or.inl e
      · right
        have q0 : (0 : Int32) ≤ v := by
          have q1 := q.1
          simp only [Int32.le_iff_toInt_le, ← Int32.toInt_inj, Int32.reduceToInt] at *
          omega
        rw [if_pos ⟨q0, q.2⟩]
    · exact absurd h (by decide)
  · rintro (h | h)
    · subst h; decide
    · split at h
      · rename_i q
        rw [if_pos ⟨Int32.le_trans (by decide) q.1, q.2⟩]
      · exact absurd h (by decide)

set_option maxRecDepth 4000 in
theorem bX5_mark_no (d : Nat) {h : Hp} {S : St} (hR : CR S h) (hW : MW S) (c : Nat) (k v : Int32) (hc : c < cC S) (hn : ¬ (S 34 c = 0 ∧ sIn k 0 3 = 1 ∧ sIn v (-1) 15 = 1)) : Res (d + 4) nX5_mark [.ref 1, .int (nI c), .int k, .int v] h (some (.int (-1))) h := by
  have hC := hR.1
  have h5 := hW.1.2
  have h11 := hW.2.1.2
  have h12 := hW.2.2.1.2
  have h29 := hW.2.2.2.2
  have z0 := sIn_01 k 0 3
  have z1 := sIn_01 v 0 15
  have z2 := sIn_m1 v
  refine Res_intro (ls := [some (.ref 1), some (.int (nI c)), some (.int k), some (.int v), none]) aX5_mark rfl rfl rfl rfl ?_
  show WP kX5_mark _ _ _ _ _ _
  refine wp_aload_n eX5_mark_0 rfl ?_
  refine wp_iload_n eX5_mark_1 rfl ?_
  refine wp_virt (rv := (some (.ref (clA h c)))) (h' := h) (r := []) eX5_mark_2 [.int (nI c)] rfl rfl rfl (show Ob h 1 5 from hC.ob) (bX5_claimAt _ hR hW _ (by omega)) ?_
  refine wp_astore (ls' := [some (.ref 1), some (.int (nI c)), some (.int k), some (.int v), some (.ref (clA h c))]) eX5_mark_5 rfl rfl ?_
  refine wp_aload eX5_mark_7 rfl ?_
  refine wp_ifnullF eX5_mark_9 ?_
  refine wp_aload eX5_mark_12 rfl ?_
  refine wp_getI (v := S 34 c) eX5_mark_14 (show Ob h (clA h c) 1 from hR.cl_ob c (by omega)) rfl (hR.cl1 c (by omega)) ?_
  refine wp_if eX5_mark_17 (fun (c_17 : ¬ (S 34 c) = 0) => ?_) (fun (c_17 : ¬ (¬ (S 34 c) = 0)) => ?_)
  · refine wp_iconst (v := (-1)) eX5_mark_29 rfl ?_
    exact wp_iret eX5_mark_30 ⟨congrArg (fun z => some (Value.int z)) (rfl), rfl⟩
  · refine wp_iload_n eX5_mark_20 rfl ?_
    refine wp_iconst (v := 0) eX5_mark_21 rfl ?_
    refine wp_iconst (v := 3) eX5_mark_22 rfl ?_
    refine wp_stat (rv := (some (.int (sIn k 0 3)))) (h' := h) (r := []) eX5_mark_23 [.int k, .int 0, .int 3] rfl rfl rfl rfl (rX5_isWithin _ _ _ _) ?_
    refine wp_if eX5_mark_26 (fun (c_26 : ¬ (sIn k 0 3) = 0) => ?_) (fun (c_26 : ¬ (¬ (sIn k 0 3) = 0)) => ?_)
    · refine wp_iload_n eX5_mark_31 rfl ?_
      refine wp_iconst (v := (-1)) eX5_mark_32 rfl ?_
      refine wp_icmp eX5_mark_33 (fun (c_33 : v = ((-1))) => ?_) (fun (c_33 : ¬ (v = ((-1)))) => ?_)
      · exact absurd ⟨Decidable.not_not.mp c_17, z0.resolve_left c_26, z2.mpr (Or.inl c_33)⟩ hn
      · refine wp_iload_n eX5_mark_36 rfl ?_
        refine wp_iconst (v := 0) eX5_mark_37 rfl ?_
        refine wp_bipush (v := 15) eX5_mark_38 rfl ?_
        refine wp_stat (rv := (some (.int (sIn v 0 15)))) (h' := h) (r := []) eX5_mark_40 [.int v, .int 0, .int 15] rfl rfl rfl rfl (rX5_isWithin _ _ _ _) ?_
        refine wp_if eX5_mark_43 (fun (c_43 : ¬ (sIn v 0 15) = 0) => ?_) (fun (c_43 : ¬ (¬ (sIn v 0 15) = 0)) => ?_)
        · exact absurd ⟨Decidable.not_not.mp c_17, z0.resolve_left c_26, z2.mpr (Or.inr (z1.resolve_left c_43))⟩ hn
        · refine wp_iconst (v := (-1)) eX5_mark_46 rfl ?_
          exact wp_iret eX5_mark_47 ⟨congrArg (fun z => some (Value.int z)) (rfl), rfl⟩
    · refine wp_iconst (v := (-1)) eX5_mark_29 rfl ?_
      exact wp_iret eX5_mark_30 ⟨congrArg (fun z => some (Value.int z)) (rfl), rfl⟩
