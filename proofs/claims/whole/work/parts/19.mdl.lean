/-! THE REFERENCE: calls that change things -/
def sGive (S : St) (t : Nat) : Int32 := if sFeeV S t < 0 then sFeeV S t else if S 26 t = 2 then -5 else if sOpen S = 0 then -6 else if ¬ S 20 (onN S t) = 0 then -7 else sFeeV S t
def kGive (S : St) (t : Nat) : Bool := decide (¬ sFeeV S t < 0 ∧ ¬ S 26 t = 2 ∧ ¬ sOpen S = 0 ∧ S 20 (onN S t) = 0)
def sGiveS (S : St) (t : Nat) : St := if kGive S t then sLeave (up2 S 10 3 (S 10 3 + sFeeV S t)) t 1 else S
def sSell (S : St) (t : Nat) (c : Int32) : Int32 := if sIn c 0 100000 = 0 then -2 else if ¬ S 26 t = 0 then -3 else if ¬ 7 ≤ S 10 0 / 1440 - S 24 t / 1440 then -4 else if ¬ S 20 (onN S t) = 0 then -5 else if S 31 t = 0 then 0 else 1
def sSellS (S : St) (t : Nat) (c : Int32) : St := if sIn c 0 100000 = 0 then S else if ¬ S 26 t = 0 then S else if ¬ 7 ≤ S 10 0 / 1440 - S 24 t / 1440 then S else if ¬ S 20 (onN S t) = 0 then S else if S 31 t = 0 then sLeave (up2 (up2 S 29 t (S 10 0 / 1440)) 28 t c) t 2 else sLeave (up2 S 29 t (S 10 0 / 1440)) t 5
def sStay (S : St) (t : Nat) : Int32 := if S 28 t ≤ sFee S t then S 28 t else sFee S t
def sPay (S : St) (t : Nat) : Int32 := if ¬ S 26 t = 2 then -4 else if sOpen S = 0 then -6 else S 28 t - sStay S t
def sPayS (S : St) (t : Nat) : St := if ¬ S 26 t = 2 then S else if sOpen S = 0 then S else up2 (up2 (up2 S 10 3 (S 10 3 + sStay S t)) 28 t 0) 26 t 3
theorem sFeeV_in {S : St} {t : Nat} (h : ¬ sFeeV S t < 0) : S 26 t = 0 ∨ S 26 t = 2 := by
  unfold sFeeV at h
  split at h
  · assumption
  · exact absurd (by decide) h

set_option maxRecDepth 4000 in
theorem rX6_give_in (d : Nat) {h : Hp} (hM : MOK h) (S : St) (hW : MW S) (x : Int32) (t : Nat) (ht : t < cT S) (hx : sThOf S x = nI t) (hF : FW S t) (hle : sF S t ≤ sL S t + 1) (hO : S 26 t = 0 → OW S t) : Res (d + 4) nX6_give [.ref 10, .int x] (am_wi h S) (some (.int (sGive S t))) (am_wi h (sGiveS S t)) := by
  have h5 := hW.1.2
  have h11 := hW.2.1.2
  have h12 := hW.2.2.1.2
  have h29 := hW.2.2.2.2
  refine Res_intro (ls := [some (.ref 10), some (.int x), none, none]) aX6_give rfl rfl rfl rfl ?_
  show WP kX6_give _ _ _ _ _ _
  refine wp_aload_n eX6_give_0 rfl ?_
  refine wp_iload_n eX6_give_1 rfl ?_
  refine wp_virt (rv := (some (.int (sFeeV S t)))) (h' := am_wi h S) (r := []) eX6_give_2 [.int x] rfl rfl rfl (show Ob (am_wi h S) 10 6 from hM.ob) (rX6_fee_in _ hM _ hW _ _ ht hx hF hle) ?_
  refine wp_istore_n (ls' := [some (.ref 10), some (.int x), some (.int (sFeeV S t)), none]) eX6_give_5 rfl rfl ?_
  refine wp_iload_n eX6_give_6 rfl ?_
  refine wp_if eX6_give_7 (fun (c_7 : 0 ≤ (sFeeV S t)) => ?_) (fun (c_7 : ¬ (0 ≤ (sFeeV S t))) => ?_)
  · refine wp_aload_n eX6_give_12 rfl ?_
    refine wp_iload_n eX6_give_13 rfl ?_
    refine wp_virt (rv := (some (.int (sThOf S x)))) (h' := am_wi h S) (r := []) eX6_give_14 [.int x] rfl rfl rfl (show Ob (am_wi h S) 10 6 from hM.ob) (rX6_thingOf _ hM _ _) ?_
    refine wp_top (y := nI t) hx ?_
    refine wp_istore_n (ls' := [some (.ref 10), some (.int x), some (.int (sFeeV S t)), some (.int (nI t))]) eX6_give_17 rfl rfl ?_
    refine wp_aload_n eX6_give_18 rfl ?_
    refine wp_getR (v := 26) eX6_give_19 (show Ob (am_wi h S) 10 6 from hM.ob) rfl hM.r23 ?_
    refine wp_iload_n eX6_give_22 rfl ?_
    refine wp_ial (v := S 26 t) (t := t) eX6_give_23 (show Ar (am_wi h S) 26 7 120 from hM.a26) (by omega) rfl rfl ?_
    refine wp_iconst (v := 2) eX6_give_24 rfl ?_
    refine wp_icmp eX6_give_25 (fun (c_25 : ¬ (S 26 t) = 2) => ?_) (fun (c_25 : ¬ (¬ (S 26 t) = 2)) => ?_)
    · refine wp_aload_n eX6_give_31 rfl ?_
      refine wp_virt (rv := (some (.int (sOpen S)))) (h' := am_wi h S) (r := []) eX6_give_32 [] rfl rfl rfl (show Ob (am_wi h S) 10 6 from hM.ob) (rX6_isOpen _ hM _) ?_
      refine wp_if eX6_give_35 (fun (c_35 : ¬ (sOpen S) = 0) => ?_) (fun (c_35 : ¬ (¬ (sOpen S) = 0)) => ?_)
      · have hO := hO (by rcases sFeeV_in (Int32.not_lt.mpr c_7) with z | z; exact z; exact absurd z c_25)
        have hO2 := hO.2
        refine wp_aload_n eX6_give_41 rfl ?_
        refine wp_getR (v := 20) eX6_give_42 (show Ob (am_wi h S) 10 6 from hM.ob) rfl hM.r17 ?_
        refine wp_aload_n eX6_give_45 rfl ?_
        refine wp_getR (v := 27) eX6_give_46 (show Ob (am_wi h S) 10 6 from hM.ob) rfl hM.r24 ?_
        refine wp_iload_n eX6_give_49 rfl ?_
        refine wp_ial (v := nI (onN S t)) (t := t) eX6_give_50 (show Ar (am_wi h S) 27 7 120 from hM.a27) (by omega) rfl hO.1 ?_
        refine wp_zal (v := S 20 (onN S t)) (t := onN S t) eX6_give_51 (show Ar (am_wi h S) 20 8 16 from hM.a20) (by omega) rfl rfl ?_
        refine wp_if eX6_give_52 (fun (c_52 : (S 20 (onN S t)) = 0) => ?_) (fun (c_52 : ¬ ((S 20 (onN S t)) = 0)) => ?_)
        · refine wp_aload_n eX6_give_58 rfl ?_
          refine wp_dup eX6_give_59 rfl ?_
          refine wp_getI (v := S 10 3) eX6_give_60 (show Ob (am_wi h S) 10 6 from hM.ob) rfl rfl ?_
          refine wp_iload_n eX6_give_63 rfl ?_
          refine wp_iadd eX6_give_64 ?_
          refine wp_putI (h' := am_wi h (up2 S 10 3 ((S 10 3) + (sFeeV S t)))) eX6_give_65 (show Ob (am_wi h S) 10 6 from hM.ob) rfl (am_wi_set _ _ _ _ _ rfl rfl) ?_
          refine wp_aload_n eX6_give_68 rfl ?_
          refine wp_iload_n eX6_give_69 rfl ?_
          refine wp_iconst (v := 1) eX6_give_70 rfl ?_
          refine wp_virt (rv := none) (h' := am_wi h (sLeave (up2 S 10 3 ((S 10 3) + (sFeeV S t))) t 1)) (r := []) eX6_give_71 [.int (nI t), .int 1] rfl rfl rfl (show Ob (am_wi h (up2 S 10 3 ((S 10 3) + (sFeeV S t)))) 10 6 from hM.ob) (rX6_leaves _ hM (up2 S 10 3 ((S 10 3) + (sFeeV S t))) (show MW (up2 S 10 3 ((S 10 3) + (sFeeV S t))) from hW) _ _ (by omega) (show OW (up2 S 10 3 ((S 10 3) + (sFeeV S t))) t from hO)) ?_
          refine wp_iload_n eX6_give_74 rfl ?_
          exact wp_iret eX6_give_75 ⟨congrArg (fun z => some (Value.int z)) (by simp only [sGive, decide_eq_true_eq]; (repeat' split) <;> first | rfl | (exfalso; simp_all; done) | (exfalso; simp only [Int32.lt_iff_toInt_lt, Int32.le_iff_toInt_le, ← Int32.toInt_inj, Int32.reduceToInt] at *; omega)), by simp only [sGiveS, kGive, decide_eq_true_eq]; (repeat' split) <;> first | rfl | (exfalso; simp_all; done) | (exfalso; simp only [Int32.lt_iff_toInt_lt, Int32.le_iff_toInt_le, ← Int32.toInt_inj, Int32.reduceToInt] at *; omega)⟩
        · refine wp_bipush (v := (-7)) eX6_give_55 rfl ?_
          exact wp_iret eX6_give_57 ⟨congrArg (fun z => some (Value.int z)) (by simp only [sGive, decide_eq_true_eq]; (repeat' split) <;> first | rfl | (exfalso; simp_all; done) | (exfalso; simp only [Int32.lt_iff_toInt_lt, Int32.le_iff_toInt_le, ← Int32.toInt_inj, Int32.reduceToInt] at *; omega)), by simp only [sGiveS, kGive, decide_eq_true_eq]; (repeat' split) <;> first | rfl | (exfalso; simp_all; done) | (exfalso; simp only [Int32.lt_iff_toInt_lt, Int32.le_iff_toInt_le, ← Int32.toInt_inj, Int32.reduceToInt] at *; omega)⟩
      · refine wp_bipush (v := (-6)) eX6_give_38 rfl ?_
        exact wp_iret eX6_give_40 ⟨congrArg (fun z => some (Value.int z)) (by simp only [sGive, decide_eq_true_eq]; (repeat' split) <;> first | rfl | (exfalso; simp_all; done) | (exfalso; simp only [Int32.lt_iff_toInt_lt, Int32.le_iff_toInt_le, ← Int32.toInt_inj, Int32.reduceToInt] at *; omega)), by simp only [sGiveS, kGive, decide_eq_true_eq]; (repeat' split) <;> first | rfl | (exfalso; simp_all; done) | (exfalso; simp only [Int32.lt_iff_toInt_lt, Int32.le_iff_toInt_le, ← Int32.toInt_inj, Int32.reduceToInt] at *; omega)⟩
    · refine wp_bipush (v := (-5)) eX6_give_28 rfl ?_
      exact wp_iret eX6_give_30 ⟨congrArg (fun z => some (Value.int z)) (by simp only [sGive, decide_eq_true_eq]; (repeat' split) <;> first | rfl | (exfalso; simp_all; done) | (exfalso; simp only [Int32.lt_iff_toInt_lt, Int32.le_iff_toInt_le, ← Int32.toInt_inj, Int32.reduceToInt] at *; omega)), by simp only [sGiveS, kGive, decide_eq_true_eq]; (repeat' split) <;> first | rfl | (exfalso; simp_all; done) | (exfalso; simp only [Int32.lt_iff_toInt_lt, Int32.le_iff_toInt_le, ← Int32.toInt_inj, Int32.reduceToInt] at *; omega)⟩
  · refine wp_iload_n eX6_give_10 rfl ?_
    exact wp_iret eX6_give_11 ⟨congrArg (fun z => some (Value.int z)) (by simp only [sGive, decide_eq_true_eq]; (repeat' split) <;> first | rfl | (exfalso; simp_all; done) | (exfalso; simp only [Int32.lt_iff_toInt_lt, Int32.le_iff_toInt_le, ← Int32.toInt_inj, Int32.reduceToInt] at *; omega)), by simp only [sGiveS, kGive, decide_eq_true_eq]; (repeat' split) <;> first | rfl | (exfalso; simp_all; done) | (exfalso; simp only [Int32.lt_iff_toInt_lt, Int32.le_iff_toInt_le, ← Int32.toInt_inj, Int32.reduceToInt] at *; omega)⟩

set_option maxRecDepth 4000 in
theorem rX6_give_out (d : Nat) {h : Hp} (hM : MOK h) (S : St) (hW : MW S) (x : Int32) (hx : sThOf S x < 0) : Res (d + 4) nX6_give [.ref 10, .int x] (am_wi h S) (some (.int (sThOf S x))) (am_wi h S) := by
  have h5 := hW.1.2
  have h11 := hW.2.1.2
  have h12 := hW.2.2.1.2
  have h29 := hW.2.2.2.2
  refine Res_intro (ls := [some (.ref 10), some (.int x), none, none]) aX6_give rfl rfl rfl rfl ?_
  show WP kX6_give _ _ _ _ _ _
  refine wp_aload_n eX6_give_0 rfl ?_
  refine wp_iload_n eX6_give_1 rfl ?_
  refine wp_virt (rv := (some (.int (sThOf S x)))) (h' := am_wi h S) (r := []) eX6_give_2 [.int x] rfl rfl rfl (show Ob (am_wi h S) 10 6 from hM.ob) (rX6_fee_out _ hM _ hW _ hx) ?_
  refine wp_istore_n (ls' := [some (.ref 10), some (.int x), some (.int (sThOf S x)), none]) eX6_give_5 rfl rfl ?_
  refine wp_iload_n eX6_give_6 rfl ?_
  refine wp_ifF eX6_give_7 (show ¬ (0 ≤ (sThOf S x)) from (Int32.not_le.mpr hx)) ?_
  refine wp_iload_n eX6_give_10 rfl ?_
  exact wp_iret eX6_give_11 ⟨congrArg (fun z => some (Value.int z)) (rfl), rfl⟩

set_option maxRecDepth 4000 in
theorem rX6_sell_in (d : Nat) {h : Hp} (hM : MOK h) (S : St) (hW : MW S) (t : Nat) (c : Int32) (ht : t < cT S) (hO : S 26 t = 0 → OW S t) : Res (d + 2) nX6_sell [.ref 10, .int (nI t), .int c] (am_wi h S) (some (.int (sSell S t c))) (am_wi h (sSellS S t c)) := by
  have h5 := hW.1.2
  have h11 := hW.2.1.2
  have h12 := hW.2.2.1.2
  have h29 := hW.2.2.2.2
  have z0 := sIn_01 c 0 100000
  refine Res_intro (ls := [some (.ref 10), some (.int (nI t)), some (.int c)]) aX6_sell rfl rfl rfl rfl ?_
  show WP kX6_sell _ _ _ _ _ _
  refine wp_iload_n eX6_sell_0 rfl ?_
  refine wp_iconst (v := 0) eX6_sell_1 rfl ?_
  refine wp_aload_n eX6_sell_2 rfl ?_
  refine wp_getI (v := S 10 12) eX6_sell_3 (show Ob (am_wi h S) 10 6 from hM.ob) rfl rfl ?_
  refine wp_iconst (v := 1) eX6_sell_6 rfl ?_
  refine wp_isub eX6_sell_7 ?_
  refine wp_stat (rv := (some (.int (sIn (nI t) 0 ((S 10 12) - 1))))) (h' := am_wi h S) (r := []) eX6_sell_8 [.int (nI t), .int 0, .int ((S 10 12) - 1)] rfl rfl rfl rfl (rX6_in _ _ _ _ _) ?_
  refine wp_ifF eX6_sell_11 (show ¬ ((sIn (nI t) 0 ((S 10 12) - 1)) = 0) from (by rw [sIn_in hW.2.2.1.1 ht (by omega)]; decide)) ?_
  refine wp_iload_n eX6_sell_14 rfl ?_
  refine wp_iconst (v := 0) eX6_sell_15 rfl ?_
  refine wp_ldc (v := 100000) eX6_sell_16 rfl ?_
  refine wp_stat (rv := (some (.int (sIn c 0 100000)))) (h' := am_wi h S) (r := []) eX6_sell_18 [.int c, .int 0, .int 100000] rfl rfl rfl rfl (rX6_in _ _ _ _ _) ?_
  refine wp_if eX6_sell_21 (fun (c_21 : ¬ (sIn c 0 100000) = 0) => ?_) (fun (c_21 : ¬ (¬ (sIn c 0 100000) = 0)) => ?_)
  · refine wp_aload_n eX6_sell_27 rfl ?_
    refine wp_getR (v := 26) eX6_sell_28 (show Ob (am_wi h S) 10 6 from hM.ob) rfl hM.r23 ?_
    refine wp_iload_n eX6_sell_31 rfl ?_
    refine wp_ial (v := S 26 t) (t := t) eX6_sell_32 (show Ar (am_wi h S) 26 7 120 from hM.a26) (by omega) rfl rfl ?_
    refine wp_if eX6_sell_33 (fun (c_33 : (S 26 t) = 0) => ?_) (fun (c_33 : ¬ ((S 26 t) = 0)) => ?_)
    · refine wp_aload_n eX6_sell_39 rfl ?_
      refine wp_getI (v := S 10 0) eX6_sell_40 (show Ob (am_wi h S) 10 6 from hM.ob) rfl rfl ?_
      refine wp_sipush (v := 1440) eX6_sell_43 rfl ?_
      refine wp_idiv eX6_sell_46 (by decide) ?_
      refine wp_aload_n eX6_sell_47 rfl ?_
      refine wp_getR (v := 24) eX6_sell_48 (show Ob (am_wi h S) 10 6 from hM.ob) rfl hM.r21 ?_
      refine wp_iload_n eX6_sell_51 rfl ?_
      refine wp_ial (v := S 24 t) (t := t) eX6_sell_52 (show Ar (am_wi h S) 24 7 120 from hM.a24) (by omega) rfl rfl ?_
      refine wp_sipush (v := 1440) eX6_sell_53 rfl ?_
      refine wp_idiv eX6_sell_56 (by decide) ?_
      refine wp_isub eX6_sell_57 ?_
      refine wp_bipush (v := 7) eX6_sell_58 rfl ?_
      refine wp_icmp eX6_sell_60 (fun (c_60 : 7 ≤ (((S 10 0) / 1440) - ((S 24 t) / 1440))) => ?_) (fun (c_60 : ¬ (7 ≤ (((S 10 0) / 1440) - ((S 24 t) / 1440)))) => ?_)
      · have hO := hO c_33
        have hO2 := hO.2
        refine wp_aload_n eX6_sell_66 rfl ?_
        refine wp_getR (v := 20) eX6_sell_67 (show Ob (am_wi h S) 10 6 from hM.ob) rfl hM.r17 ?_
        refine wp_aload_n eX6_sell_70 rfl ?_
        refine wp_getR (v := 27) eX6_sell_71 (show Ob (am_wi h S) 10 6 from hM.ob) rfl hM.r24 ?_
        refine wp_iload_n eX6_sell_74 rfl ?_
        refine wp_ial (v := nI (onN S t)) (t := t) eX6_sell_75 (show Ar (am_wi h S) 27 7 120 from hM.a27) (by omega) rfl hO.1 ?_
        refine wp_zal (v := S 20 (onN S t)) (t := onN S t) eX6_sell_76 (show Ar (am_wi h S) 20 8 16 from hM.a20) (by omega) rfl rfl ?_
        refine wp_if eX6_sell_77 (fun (c_77 : (S 20 (onN S t)) = 0) => ?_) (fun (c_77 : ¬ ((S 20 (onN S t)) = 0)) => ?_)
        · refine wp_aload_n eX6_sell_83 rfl ?_
          refine wp_getR (v := 29) eX6_sell_84 (show Ob (am_wi h S) 10 6 from hM.ob) rfl hM.r26 ?_
          refine wp_iload_n eX6_sell_87 rfl ?_
          refine wp_aload_n eX6_sell_88 rfl ?_
          refine wp_getI (v := S 10 0) eX6_sell_89 (show Ob (am_wi h S) 10 6 from hM.ob) rfl rfl ?_
          refine wp_sipush (v := 1440) eX6_sell_92 rfl ?_
          refine wp_idiv eX6_sell_95 (by decide) ?_
          refine wp_ias (t := t) (h' := am_wi h (up2 S 29 t ((S 10 0) / 1440))) eX6_sell_96 (show Ar (am_wi h S) 29 7 120 from hM.a29) (by omega) rfl (am_wi_set _ _ _ _ _ rfl rfl) ?_
          refine wp_aload_n eX6_sell_97 rfl ?_
          refine wp_getR (v := 31) eX6_sell_98 (show Ob (am_wi h (up2 S 29 t ((S 10 0) / 1440))) 10 6 from hM.ob) rfl hM.r28 ?_
          refine wp_iload_n eX6_sell_101 rfl ?_
          refine wp_zal (v := S 31 t) (t := t) eX6_sell_102 (show Ar (am_wi h (up2 S 29 t ((S 10 0) / 1440))) 31 8 120 from hM.a31) (by omega) rfl rfl ?_
          refine wp_if eX6_sell_103 (fun (c_103 : (S 31 t) = 0) => ?_) (fun (c_103 : ¬ ((S 31 t) = 0)) => ?_)
          · refine wp_aload_n eX6_sell_114 rfl ?_
            refine wp_getR (v := 28) eX6_sell_115 (show Ob (am_wi h (up2 S 29 t ((S 10 0) / 1440))) 10 6 from hM.ob) rfl hM.r25 ?_
            refine wp_iload_n eX6_sell_118 rfl ?_
            refine wp_iload_n eX6_sell_119 rfl ?_
            refine wp_ias (t := t) (h' := am_wi h (up2 (up2 S 29 t ((S 10 0) / 1440)) 28 t c)) eX6_sell_120 (show Ar (am_wi h (up2 S 29 t ((S 10 0) / 1440))) 28 7 120 from hM.a28) (by omega) rfl (am_wi_set _ _ _ _ _ rfl rfl) ?_
            refine wp_aload_n eX6_sell_121 rfl ?_
            refine wp_iload_n eX6_sell_122 rfl ?_
            refine wp_iconst (v := 2) eX6_sell_123 rfl ?_
            refine wp_virt (rv := none) (h' := am_wi h (sLeave (up2 (up2 S 29 t ((S 10 0) / 1440)) 28 t c) t 2)) (r := []) eX6_sell_124 [.int (nI t), .int 2] rfl rfl rfl (show Ob (am_wi h (up2 (up2 S 29 t ((S 10 0) / 1440)) 28 t c)) 10 6 from hM.ob) (rX6_leaves _ hM (up2 (up2 S 29 t ((S 10 0) / 1440)) 28 t c) (show MW (up2 (up2 S 29 t ((S 10 0) / 1440)) 28 t c) from hW) _ _ (by omega) (show OW (up2 (up2 S 29 t ((S 10 0) / 1440)) 28 t c) t from hO)) ?_
            refine wp_iconst (v := 0) eX6_sell_127 rfl ?_
            exact wp_iret eX6_sell_128 ⟨congrArg (fun z => some (Value.int z)) (by simp only [sSell, decide_eq_true_eq]; (repeat' split) <;> first | rfl | (exfalso; simp_all; done) | (exfalso; simp only [Int32.lt_iff_toInt_lt, Int32.le_iff_toInt_le, ← Int32.toInt_inj, Int32.reduceToInt] at *; omega)), by simp only [sSellS, decide_eq_true_eq]; (repeat' split) <;> first | rfl | (exfalso; simp_all; done) | (exfalso; simp only [Int32.lt_iff_toInt_lt, Int32.le_iff_toInt_le, ← Int32.toInt_inj, Int32.reduceToInt] at *; omega)⟩
          · refine wp_aload_n eX6_sell_106 rfl ?_
            refine wp_iload_n eX6_sell_107 rfl ?_
            refine wp_iconst (v := 5) eX6_sell_108 rfl ?_
            refine wp_virt (rv := none) (h' := am_wi h (sLeave (up2 S 29 t ((S 10 0) / 1440)) t 5)) (r := []) eX6_sell_109 [.int (nI t), .int 5] rfl rfl rfl (show Ob (am_wi h (up2 S 29 t ((S 10 0) / 1440))) 10 6 from hM.ob) (rX6_leaves _ hM (up2 S 29 t ((S 10 0) / 1440)) (show MW (up2 S 29 t ((S 10 0) / 1440)) from hW) _ _ (by omega) (show OW (up2 S 29 t ((S 10 0) / 1440)) t from hO)) ?_
            refine wp_iconst (v := 1) eX6_sell_112 rfl ?_
            exact wp_iret eX6_sell_113 ⟨congrArg (fun z => some (Value.int z)) (by simp only [sSell, decide_eq_true_eq]; (repeat' split) <;> first | rfl | (exfalso; simp_all; done) | (exfalso; simp only [Int32.lt_iff_toInt_lt, Int32.le_iff_toInt_le, ← Int32.toInt_inj, Int32.reduceToInt] at *; omega)), by simp only [sSellS, decide_eq_true_eq]; (repeat' split) <;> first | rfl | (exfalso; simp_all; done) | (exfalso; simp only [Int32.lt_iff_toInt_lt, Int32.le_iff_toInt_le, ← Int32.toInt_inj, Int32.reduceToInt] at *; omega)⟩
        · refine wp_bipush (v := (-5)) eX6_sell_80 rfl ?_
          exact wp_iret eX6_sell_82 ⟨congrArg (fun z => some (Value.int z)) (by simp only [sSell, decide_eq_true_eq]; (repeat' split) <;> first | rfl | (exfalso; simp_all; done) | (exfalso; simp only [Int32.lt_iff_toInt_lt, Int32.le_iff_toInt_le, ← Int32.toInt_inj, Int32.reduceToInt] at *; omega)), by simp only [sSellS, decide_eq_true_eq]; (repeat' split) <;> first | rfl | (exfalso; simp_all; done) | (exfalso; simp only [Int32.lt_iff_toInt_lt, Int32.le_iff_toInt_le, ← Int32.toInt_inj, Int32.reduceToInt] at *; omega)⟩
      · refine wp_bipush (v := (-4)) eX6_sell_63 rfl ?_
        exact wp_iret eX6_sell_65 ⟨congrArg (fun z => some (Value.int z)) (by simp only [sSell, decide_eq_true_eq]; (repeat' split) <;> first | rfl | (exfalso; simp_all; done) | (exfalso; simp only [Int32.lt_iff_toInt_lt, Int32.le_iff_toInt_le, ← Int32.toInt_inj, Int32.reduceToInt] at *; omega)), by simp only [sSellS, decide_eq_true_eq]; (repeat' split) <;> first | rfl | (exfalso; simp_all; done) | (exfalso; simp only [Int32.lt_iff_toInt_lt, Int32.le_iff_toInt_le, ← Int32.toInt_inj, Int32.reduceToInt] at *; omega)⟩
    · refine wp_bipush (v := (-3)) eX6_sell_36 rfl ?_
      exact wp_iret eX6_sell_38 ⟨congrArg (fun z => some (Value.int z)) (by simp only [sSell, decide_eq_true_eq]; (repeat' split) <;> first | rfl | (exfalso; simp_all; done) | (exfalso; simp only [Int32.lt_iff_toInt_lt, Int32.le_iff_toInt_le, ← Int32.toInt_inj, Int32.reduceToInt] at *; omega)), by simp only [sSellS, decide_eq_true_eq]; (repeat' split) <;> first | rfl | (exfalso; simp_all; done) | (exfalso; simp only [Int32.lt_iff_toInt_lt, Int32.le_iff_toInt_le, ← Int32.toInt_inj, Int32.reduceToInt] at *; omega)⟩
  · refine wp_bipush (v := (-2)) eX6_sell_24 rfl ?_
    exact wp_iret eX6_sell_26 ⟨congrArg (fun z => some (Value.int z)) (by simp only [sSell, decide_eq_true_eq]; (repeat' split) <;> first | rfl | (exfalso; simp_all; done) | (exfalso; simp only [Int32.lt_iff_toInt_lt, Int32.le_iff_toInt_le, ← Int32.toInt_inj, Int32.reduceToInt] at *; omega)), by simp only [sSellS, decide_eq_true_eq]; (repeat' split) <;> first | rfl | (exfalso; simp_all; done) | (exfalso; simp only [Int32.lt_iff_toInt_lt, Int32.le_iff_toInt_le, ← Int32.toInt_inj, Int32.reduceToInt] at *; omega)⟩

set_option maxRecDepth 4000 in
theorem rX6_sell_out (d : Nat) {h : Hp} (hM : MOK h) (S : St) (hW : MW S) (x c : Int32) (hx : ∀ c, c < cT S → ¬ x = nI c) : Res (d + 2) nX6_sell [.ref 10, .int x, .int c] (am_wi h S) (some (.int (-2))) (am_wi h S) := by
  have h5 := hW.1.2
  have h11 := hW.2.1.2
  have h12 := hW.2.2.1.2
  have h29 := hW.2.2.2.2
  refine Res_intro (ls := [some (.ref 10), some (.int x), some (.int c)]) aX6_sell rfl rfl rfl rfl ?_
  show WP kX6_sell _ _ _ _ _ _
  refine wp_iload_n eX6_sell_0 rfl ?_
  refine wp_iconst (v := 0) eX6_sell_1 rfl ?_
  refine wp_aload_n eX6_sell_2 rfl ?_
  refine wp_getI (v := S 10 12) eX6_sell_3 (show Ob (am_wi h S) 10 6 from hM.ob) rfl rfl ?_
  refine wp_iconst (v := 1) eX6_sell_6 rfl ?_
  refine wp_isub eX6_sell_7 ?_
  refine wp_stat (rv := (some (.int (sIn x 0 ((S 10 12) - 1))))) (h' := am_wi h S) (r := []) eX6_sell_8 [.int x, .int 0, .int ((S 10 12) - 1)] rfl rfl rfl rfl (rX6_in _ _ _ _ _) ?_
  refine wp_ifT eX6_sell_11 (show (sIn x 0 ((S 10 12) - 1)) = 0 from (sIn_out hW.2.2.1.1 hx (by omega))) ?_
  refine wp_bipush (v := (-2)) eX6_sell_24 rfl ?_
  exact wp_iret eX6_sell_26 ⟨congrArg (fun z => some (Value.int z)) (rfl), rfl⟩

set_option maxRecDepth 4000 in
theorem rX6_pay_in (d : Nat) {h : Hp} (hM : MOK h) (S : St) (hW : MW S) (x : Int32) (t : Nat) (ht : t < cT S) (hx : sThOf S x = nI t) (hF : FW S t) (hle : sF S t ≤ sL S t + 1) : Res (d + 3) nX6_pay [.ref 10, .int x] (am_wi h S) (some (.int (sPay S t))) (am_wi h (sPayS S t)) := by
  have h5 := hW.1.2
  have h11 := hW.2.1.2
  have h12 := hW.2.2.1.2
  have h29 := hW.2.2.2.2
  refine Res_intro (ls := [some (.ref 10), some (.int x), none, none, none, none]) aX6_pay rfl rfl rfl rfl ?_
  show WP kX6_pay _ _ _ _ _ _
  refine wp_aload_n eX6_pay_0 rfl ?_
  refine wp_iload_n eX6_pay_1 rfl ?_
  refine wp_virt (rv := (some (.int (sThOf S x)))) (h' := am_wi h S) (r := []) eX6_pay_2 [.int x] rfl rfl rfl (show Ob (am_wi h S) 10 6 from hM.ob) (rX6_thingOf _ hM _ _) ?_
  refine wp_top (y := nI t) hx ?_
  refine wp_istore_n (ls' := [some (.ref 10), some (.int x), some (.int (nI t)), none, none, none]) eX6_pay_5 rfl rfl ?_
  refine wp_iload_n eX6_pay_6 rfl ?_
  refine wp_ifT eX6_pay_7 (show 0 ≤ (nI t) from (nI_pos' (by omega))) ?_
  refine wp_aload_n eX6_pay_12 rfl ?_
  refine wp_getR (v := 26) eX6_pay_13 (show Ob (am_wi h S) 10 6 from hM.ob) rfl hM.r23 ?_
  refine wp_iload_n eX6_pay_16 rfl ?_
  refine wp_ial (v := S 26 t) (t := t) eX6_pay_17 (show Ar (am_wi h S) 26 7 120 from hM.a26) (by omega) rfl rfl ?_
  refine wp_iconst (v := 2) eX6_pay_18 rfl ?_
  refine wp_icmp eX6_pay_19 (fun (c_19 : (S 26 t) = 2) => ?_) (fun (c_19 : ¬ ((S 26 t) = 2)) => ?_)
  · refine wp_aload_n eX6_pay_25 rfl ?_
    refine wp_virt (rv := (some (.int (sOpen S)))) (h' := am_wi h S) (r := []) eX6_pay_26 [] rfl rfl rfl (show Ob (am_wi h S) 10 6 from hM.ob) (rX6_isOpen _ hM _) ?_
    refine wp_if eX6_pay_29 (fun (c_29 : ¬ (sOpen S) = 0) => ?_) (fun (c_29 : ¬ (¬ (sOpen S) = 0)) => ?_)
    · refine wp_aload_n eX6_pay_35 rfl ?_
      refine wp_iload_n eX6_pay_36 rfl ?_
      refine wp_virt (rv := (some (.int (sFee S t)))) (h' := am_wi h S) (r := []) eX6_pay_37 [.int (nI t)] rfl rfl rfl (show Ob (am_wi h S) 10 6 from hM.ob) (rX6_feeOf _ hM _ hW _ (by omega) hF hle) ?_
      refine wp_istore_n (ls' := [some (.ref 10), some (.int x), some (.int (nI t)), some (.int (sFee S t)), none, none]) eX6_pay_40 rfl rfl ?_
      refine wp_iload_n eX6_pay_41 rfl ?_
      refine wp_aload_n eX6_pay_42 rfl ?_
      refine wp_getR (v := 28) eX6_pay_43 (show Ob (am_wi h S) 10 6 from hM.ob) rfl hM.r25 ?_
      refine wp_iload_n eX6_pay_46 rfl ?_
      refine wp_ial (v := S 28 t) (t := t) eX6_pay_47 (show Ar (am_wi h S) 28 7 120 from hM.a28) (by omega) rfl rfl ?_
      refine wp_icmp eX6_pay_48 (fun (c_48 : (S 28 t) ≤ (sFee S t)) => ?_) (fun (c_48 : ¬ ((S 28 t) ≤ (sFee S t))) => ?_)
      · refine wp_aload_n eX6_pay_55 rfl ?_
        refine wp_getR (v := 28) eX6_pay_56 (show Ob (am_wi h S) 10 6 from hM.ob) rfl hM.r25 ?_
        refine wp_iload_n eX6_pay_59 rfl ?_
        refine wp_ial (v := S 28 t) (t := t) eX6_pay_60 (show Ar (am_wi h S) 28 7 120 from hM.a28) (by omega) rfl rfl ?_
        refine wp_istore (ls' := [some (.ref 10), some (.int x), some (.int (nI t)), some (.int (sFee S t)), some (.int (S 28 t)), none]) eX6_pay_61 rfl rfl ?_
        refine wp_aload_n eX6_pay_63 rfl ?_
        refine wp_getR (v := 28) eX6_pay_64 (show Ob (am_wi h S) 10 6 from hM.ob) rfl hM.r25 ?_
        refine wp_iload_n eX6_pay_67 rfl ?_
        refine wp_ial (v := S 28 t) (t := t) eX6_pay_68 (show Ar (am_wi h S) 28 7 120 from hM.a28) (by omega) rfl rfl ?_
        refine wp_iload eX6_pay_69 rfl ?_
        refine wp_isub eX6_pay_71 ?_
        refine wp_istore (ls' := [some (.ref 10), some (.int x), some (.int (nI t)), some (.int (sFee S t)), some (.int (S 28 t)), some (.int ((S 28 t) - (S 28 t)))]) eX6_pay_72 rfl rfl ?_
        refine wp_aload_n eX6_pay_74 rfl ?_
        refine wp_dup eX6_pay_75 rfl ?_
        refine wp_getI (v := S 10 3) eX6_pay_76 (show Ob (am_wi h S) 10 6 from hM.ob) rfl rfl ?_
        refine wp_iload eX6_pay_79 rfl ?_
        refine wp_iadd eX6_pay_81 ?_
        refine wp_putI (h' := am_wi h (up2 S 10 3 ((S 10 3) + (S 28 t)))) eX6_pay_82 (show Ob (am_wi h S) 10 6 from hM.ob) rfl (am_wi_set _ _ _ _ _ rfl rfl) ?_
        refine wp_aload_n eX6_pay_85 rfl ?_
        refine wp_getR (v := 28) eX6_pay_86 (show Ob (am_wi h (up2 S 10 3 ((S 10 3) + (S 28 t)))) 10 6 from hM.ob) rfl hM.r25 ?_
        refine wp_iload_n eX6_pay_89 rfl ?_
        refine wp_iconst (v := 0) eX6_pay_90 rfl ?_
        refine wp_ias (t := t) (h' := am_wi h (up2 (up2 S 10 3 ((S 10 3) + (S 28 t))) 28 t 0)) eX6_pay_91 (show Ar (am_wi h (up2 S 10 3 ((S 10 3) + (S 28 t)))) 28 7 120 from hM.a28) (by omega) rfl (am_wi_set _ _ _ _ _ rfl rfl) ?_
        refine wp_aload_n eX6_pay_92 rfl ?_
        refine wp_getR (v := 26) eX6_pay_93 (show Ob (am_wi h (up2 (up2 S 10 3 ((S 10 3) + (S 28 t))) 28 t 0)) 10 6 from hM.ob) rfl hM.r23 ?_
        refine wp_iload_n eX6_pay_96 rfl ?_
        refine wp_iconst (v := 3) eX6_pay_97 rfl ?_
        refine wp_ias (t := t) (h' := am_wi h (up2 (up2 (up2 S 10 3 ((S 10 3) + (S 28 t))) 28 t 0) 26 t 3)) eX6_pay_98 (show Ar (am_wi h (up2 (up2 S 10 3 ((S 10 3) + (S 28 t))) 28 t 0)) 26 7 120 from hM.a26) (by omega) rfl (am_wi_set _ _ _ _ _ rfl rfl) ?_
        refine wp_iload eX6_pay_99 rfl ?_
        exact wp_iret eX6_pay_101 ⟨congrArg (fun z => some (Value.int z)) (by simp only [sPay, sStay, decide_eq_true_eq]; (repeat' split) <;> first | rfl | (exfalso; simp_all; done) | (exfalso; simp only [Int32.lt_iff_toInt_lt, Int32.le_iff_toInt_le, ← Int32.toInt_inj, Int32.reduceToInt] at *; omega)), by simp only [sPayS, sStay, decide_eq_true_eq]; (repeat' split) <;> first | rfl | (exfalso; simp_all; done) | (exfalso; simp only [Int32.lt_iff_toInt_lt, Int32.le_iff_toInt_le, ← Int32.toInt_inj, Int32.reduceToInt] at *; omega)⟩
      · refine wp_iload_n eX6_pay_51 rfl ?_
        refine wp_goto eX6_pay_52 ?_
        refine wp_istore (ls' := [some (.ref 10), some (.int x), some (.int (nI t)), some (.int (sFee S t)), some (.int (sFee S t)), none]) eX6_pay_61 rfl rfl ?_
        refine wp_aload_n eX6_pay_63 rfl ?_
        refine wp_getR (v := 28) eX6_pay_64 (show Ob (am_wi h S) 10 6 from hM.ob) rfl hM.r25 ?_
        refine wp_iload_n eX6_pay_67 rfl ?_
        refine wp_ial (v := S 28 t) (t := t) eX6_pay_68 (show Ar (am_wi h S) 28 7 120 from hM.a28) (by omega) rfl rfl ?_
        refine wp_iload eX6_pay_69 rfl ?_
        refine wp_isub eX6_pay_71 ?_
        refine wp_istore (ls' := [some (.ref 10), some (.int x), some (.int (nI t)), some (.int (sFee S t)), some (.int (sFee S t)), some (.int ((S 28 t) - (sFee S t)))]) eX6_pay_72 rfl rfl ?_
        refine wp_aload_n eX6_pay_74 rfl ?_
        refine wp_dup eX6_pay_75 rfl ?_
        refine wp_getI (v := S 10 3) eX6_pay_76 (show Ob (am_wi h S) 10 6 from hM.ob) rfl rfl ?_
        refine wp_iload eX6_pay_79 rfl ?_
        refine wp_iadd eX6_pay_81 ?_
        refine wp_putI (h' := am_wi h (up2 S 10 3 ((S 10 3) + (sFee S t)))) eX6_pay_82 (show Ob (am_wi h S) 10 6 from hM.ob) rfl (am_wi_set _ _ _ _ _ rfl rfl) ?_
        refine wp_aload_n eX6_pay_85 rfl ?_
        refine wp_getR (v := 28) eX6_pay_86 (show Ob (am_wi h (up2 S 10 3 ((S 10 3) + (sFee S t)))) 10 6 from hM.ob) rfl hM.r25 ?_
        refine wp_iload_n eX6_pay_89 rfl ?_
        refine wp_iconst (v := 0) eX6_pay_90 rfl ?_
        refine wp_ias (t := t) (h' := am_wi h (up2 (up2 S 10 3 ((S 10 3) + (sFee S t))) 28 t 0)) eX6_pay_91 (show Ar (am_wi h (up2 S 10 3 ((S 10 3) + (sFee S t)))) 28 7 120 from hM.a28) (by omega) rfl (am_wi_set _ _ _ _ _ rfl rfl) ?_
        refine wp_aload_n eX6_pay_92 rfl ?_
        refine wp_getR (v := 26) eX6_pay_93 (show Ob (am_wi h (up2 (up2 S 10 3 ((S 10 3) + (sFee S t))) 28 t 0)) 10 6 from hM.ob) rfl hM.r23 ?_
        refine wp_iload_n eX6_pay_96 rfl ?_
        refine wp_iconst (v := 3) eX6_pay_97 rfl ?_
        refine wp_ias (t := t) (h' := am_wi h (up2 (up2 (up2 S 10 3 ((S 10 3) + (sFee S t))) 28 t 0) 26 t 3)) eX6_pay_98 (show Ar (am_wi h (up2 (up2 S 10 3 ((S 10 3) + (sFee S t))) 28 t 0)) 26 7 120 from hM.a26) (by omega) rfl (am_wi_set _ _ _ _ _ rfl rfl) ?_
        refine wp_iload eX6_pay_99 rfl ?_
        exact wp_iret eX6_pay_101 ⟨congrArg (fun z => some (Value.int z)) (by simp only [sPay, sStay, decide_eq_true_eq]; (repeat' split) <;> first | rfl | (exfalso; simp_all; done) | (exfalso; simp only [Int32.lt_iff_toInt_lt, Int32.le_iff_toInt_le, ← Int32.toInt_inj, Int32.reduceToInt] at *; omega)), by simp only [sPayS, sStay, decide_eq_true_eq]; (repeat' split) <;> first | rfl | (exfalso; simp_all; done) | (exfalso; simp only [Int32.lt_iff_toInt_lt, Int32.le_iff_toInt_le, ← Int32.toInt_inj, Int32.reduceToInt] at *; omega)⟩
    · refine wp_bipush (v := (-6)) eX6_pay_32 rfl ?_
      exact wp_iret eX6_pay_34 ⟨congrArg (fun z => some (Value.int z)) (by simp only [sPay, sStay, decide_eq_true_eq]; (repeat' split) <;> first | rfl | (exfalso; simp_all; done) | (exfalso; simp only [Int32.lt_iff_toInt_lt, Int32.le_iff_toInt_le, ← Int32.toInt_inj, Int32.reduceToInt] at *; omega)), by simp only [sPayS, sStay, decide_eq_true_eq]; (repeat' split) <;> first | rfl | (exfalso; simp_all; done) | (exfalso; simp only [Int32.lt_iff_toInt_lt, Int32.le_iff_toInt_le, ← Int32.toInt_inj, Int32.reduceToInt] at *; omega)⟩
  · refine wp_bipush (v := (-4)) eX6_pay_22 rfl ?_
    exact wp_iret eX6_pay_24 ⟨congrArg (fun z => some (Value.int z)) (by simp only [sPay, sStay, decide_eq_true_eq]; (repeat' split) <;> first | rfl | (exfalso; simp_all; done) | (exfalso; simp only [Int32.lt_iff_toInt_lt, Int32.le_iff_toInt_le, ← Int32.toInt_inj, Int32.reduceToInt] at *; omega)), by simp only [sPayS, sStay, decide_eq_true_eq]; (repeat' split) <;> first | rfl | (exfalso; simp_all; done) | (exfalso; simp only [Int32.lt_iff_toInt_lt, Int32.le_iff_toInt_le, ← Int32.toInt_inj, Int32.reduceToInt] at *; omega)⟩

set_option maxRecDepth 4000 in
theorem rX6_pay_out (d : Nat) {h : Hp} (hM : MOK h) (S : St) (hW : MW S) (x : Int32) (hx : sThOf S x < 0) : Res (d + 3) nX6_pay [.ref 10, .int x] (am_wi h S) (some (.int (sThOf S x))) (am_wi h S) := by
  have h5 := hW.1.2
  have h11 := hW.2.1.2
  have h12 := hW.2.2.1.2
  have h29 := hW.2.2.2.2
  refine Res_intro (ls := [some (.ref 10), some (.int x), none, none, none, none]) aX6_pay rfl rfl rfl rfl ?_
  show WP kX6_pay _ _ _ _ _ _
  refine wp_aload_n eX6_pay_0 rfl ?_
  refine wp_iload_n eX6_pay_1 rfl ?_
  refine wp_virt (rv := (some (.int (sThOf S x)))) (h' := am_wi h S) (r := []) eX6_pay_2 [.int x] rfl rfl rfl (show Ob (am_wi h S) 10 6 from hM.ob) (rX6_thingOf _ hM _ _) ?_
  refine wp_istore_n (ls' := [some (.ref 10), some (.int x), some (.int (sThOf S x)), none, none, none]) eX6_pay_5 rfl rfl ?_
  refine wp_iload_n eX6_pay_6 rfl ?_
  refine wp_ifF eX6_pay_7 (show ¬ (0 ≤ (sThOf S x)) from (Int32.not_le.mpr hx)) ?_
  refine wp_iload_n eX6_pay_10 rfl ?_
  exact wp_iret eX6_pay_11 ⟨congrArg (fun z => some (Value.int z)) (rfl), rfl⟩

def sClaimS (S : St) : St := up2 (up2 (up2 (up2 (up2 (up2 S 32 (4 * cC S + 0) (-1)) 32 (4 * cC S + 1) (-1)) 32 (4 * cC S + 2) (-1)) 32 (4 * cC S + 3) (-1)) 33 (cC S) (-1)) 10 29 (nI (cC S) + 1)

set_option maxRecDepth 4000 in
theorem rX6_claim (d : Nat) {h : Hp} (hM : MOK h) (S : St) (hW : MW S) (hlt : cC S < 40) : Res (d + 1) nX6_claim [.ref 10] (am_wi h S) (some (.int (nI (cC S)))) (am_wi h (sClaimS S)) := by
  have h5 := hW.1.2
  have h11 := hW.2.1.2
  have h12 := hW.2.2.1.2
  have h29 := hW.2.2.2.2
  refine Res_intro (ls := [some (.ref 10), none]) aX6_claim rfl rfl rfl rfl ?_
  show WP kX6_claim _ _ _ _ _ _
  refine wp_aload_n eX6_claim_0 rfl ?_
  refine wp_getI (v := S 10 29) eX6_claim_1 (show Ob (am_wi h S) 10 6 from hM.ob) rfl rfl ?_
  refine wp_bipush (v := 40) eX6_claim_4 rfl ?_
  refine wp_icmpT eX6_claim_6 (show ¬ (S 10 29) = 40 from (by rw [hW.2.2.2.1]; intro q; have := (nI_eq (by omega) (by decide)).mp (q.trans (show (40 : Int32) = nI 40 from rfl)); omega)) ?_
  refine wp_iconst (v := 0) eX6_claim_11 rfl ?_
  refine wp_istore_n (ls' := [some (.ref 10), some (.int 0)]) eX6_claim_12 rfl rfl ?_
  refine wp_iload_n eX6_claim_13 rfl ?_
  refine wp_iconst (v := 4) eX6_claim_14 rfl ?_
  refine wp_icmpF eX6_claim_15 (show ¬ (4 ≤ 0) from (by decide)) ?_
  refine wp_aload_n eX6_claim_18 rfl ?_
  refine wp_getR (v := 32) eX6_claim_19 (show Ob (am_wi h S) 10 6 from hM.ob) rfl hM.r30 ?_
  refine wp_iconst (v := 4) eX6_claim_22 rfl ?_
  refine wp_aload_n eX6_claim_23 rfl ?_
  refine wp_getI (v := nI (cC S)) eX6_claim_24 (show Ob (am_wi h S) 10 6 from hM.ob) rfl hW.2.2.2.1 ?_
  refine wp_imul eX6_claim_27 ?_
  refine wp_iload_n eX6_claim_28 rfl ?_
  refine wp_iadd eX6_claim_29 ?_
  refine wp_top (y := nI (4 * cC S + 0)) (nI_4k (cC S) 0) ?_
  refine wp_iconst (v := (-1)) eX6_claim_30 rfl ?_
  refine wp_ias (t := 4 * cC S + 0) (h' := am_wi h (up2 S 32 (4 * cC S + 0) ((-1)))) eX6_claim_31 (show Ar (am_wi h S) 32 7 160 from hM.a32) (by omega) rfl (am_wi_set _ _ _ _ _ rfl rfl) ?_
  refine wp_iinc (v := 1) (ls' := [some (.ref 10), some (.int 1)]) eX6_claim_32 rfl rfl rfl ?_
  refine wp_goto eX6_claim_35 ?_
  refine wp_iload_n eX6_claim_13 rfl ?_
  refine wp_iconst (v := 4) eX6_claim_14 rfl ?_
  refine wp_icmpF eX6_claim_15 (show ¬ (4 ≤ 1) from (by decide)) ?_
  refine wp_aload_n eX6_claim_18 rfl ?_
  refine wp_getR (v := 32) eX6_claim_19 (show Ob (am_wi h (up2 S 32 (4 * cC S + 0) ((-1)))) 10 6 from hM.ob) rfl hM.r30 ?_
  refine wp_iconst (v := 4) eX6_claim_22 rfl ?_
  refine wp_aload_n eX6_claim_23 rfl ?_
  refine wp_getI (v := nI (cC S)) eX6_claim_24 (show Ob (am_wi h (up2 S 32 (4 * cC S + 0) ((-1)))) 10 6 from hM.ob) rfl hW.2.2.2.1 ?_
  refine wp_imul eX6_claim_27 ?_
  refine wp_iload_n eX6_claim_28 rfl ?_
  refine wp_iadd eX6_claim_29 ?_
  refine wp_top (y := nI (4 * cC S + 1)) (nI_4k (cC S) 1) ?_
  refine wp_iconst (v := (-1)) eX6_claim_30 rfl ?_
  refine wp_ias (t := 4 * cC S + 1) (h' := am_wi h (up2 (up2 S 32 (4 * cC S + 0) ((-1))) 32 (4 * cC S + 1) ((-1)))) eX6_claim_31 (show Ar (am_wi h (up2 S 32 (4 * cC S + 0) ((-1)))) 32 7 160 from hM.a32) (by omega) rfl (am_wi_set _ _ _ _ _ rfl rfl) ?_
  refine wp_iinc (v := 2) (ls' := [some (.ref 10), some (.int 2)]) eX6_claim_32 rfl rfl rfl ?_
  refine wp_goto eX6_claim_35 ?_
  refine wp_iload_n eX6_claim_13 rfl ?_
  refine wp_iconst (v := 4) eX6_claim_14 rfl ?_
  refine wp_icmpF eX6_claim_15 (show ¬ (4 ≤ 2) from (by decide)) ?_
  refine wp_aload_n eX6_claim_18 rfl ?_
  refine wp_getR (v := 32) eX6_claim_19 (show Ob (am_wi h (up2 (up2 S 32 (4 * cC S + 0) ((-1))) 32 (4 * cC S + 1) ((-1)))) 10 6 from hM.ob) rfl hM.r30 ?_
  refine wp_iconst (v := 4) eX6_claim_22 rfl ?_
  refine wp_aload_n eX6_claim_23 rfl ?_
  refine wp_getI (v := nI (cC S)) eX6_claim_24 (show Ob (am_wi h (up2 (up2 S 32 (4 * cC S + 0) ((-1))) 32 (4 * cC S + 1) ((-1)))) 10 6 from hM.ob) rfl hW.2.2.2.1 ?_
  refine wp_imul eX6_claim_27 ?_
  refine wp_iload_n eX6_claim_28 rfl ?_
  refine wp_iadd eX6_claim_29 ?_
  refine wp_top (y := nI (4 * cC S + 2)) (nI_4k (cC S) 2) ?_
  refine wp_iconst (v := (-1)) eX6_claim_30 rfl ?_
  refine wp_ias (t := 4 * cC S + 2) (h' := am_wi h (up2 (up2 (up2 S 32 (4 * cC S + 0) ((-1))) 32 (4 * cC S + 1) ((-1))) 32 (4 * cC S + 2) ((-1)))) eX6_claim_31 (show Ar (am_wi h (up2 (up2 S 32 (4 * cC S + 0) ((-1))) 32 (4 * cC S + 1) ((-1)))) 32 7 160 from hM.a32) (by omega) rfl (am_wi_set _ _ _ _ _ rfl rfl) ?_
  refine wp_iinc (v := 3) (ls' := [some (.ref 10), some (.int 3)]) eX6_claim_32 rfl rfl rfl ?_
  refine wp_goto eX6_claim_35 ?_
  refine wp_iload_n eX6_claim_13 rfl ?_
  refine wp_iconst (v := 4) eX6_claim_14 rfl ?_
  refine wp_icmpF eX6_claim_15 (show ¬ (4 ≤ 3) from (by decide)) ?_
  refine wp_aload_n eX6_claim_18 rfl ?_
  refine wp_getR (v := 32) eX6_claim_19 (show Ob (am_wi h (up2 (up2 (up2 S 32 (4 * cC S + 0) ((-1))) 32 (4 * cC S + 1) ((-1))) 32 (4 * cC S + 2) ((-1)))) 10 6 from hM.ob) rfl hM.r30 ?_
  refine wp_iconst (v := 4) eX6_claim_22 rfl ?_
  refine wp_aload_n eX6_claim_23 rfl ?_
  refine wp_getI (v := nI (cC S)) eX6_claim_24 (show Ob (am_wi h (up2 (up2 (up2 S 32 (4 * cC S + 0) ((-1))) 32 (4 * cC S + 1) ((-1))) 32 (4 * cC S + 2) ((-1)))) 10 6 from hM.ob) rfl hW.2.2.2.1 ?_
  refine wp_imul eX6_claim_27 ?_
  refine wp_iload_n eX6_claim_28 rfl ?_
  refine wp_iadd eX6_claim_29 ?_
  refine wp_top (y := nI (4 * cC S + 3)) (nI_4k (cC S) 3) ?_
  refine wp_iconst (v := (-1)) eX6_claim_30 rfl ?_
  refine wp_ias (t := 4 * cC S + 3) (h' := am_wi h (up2 (up2 (up2 (up2 S 32 (4 * cC S + 0) ((-1))) 32 (4 * cC S + 1) ((-1))) 32 (4 * cC S + 2) ((-1))) 32 (4 * cC S + 3) ((-1)))) eX6_claim_31 (show Ar (am_wi h (up2 (up2 (up2 S 32 (4 * cC S + 0) ((-1))) 32 (4 * cC S + 1) ((-1))) 32 (4 * cC S + 2) ((-1)))) 32 7 160 from hM.a32) (by omega) rfl (am_wi_set _ _ _ _ _ rfl rfl) ?_
  refine wp_iinc (v := 4) (ls' := [some (.ref 10), some (.int 4)]) eX6_claim_32 rfl rfl rfl ?_
  refine wp_goto eX6_claim_35 ?_
  refine wp_iload_n eX6_claim_13 rfl ?_
  refine wp_iconst (v := 4) eX6_claim_14 rfl ?_
  refine wp_icmpT eX6_claim_15 (show 4 ≤ 4 from (by decide)) ?_
  refine wp_aload_n eX6_claim_38 rfl ?_
  refine wp_getR (v := 33) eX6_claim_39 (show Ob (am_wi h (up2 (up2 (up2 (up2 S 32 (4 * cC S + 0) ((-1))) 32 (4 * cC S + 1) ((-1))) 32 (4 * cC S + 2) ((-1))) 32 (4 * cC S + 3) ((-1)))) 10 6 from hM.ob) rfl hM.r31 ?_
  refine wp_aload_n eX6_claim_42 rfl ?_
  refine wp_getI (v := nI (cC S)) eX6_claim_43 (show Ob (am_wi h (up2 (up2 (up2 (up2 S 32 (4 * cC S + 0) ((-1))) 32 (4 * cC S + 1) ((-1))) 32 (4 * cC S + 2) ((-1))) 32 (4 * cC S + 3) ((-1)))) 10 6 from hM.ob) rfl hW.2.2.2.1 ?_
  refine wp_iconst (v := (-1)) eX6_claim_46 rfl ?_
  refine wp_ias (t := cC S) (h' := am_wi h (up2 (up2 (up2 (up2 (up2 S 32 (4 * cC S + 0) ((-1))) 32 (4 * cC S + 1) ((-1))) 32 (4 * cC S + 2) ((-1))) 32 (4 * cC S + 3) ((-1))) 33 (cC S) ((-1)))) eX6_claim_47 (show Ar (am_wi h (up2 (up2 (up2 (up2 S 32 (4 * cC S + 0) ((-1))) 32 (4 * cC S + 1) ((-1))) 32 (4 * cC S + 2) ((-1))) 32 (4 * cC S + 3) ((-1)))) 33 7 40 from hM.a33) (by omega) rfl (am_wi_set _ _ _ _ _ rfl rfl) ?_
  refine wp_aload_n eX6_claim_48 rfl ?_
  refine wp_dup eX6_claim_49 rfl ?_
  refine wp_getI (v := nI (cC S)) eX6_claim_50 (show Ob (am_wi h (up2 (up2 (up2 (up2 (up2 S 32 (4 * cC S + 0) ((-1))) 32 (4 * cC S + 1) ((-1))) 32 (4 * cC S + 2) ((-1))) 32 (4 * cC S + 3) ((-1))) 33 (cC S) ((-1)))) 10 6 from hM.ob) rfl hW.2.2.2.1 ?_
  refine wp_iconst (v := 1) eX6_claim_53 rfl ?_
  refine wp_iadd eX6_claim_54 ?_
  refine wp_putI (h' := am_wi h (up2 (up2 (up2 (up2 (up2 (up2 S 32 (4 * cC S + 0) ((-1))) 32 (4 * cC S + 1) ((-1))) 32 (4 * cC S + 2) ((-1))) 32 (4 * cC S + 3) ((-1))) 33 (cC S) ((-1))) 10 29 ((nI (cC S)) + 1))) eX6_claim_55 (show Ob (am_wi h (up2 (up2 (up2 (up2 (up2 S 32 (4 * cC S + 0) ((-1))) 32 (4 * cC S + 1) ((-1))) 32 (4 * cC S + 2) ((-1))) 32 (4 * cC S + 3) ((-1))) 33 (cC S) ((-1)))) 10 6 from hM.ob) rfl (am_wi_set _ _ _ _ _ rfl rfl) ?_
  refine wp_aload_n eX6_claim_58 rfl ?_
  refine wp_getI (v := (up2 (up2 (up2 (up2 (up2 (up2 S 32 (4 * cC S + 0) ((-1))) 32 (4 * cC S + 1) ((-1))) 32 (4 * cC S + 2) ((-1))) 32 (4 * cC S + 3) ((-1))) 33 (cC S) ((-1))) 10 29 ((nI (cC S)) + 1)) 10 29) eX6_claim_59 (show Ob (am_wi h (up2 (up2 (up2 (up2 (up2 (up2 S 32 (4 * cC S + 0) ((-1))) 32 (4 * cC S + 1) ((-1))) 32 (4 * cC S + 2) ((-1))) 32 (4 * cC S + 3) ((-1))) 33 (cC S) ((-1))) 10 29 ((nI (cC S)) + 1))) 10 6 from hM.ob) rfl rfl ?_
  refine wp_iconst (v := 1) eX6_claim_62 rfl ?_
  refine wp_isub eX6_claim_63 ?_
  exact wp_iret eX6_claim_64 ⟨congrArg (fun z => some (Value.int z)) (nI_succ_pred _), rfl⟩

set_option maxRecDepth 4000 in
theorem rX6_claim_no (d : Nat) {h : Hp} (hM : MOK h) (S : St) (hW : MW S) (hlt : ¬ cC S < 40) : Res (d + 1) nX6_claim [.ref 10] (am_wi h S) (some (.int (-1))) (am_wi h S) := by
  have h5 := hW.1.2
  have h11 := hW.2.1.2
  have h12 := hW.2.2.1.2
  have h29 := hW.2.2.2.2
  refine Res_intro (ls := [some (.ref 10), none]) aX6_claim rfl rfl rfl rfl ?_
  show WP kX6_claim _ _ _ _ _ _
  refine wp_aload_n eX6_claim_0 rfl ?_
  refine wp_getI (v := S 10 29) eX6_claim_1 (show Ob (am_wi h S) 10 6 from hM.ob) rfl rfl ?_
  refine wp_bipush (v := 40) eX6_claim_4 rfl ?_
  refine wp_icmpF eX6_claim_6 (show ¬ (¬ (S 10 29) = 40) from (fun q => q (by rw [hW.2.2.2.1, show cC S = 40 by omega]; rfl))) ?_
  refine wp_iconst (v := (-1)) eX6_claim_9 rfl ?_
  exact wp_iret eX6_claim_10 ⟨congrArg (fun z => some (Value.int z)) (rfl), rfl⟩

set_option maxRecDepth 4000 in
theorem rX6_mark_ok (d : Nat) {h : Hp} (hM : MOK h) (S : St) (hW : MW S) (c k : Nat) (v : Int32) (hc : c < cC S) (hk : k < 4) (hv : sIn v (-1) 15 = 1) (hd : S 34 c = 0) : Res (d + 4) nX6_mark [.ref 10, .int (nI c), .int (nI k), .int v] (am_wi h S) (some (.int (sMeans (up2 S 32 (4 * c + k) v) c (cT (up2 S 32 (4 * c + k) v))))) (am_wi h (up2 S 32 (4 * c + k) v)) := by
  have h5 := hW.1.2
  have h11 := hW.2.1.2
  have h12 := hW.2.2.1.2
  have h29 := hW.2.2.2.2
  refine Res_intro (ls := [some (.ref 10), some (.int (nI c)), some (.int (nI k)), some (.int v)]) aX6_mark rfl rfl rfl rfl ?_
  show WP kX6_mark _ _ _ _ _ _
  refine wp_aload_n eX6_mark_0 rfl ?_
  refine wp_iload_n eX6_mark_1 rfl ?_
  refine wp_virt (rv := (some (.int (sIn (nI c) 0 (S 10 29 - 1))))) (h' := am_wi h S) (r := []) eX6_mark_2 [.int (nI c)] rfl rfl rfl (show Ob (am_wi h S) 10 6 from hM.ob) (rX6_isClaim _ hM _ _) ?_
  refine wp_ifF eX6_mark_5 (show ¬ ((sIn (nI c) 0 (S 10 29 - 1)) = 0) from (by rw [sIn_in hW.2.2.2.1 hc (by omega)]; decide)) ?_
  refine wp_aload_n eX6_mark_8 rfl ?_
  refine wp_getR (v := 34) eX6_mark_9 (show Ob (am_wi h S) 10 6 from hM.ob) rfl hM.r32 ?_
  refine wp_iload_n eX6_mark_12 rfl ?_
  refine wp_zal (v := S 34 c) (t := c) eX6_mark_13 (show Ar (am_wi h S) 34 8 40 from hM.a34) (by omega) rfl rfl ?_
  refine wp_ifF eX6_mark_14 (show ¬ (¬ (S 34 c) = 0) from (fun q => q hd)) ?_
  refine wp_iload_n eX6_mark_17 rfl ?_
  refine wp_iconst (v := 0) eX6_mark_18 rfl ?_
  refine wp_iconst (v := 3) eX6_mark_19 rfl ?_
  refine wp_stat (rv := (some (.int (sIn (nI k) 0 3)))) (h' := am_wi h S) (r := []) eX6_mark_20 [.int (nI k), .int 0, .int 3] rfl rfl rfl rfl (rX6_in _ _ _ _ _) ?_
  refine wp_ifF eX6_mark_23 (show ¬ ((sIn (nI k) 0 3) = 0) from (by rw [show sIn (nI k) 0 3 = 1 from sIn_in (x := 4) (n := 4) rfl hk (by omega)]; decide)) ?_
  refine wp_iload_n eX6_mark_26 rfl ?_
  refine wp_iconst (v := (-1)) eX6_mark_27 rfl ?_
  refine wp_bipush (v := 15) eX6_mark_28 rfl ?_
  refine wp_stat (rv := (some (.int (sIn v ((-1)) 15)))) (h' := am_wi h S) (r := []) eX6_mark_30 [.int v, .int ((-1)), .int 15] rfl rfl rfl rfl (rX6_in _ _ _ _ _) ?_
  refine wp_ifT eX6_mark_33 (show ¬ (sIn v ((-1)) 15) = 0 from (by rw [hv]; decide)) ?_
  refine wp_aload_n eX6_mark_38 rfl ?_
  refine wp_getR (v := 32) eX6_mark_39 (show Ob (am_wi h S) 10 6 from hM.ob) rfl hM.r30 ?_
  refine wp_iconst (v := 4) eX6_mark_42 rfl ?_
  refine wp_iload_n eX6_mark_43 rfl ?_
  refine wp_imul eX6_mark_44 ?_
  refine wp_iload_n eX6_mark_45 rfl ?_
  refine wp_iadd eX6_mark_46 ?_
  refine wp_top (y := nI (4 * c + k)) (nI_4k c k) ?_
  refine wp_iload_n eX6_mark_47 rfl ?_
  refine wp_ias (t := 4 * c + k) (h' := am_wi h (up2 S 32 (4 * c + k) v)) eX6_mark_48 (show Ar (am_wi h S) 32 7 160 from hM.a32) (by omega) rfl (am_wi_set _ _ _ _ _ rfl rfl) ?_
  refine wp_aload_n eX6_mark_49 rfl ?_
  refine wp_iload_n eX6_mark_50 rfl ?_
  refine wp_virt (rv := (some (.int (sMeans (up2 S 32 (4 * c + k) v) c (cT (up2 S 32 (4 * c + k) v)))))) (h' := am_wi h (up2 S 32 (4 * c + k) v)) (r := []) eX6_mark_51 [.int (nI c)] rfl rfl rfl (show Ob (am_wi h (up2 S 32 (4 * c + k) v)) 10 6 from hM.ob) (rX6_means _ hM (up2 S 32 (4 * c + k) v) (show MW (up2 S 32 (4 * c + k) v) from hW) c (show c < cC (up2 S 32 (4 * c + k) v) from hc)) ?_
  exact wp_iret eX6_mark_54 ⟨congrArg (fun z => some (Value.int z)) (rfl), rfl⟩

set_option maxRecDepth 4000 in
theorem rX6_mark_no (d : Nat) {h : Hp} (hM : MOK h) (S : St) (hW : MW S) (c : Nat) (k v : Int32) (hc : c < cC S) (hn : ¬ (S 34 c = 0 ∧ sIn k 0 3 = 1 ∧ sIn v (-1) 15 = 1)) : Res (d + 4) nX6_mark [.ref 10, .int (nI c), .int k, .int v] (am_wi h S) (some (.int (-1))) (am_wi h S) := by
  have h5 := hW.1.2
  have h11 := hW.2.1.2
  have h12 := hW.2.2.1.2
  have h29 := hW.2.2.2.2
  have z0 := sIn_01 k 0 3
  have z1 := sIn_01 v (-1) 15
  refine Res_intro (ls := [some (.ref 10), some (.int (nI c)), some (.int k), some (.int v)]) aX6_mark rfl rfl rfl rfl ?_
  show WP kX6_mark _ _ _ _ _ _
  refine wp_aload_n eX6_mark_0 rfl ?_
  refine wp_iload_n eX6_mark_1 rfl ?_
  refine wp_virt (rv := (some (.int (sIn (nI c) 0 (S 10 29 - 1))))) (h' := am_wi h S) (r := []) eX6_mark_2 [.int (nI c)] rfl rfl rfl (show Ob (am_wi h S) 10 6 from hM.ob) (rX6_isClaim _ hM _ _) ?_
  refine wp_ifF eX6_mark_5 (show ¬ ((sIn (nI c) 0 (S 10 29 - 1)) = 0) from (by rw [sIn_in hW.2.2.2.1 hc (by omega)]; decide)) ?_
  refine wp_aload_n eX6_mark_8 rfl ?_
  refine wp_getR (v := 34) eX6_mark_9 (show Ob (am_wi h S) 10 6 from hM.ob) rfl hM.r32 ?_
  refine wp_iload_n eX6_mark_12 rfl ?_
  refine wp_zal (v := S 34 c) (t := c) eX6_mark_13 (show Ar (am_wi h S) 34 8 40 from hM.a34) (by omega) rfl rfl ?_
  refine wp_if eX6_mark_14 (fun (c_14 : ¬ (S 34 c) = 0) => ?_) (fun (c_14 : ¬ (¬ (S 34 c) = 0)) => ?_)
  · refine wp_iconst (v := (-1)) eX6_mark_36 rfl ?_
    exact wp_iret eX6_mark_37 ⟨congrArg (fun z => some (Value.int z)) (rfl), rfl⟩
  · refine wp_iload_n eX6_mark_17 rfl ?_
    refine wp_iconst (v := 0) eX6_mark_18 rfl ?_
    refine wp_iconst (v := 3) eX6_mark_19 rfl ?_
    refine wp_stat (rv := (some (.int (sIn k 0 3)))) (h' := am_wi h S) (r := []) eX6_mark_20 [.int k, .int 0, .int 3] rfl rfl rfl rfl (rX6_in _ _ _ _ _) ?_
    refine wp_if eX6_mark_23 (fun (c_23 : (sIn k 0 3) = 0) => ?_) (fun (c_23 : ¬ ((sIn k 0 3) = 0)) => ?_)
    · refine wp_iconst (v := (-1)) eX6_mark_36 rfl ?_
      exact wp_iret eX6_mark_37 ⟨congrArg (fun z => some (Value.int z)) (rfl), rfl⟩
    · refine wp_iload_n eX6_mark_26 rfl ?_
      refine wp_iconst (v := (-1)) eX6_mark_27 rfl ?_
      refine wp_bipush (v := 15) eX6_mark_28 rfl ?_
      refine wp_stat (rv := (some (.int (sIn v ((-1)) 15)))) (h' := am_wi h S) (r := []) eX6_mark_30 [.int v, .int ((-1)), .int 15] rfl rfl rfl rfl (rX6_in _ _ _ _ _) ?_
      refine wp_ifF eX6_mark_33 (show ¬ (¬ (sIn v ((-1)) 15) = 0) from (by intro q; simp_all)) ?_
      refine wp_iconst (v := (-1)) eX6_mark_36 rfl ?_
      exact wp_iret eX6_mark_37 ⟨congrArg (fun z => some (Value.int z)) (rfl), rfl⟩

set_option maxRecDepth 4000 in
theorem rX6_mark_out (d : Nat) {h : Hp} (hM : MOK h) (S : St) (hW : MW S) (x k v : Int32) (hx : ∀ c, c < cC S → ¬ x = nI c) : Res (d + 4) nX6_mark [.ref 10, .int x, .int k, .int v] (am_wi h S) (some (.int (-1))) (am_wi h S) := by
  have h5 := hW.1.2
  have h11 := hW.2.1.2
  have h12 := hW.2.2.1.2
  have h29 := hW.2.2.2.2
  refine Res_intro (ls := [some (.ref 10), some (.int x), some (.int k), some (.int v)]) aX6_mark rfl rfl rfl rfl ?_
  show WP kX6_mark _ _ _ _ _ _
  refine wp_aload_n eX6_mark_0 rfl ?_
  refine wp_iload_n eX6_mark_1 rfl ?_
  refine wp_virt (rv := (some (.int (sIn x 0 (S 10 29 - 1))))) (h' := am_wi h S) (r := []) eX6_mark_2 [.int x] rfl rfl rfl (show Ob (am_wi h S) 10 6 from hM.ob) (rX6_isClaim _ hM _ _) ?_
  refine wp_ifT eX6_mark_5 (show (sIn x 0 (S 10 29 - 1)) = 0 from (sIn_out hW.2.2.2.1 hx (by omega))) ?_
  refine wp_iconst (v := (-1)) eX6_mark_36 rfl ?_
  exact wp_iret eX6_mark_37 ⟨congrArg (fun z => some (Value.int z)) (rfl), rfl⟩

set_option maxRecDepth 4000 in
theorem rX6_means_out (d : Nat) {h : Hp} (hM : MOK h) (S : St) (hW : MW S) (x : Int32) (hx : ∀ c, c < cC S → ¬ x = nI c) : Res (d + 3) nX6_means [.ref 10, .int x] (am_wi h S) (some (.int (-1))) (am_wi h S) := by
  have h5 := hW.1.2
  have h11 := hW.2.1.2
  have h12 := hW.2.2.1.2
  have h29 := hW.2.2.2.2
  refine Res_intro (ls := [some (.ref 10), some (.int x), none, none]) aX6_means rfl rfl rfl rfl ?_
  show WP kX6_means _ _ _ _ _ _
  refine wp_aload_n eX6_means_0 rfl ?_
  refine wp_iload_n eX6_means_1 rfl ?_
  refine wp_virt (rv := (some (.int (sIn x 0 (S 10 29 - 1))))) (h' := am_wi h S) (r := []) eX6_means_2 [.int x] rfl rfl rfl (show Ob (am_wi h S) 10 6 from hM.ob) (rX6_isClaim _ hM _ _) ?_
  refine wp_ifF eX6_means_5 (show ¬ (¬ (sIn x 0 (S 10 29 - 1)) = 0) from (by rw [(sIn_out hW.2.2.2.1 hx (by omega))]; decide)) ?_
  refine wp_iconst (v := (-1)) eX6_means_8 rfl ?_
  exact wp_iret eX6_means_9 ⟨congrArg (fun z => some (Value.int z)) (rfl), rfl⟩
