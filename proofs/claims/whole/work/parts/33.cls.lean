/-! THE CLASS: loops that read -/
/-- what isn't told is told as -1 -/
def TI (S : St) (c : Nat) : Prop := ∀ k, k < 4 → S 32 (4 * c + k) < 0 → S 32 (4 * c + k) = -1
def cRow (S : St) (h : Hp) (day : Int32) (n : Nat) : Option Nat := if sRow S day n < 0 then none else some (roA h (sRow S day n).toNatClampNeg)
def cFst (S : St) (c : Nat) : Nat → Nat → Int32
  | 0, _ => -1
  | n + 1, t => if sIsM S c t = 0 then cFst S c n (t + 1) else nI t
def cLds (S : St) : Nat → Int32
  | 0 => 0
  | n + 1 => cLds S n + sLoad S n (cT S)

set_option maxRecDepth 4000 in
theorem lX5_rowOn {Cal : am_Ct} {h : Hp} {S : St} (hR : CR S h) (hW : MW S) (day : Int32) : ∀ (n t : Nat) (a : Option Nat) (x4 : Option Value), t + n = cR S → (a = cRow S h day t) → WP kX5_rowOn Cal (fun r1 h1 => r1 = some (va_rf (cRow S h day (cR S))) ∧ h1 = h) 4 [some (.ref 1), some (.int day), some (va_rf a), some (.int (nI t)), x4] [] h := by
  intro n
  induction n with
  | zero =>
    intro t a x4 hn ha
    have hC := hR.1
    have h5 := hW.1.2
    have h11 := hW.2.1.2
    have h12 := hW.2.2.1.2
    have h29 := hW.2.2.2.2
    refine wp_iload_n eX5_rowOn_4 rfl ?_
    refine wp_aload_n eX5_rowOn_5 rfl ?_
    refine wp_getI (v := S 10 5) eX5_rowOn_6 (show Ob h 1 5 from hC.ob) rfl hR.c7 ?_
    refine wp_icmpT eX5_rowOn_9 (show (S 10 5) ≤ (nI t) from (lp_ge hW.1.1 (by omega) (by omega))) ?_
    refine wp_aload_nO eX5_rowOn_43 rfl ?_
    exact wp_aretO eX5_rowOn_44 ⟨congrArg (fun z => some (va_rf z)) (by rw [ha, show t = cR S by omega]), rfl⟩
  | succ n ih =>
    intro t a x4 hn ha
    have hC := hR.1
    have h5 := hW.1.2
    have h11 := hW.2.1.2
    have h12 := hW.2.2.1.2
    have h29 := hW.2.2.2.2
    refine wp_iload_n eX5_rowOn_4 rfl ?_
    refine wp_aload_n eX5_rowOn_5 rfl ?_
    refine wp_getI (v := S 10 5) eX5_rowOn_6 (show Ob h 1 5 from hC.ob) rfl hR.c7 ?_
    refine wp_icmpF eX5_rowOn_9 (show ¬ ((S 10 5) ≤ (nI t)) from (lp_lt hW.1.1 (by omega) (by omega))) ?_
    refine wp_aload_n eX5_rowOn_12 rfl ?_
    refine wp_getR (v := 5) eX5_rowOn_13 (show Ob h 1 5 from hC.ob) rfl hC.r6 ?_
    refine wp_iload_n eX5_rowOn_16 rfl ?_
    refine wp_aal (v := roA h t) (t := t) eX5_rowOn_17 (show Ar h 5 12 12 from hC.a5) rfl rfl (by omega) rfl (hR.ro_r t (by omega)) ?_
    refine wp_astore (ls' := [some (.ref 1), some (.int day), some (va_rf a), some (.int (nI t)), some (.ref (roA h t))]) eX5_rowOn_18 rfl rfl ?_
    refine wp_aload eX5_rowOn_20 rfl ?_
    refine wp_ifnullF eX5_rowOn_22 ?_
    refine wp_aload eX5_rowOn_25 rfl ?_
    refine wp_getI (v := S 11 t) eX5_rowOn_27 (show Ob h (roA h t) 2 from hR.ro_ob t (by omega)) rfl (hR.ro0 t (by omega)) ?_
    refine wp_iload_n eX5_rowOn_30 rfl ?_
    refine wp_icmp eX5_rowOn_31 (fun (c_31 : day < (S 11 t)) => ?_) (fun (c_31 : ¬ (day < (S 11 t))) => ?_)
    · refine wp_iinc (v := nI (t + 1)) (ls' := [some (.ref 1), some (.int day), some (va_rf a), some (.int (nI (t + 1))), some (.ref (roA h t))]) eX5_rowOn_37 rfl (nI_1 t) rfl ?_
      refine wp_goto eX5_rowOn_40 ?_
      exact ih (t + 1) _ _ (by omega) (by first | (have e : sRow S day (t + 1) = nI t := if_pos (Int32.not_lt.mp c_31); unfold cRow; rw [e, if_neg (nI_pos (by omega)), nI_clamp (by omega)]; done) | (have e : sRow S day (t + 1) = sRow S day t := if_neg (Int32.not_le.mpr c_31); unfold cRow; rw [e]; exact ha))
    · refine wp_aload eX5_rowOn_34 rfl ?_
      refine wp_astore_n (ls' := [some (.ref 1), some (.int day), some (.ref (roA h t)), some (.int (nI t)), some (.ref (roA h t))]) eX5_rowOn_36 rfl rfl ?_
      refine wp_iinc (v := nI (t + 1)) (ls' := [some (.ref 1), some (.int day), some (.ref (roA h t)), some (.int (nI (t + 1))), some (.ref (roA h t))]) eX5_rowOn_37 rfl (nI_1 t) rfl ?_
      refine wp_goto eX5_rowOn_40 ?_
      exact ih (t + 1) _ _ (by omega) (by first | (have e : sRow S day (t + 1) = nI t := if_pos (Int32.not_lt.mp c_31); unfold cRow; rw [e, if_neg (nI_pos (by omega)), nI_clamp (by omega)]; done) | (have e : sRow S day (t + 1) = sRow S day t := if_neg (Int32.not_le.mpr c_31); unfold cRow; rw [e]; exact ha))

set_option maxRecDepth 4000 in
theorem bX5_rowOn (d : Nat) {h : Hp} {S : St} (hR : CR S h) (hW : MW S) (day : Int32) : Res (d + 1) nX5_rowOn [.ref 1, .int day] h (some (va_rf (cRow S h day (cR S)))) h := by
  have hC := hR.1
  have h5 := hW.1.2
  have h11 := hW.2.1.2
  have h12 := hW.2.2.1.2
  have h29 := hW.2.2.2.2
  refine Res_intro (ls := [some (.ref 1), some (.int day), none, none, none]) aX5_rowOn rfl rfl rfl rfl ?_
  show WP kX5_rowOn _ _ _ _ _ _
  refine wp_null eX5_rowOn_0 ?_
  refine wp_astore_nO (ls' := [some (.ref 1), some (.int day), some (va_rf none), none, none]) eX5_rowOn_1 rfl rfl ?_
  refine wp_iconst (v := 0) eX5_rowOn_2 rfl ?_
  refine wp_istore_n (ls' := [some (.ref 1), some (.int day), some (va_rf none), some (.int 0), none]) eX5_rowOn_3 rfl rfl ?_
  exact lX5_rowOn hR hW day (cR S) 0 _ _ (by omega) rfl

set_option maxRecDepth 4000 in
theorem lX1_toldCount {Cal : am_Ct} {h : Hp} {S : St} (hR : CR S h) (hW : MW S) (c : Nat) (hc : c < cC S) (hT : TI S c) : ∀ (n t : Nat) (a : Int32), t + n = 4 → (a = sTold S c t) → WP kX1_toldCount Cal (fun r1 h1 => r1 = some (.int (sTold S c 4)) ∧ h1 = h) 4 [some (.ref (clA h c)), some (.int a), some (.int (nI t))] [] h := by
  intro n
  induction n with
  | zero =>
    intro t a hn ha
    have hC := hR.1
    have h5 := hW.1.2
    have h11 := hW.2.1.2
    have h12 := hW.2.2.1.2
    have h29 := hW.2.2.2.2
    refine wp_iload_n eX1_toldCount_4 rfl ?_
    refine wp_iconst (v := 4) eX1_toldCount_5 rfl ?_
    refine wp_icmpT eX1_toldCount_6 (show 4 ≤ (nI t) from (lp_ge (show (4 : Int32) = nI 4 from rfl) (by omega) (by omega))) ?_
    refine wp_iload_n eX1_toldCount_28 rfl ?_
    exact wp_iret eX1_toldCount_29 ⟨congrArg (fun z => some (Value.int z)) (by rw [ha, show t = 4 by omega]), rfl⟩
  | succ n ih =>
    intro t a hn ha
    have hC := hR.1
    have h5 := hW.1.2
    have h11 := hW.2.1.2
    have h12 := hW.2.2.1.2
    have h29 := hW.2.2.2.2
    refine wp_iload_n eX1_toldCount_4 rfl ?_
    refine wp_iconst (v := 4) eX1_toldCount_5 rfl ?_
    refine wp_icmpF eX1_toldCount_6 (show ¬ (4 ≤ (nI t)) from (lp_lt (show (4 : Int32) = nI 4 from rfl) (by omega) (by omega))) ?_
    refine wp_aload_n eX1_toldCount_9 rfl ?_
    refine wp_getR (v := toA h c) eX1_toldCount_10 (show Ob h (clA h c) 1 from hR.cl_ob c (by omega)) rfl (hR.cl_t c (by omega)) ?_
    refine wp_iload_n eX1_toldCount_13 rfl ?_
    refine wp_ial (v := S 32 (4 * c + t)) (t := t) eX1_toldCount_14 (show Ar h (toA h c) 7 4 from hR.cl_ta c (by omega)) (by omega) rfl (hR.cl_tv c (by omega) t (by omega)) ?_
    refine wp_iconst (v := (-1)) eX1_toldCount_15 rfl ?_
    refine wp_icmp eX1_toldCount_16 (fun (c_16 : (S 32 (4 * c + t)) = ((-1))) => ?_) (fun (c_16 : ¬ ((S 32 (4 * c + t)) = ((-1)))) => ?_)
    · refine wp_iinc (v := nI (t + 1)) (ls' := [some (.ref (clA h c)), some (.int a), some (.int (nI (t + 1)))]) eX1_toldCount_22 rfl (nI_1 t) rfl ?_
      refine wp_goto eX1_toldCount_25 ?_
      exact ih (t + 1) _ (by omega) (by simp only [sTold]; rw [← ha]; first | (rw [if_pos (by rw [c_16]; decide), Int32.add_zero]; done) | (rw [if_neg (fun z => c_16 (hT t (by omega) z))]; done))
    · refine wp_iinc (v := a + 1) (ls' := [some (.ref (clA h c)), some (.int (a + 1)), some (.int (nI t))]) eX1_toldCount_19 rfl rfl rfl ?_
      refine wp_iinc (v := nI (t + 1)) (ls' := [some (.ref (clA h c)), some (.int (a + 1)), some (.int (nI (t + 1)))]) eX1_toldCount_22 rfl (nI_1 t) rfl ?_
      refine wp_goto eX1_toldCount_25 ?_
      exact ih (t + 1) _ (by omega) (by simp only [sTold]; rw [← ha]; first | (rw [if_pos (by rw [c_16]; decide), Int32.add_zero]; done) | (rw [if_neg (fun z => c_16 (hT t (by omega) z))]; done))

set_option maxRecDepth 4000 in
theorem bX1_toldCount (d : Nat) {h : Hp} {S : St} (hR : CR S h) (hW : MW S) (c : Nat) (hc : c < cC S) (hT : TI S c) : Res (d + 1) nX1_toldCount [.ref (clA h c)] h (some (.int (sTold S c 4))) h := by
  have hC := hR.1
  have h5 := hW.1.2
  have h11 := hW.2.1.2
  have h12 := hW.2.2.1.2
  have h29 := hW.2.2.2.2
  refine Res_intro (ls := [some (.ref (clA h c)), none, none]) aX1_toldCount rfl rfl rfl rfl ?_
  show WP kX1_toldCount _ _ _ _ _ _
  refine wp_iconst (v := 0) eX1_toldCount_0 rfl ?_
  refine wp_istore_n (ls' := [some (.ref (clA h c)), some (.int 0), none]) eX1_toldCount_1 rfl rfl ?_
  refine wp_iconst (v := 0) eX1_toldCount_2 rfl ?_
  refine wp_istore_n (ls' := [some (.ref (clA h c)), some (.int 0), some (.int 0)]) eX1_toldCount_3 rfl rfl ?_
  exact lX1_toldCount hR hW c hc hT 4 0 _ (by omega) rfl

set_option maxRecDepth 4000 in
theorem lX1_isAbout (d : Nat) {h : Hp} {S : St} (hR : CR S h) (hW : MW S) (c u : Nat) (hc : c < cC S) (hu : u < cT S) (hT : TI S c) (h26 : S 26 u = 0) : ∀ (n t : Nat) , t + n = 4 → (sMeant S c u t = true) → WP kX1_isAbout (Res (d + 1)) (fun r1 h1 => r1 = some (.int (sIsM S c u)) ∧ h1 = h) 11 [some (.ref (clA h c)), some (.ref (thA h u)), some (.int (nI t))] [] h := by
  intro n
  induction n with
  | zero =>
    intro t  hn ha
    have hC := hR.1
    have h5 := hW.1.2
    have h11 := hW.2.1.2
    have h12 := hW.2.2.1.2
    have h29 := hW.2.2.2.2
    refine wp_iload_n eX1_isAbout_11 rfl ?_
    refine wp_iconst (v := 4) eX1_isAbout_12 rfl ?_
    refine wp_icmpT eX1_isAbout_13 (show 4 ≤ (nI t) from (lp_ge (show (4 : Int32) = nI 4 from rfl) (by omega) (by omega))) ?_
    refine wp_iconst (v := 1) eX1_isAbout_48 rfl ?_
    exact wp_zret eX1_isAbout_49 (by first | exact Or.inl rfl | exact Or.inr rfl | assumption) ⟨congrArg (fun z => some (Value.int z)) (by unfold sIsM; rw [if_pos ⟨h26, by rw [show 4 = t by omega]; exact ha⟩]), rfl⟩
  | succ n ih =>
    intro t  hn ha
    have hC := hR.1
    have h5 := hW.1.2
    have h11 := hW.2.1.2
    have h12 := hW.2.2.1.2
    have h29 := hW.2.2.2.2
    refine wp_iload_n eX1_isAbout_11 rfl ?_
    refine wp_iconst (v := 4) eX1_isAbout_12 rfl ?_
    refine wp_icmpF eX1_isAbout_13 (show ¬ (4 ≤ (nI t)) from (lp_lt (show (4 : Int32) = nI 4 from rfl) (by omega) (by omega))) ?_
    refine wp_aload_n eX1_isAbout_16 rfl ?_
    refine wp_getR (v := toA h c) eX1_isAbout_17 (show Ob h (clA h c) 1 from hR.cl_ob c (by omega)) rfl (hR.cl_t c (by omega)) ?_
    refine wp_iload_n eX1_isAbout_20 rfl ?_
    refine wp_ial (v := S 32 (4 * c + t)) (t := t) eX1_isAbout_21 (show Ar h (toA h c) 7 4 from hR.cl_ta c (by omega)) (by omega) rfl (hR.cl_tv c (by omega) t (by omega)) ?_
    refine wp_iconst (v := (-1)) eX1_isAbout_22 rfl ?_
    refine wp_icmp eX1_isAbout_23 (fun (c_23 : (S 32 (4 * c + t)) = ((-1))) => ?_) (fun (c_23 : ¬ ((S 32 (4 * c + t)) = ((-1)))) => ?_)
    · refine wp_iinc (v := nI (t + 1)) (ls' := [some (.ref (clA h c)), some (.ref (thA h u)), some (.int (nI (t + 1)))]) eX1_isAbout_42 rfl (nI_1 t) rfl ?_
      refine wp_goto eX1_isAbout_45 ?_
      exact ih (t + 1)  (by omega) (by simp only [sMeant, ha, Bool.true_and, Bool.or_eq_true, decide_eq_true_eq]; first | (exact Or.inl (by rw [c_23]; decide)) | (exact Or.inr c_37))
    · refine wp_aload_n eX1_isAbout_26 rfl ?_
      refine wp_getR (v := toA h c) eX1_isAbout_27 (show Ob h (clA h c) 1 from hR.cl_ob c (by omega)) rfl (hR.cl_t c (by omega)) ?_
      refine wp_iload_n eX1_isAbout_30 rfl ?_
      refine wp_ial (v := S 32 (4 * c + t)) (t := t) eX1_isAbout_31 (show Ar h (toA h c) 7 4 from hR.cl_ta c (by omega)) (by omega) rfl (hR.cl_tv c (by omega) t (by omega)) ?_
      refine wp_aload_n eX1_isAbout_32 rfl ?_
      refine wp_iload_n eX1_isAbout_33 rfl ?_
      refine wp_virt (rv := (some (.int (sMk (S 23 u) (nI t))))) (h' := h) (r := [.int (S 32 (4 * c + t))]) eX1_isAbout_34 [.int (nI t)] rfl rfl rfl (show Ob h (thA h u) 4 from hR.th_ob u (by omega)) (bX4_markAt _ hR (by omega) _) ?_
      refine wp_icmp eX1_isAbout_37 (fun (c_37 : (S 32 (4 * c + t)) = (sMk (S 23 u) (nI t))) => ?_) (fun (c_37 : ¬ ((S 32 (4 * c + t)) = (sMk (S 23 u) (nI t)))) => ?_)
      · refine wp_iinc (v := nI (t + 1)) (ls' := [some (.ref (clA h c)), some (.ref (thA h u)), some (.int (nI (t + 1)))]) eX1_isAbout_42 rfl (nI_1 t) rfl ?_
        refine wp_goto eX1_isAbout_45 ?_
        exact ih (t + 1)  (by omega) (by simp only [sMeant, ha, Bool.true_and, Bool.or_eq_true, decide_eq_true_eq]; first | (exact Or.inl (by rw [c_23]; decide)) | (exact Or.inr c_37))
      · refine wp_iconst (v := 0) eX1_isAbout_40 rfl ?_
        exact wp_zret eX1_isAbout_41 (by first | exact Or.inl rfl | exact Or.inr rfl | assumption) ⟨congrArg (fun z => some (Value.int z)) (by unfold sIsM; rw [if_neg]; intro q; rcases sMeant_at q.2 t (by omega) with z | z; exact c_23 (hT t (by omega) z); exact c_37 z), rfl⟩

set_option maxRecDepth 4000 in
theorem bX1_isAbout (d : Nat) {h : Hp} {S : St} (hR : CR S h) (hW : MW S) (c u : Nat) (hc : c < cC S) (hu : u < cT S) (hT : TI S c) : Res (d + 2) nX1_isAbout [.ref (clA h c), .ref (thA h u)] h (some (.int (sIsM S c u))) h := by
  have hC := hR.1
  have h5 := hW.1.2
  have h11 := hW.2.1.2
  have h12 := hW.2.2.1.2
  have h29 := hW.2.2.2.2
  refine Res_intro (ls := [some (.ref (clA h c)), some (.ref (thA h u)), none]) aX1_isAbout rfl rfl rfl rfl ?_
  show WP kX1_isAbout _ _ _ _ _ _
  refine wp_aload_n eX1_isAbout_0 rfl ?_
  refine wp_getI (v := S 26 u) eX1_isAbout_1 (show Ob h (thA h u) 4 from hR.th_ob u (by omega)) rfl (hR.th7 u (by omega)) ?_
  refine wp_if eX1_isAbout_4 (fun (c_4 : (S 26 u) = 0) => ?_) (fun (c_4 : ¬ ((S 26 u) = 0)) => ?_)
  · refine wp_iconst (v := 0) eX1_isAbout_9 rfl ?_
    refine wp_istore_n (ls' := [some (.ref (clA h c)), some (.ref (thA h u)), some (.int 0)]) eX1_isAbout_10 rfl rfl ?_
    exact lX1_isAbout d hR hW c u hc hu hT c_4 4 0 (by omega) rfl
  · refine wp_iconst (v := 0) eX1_isAbout_7 rfl ?_
    exact wp_zret eX1_isAbout_8 (by first | exact Or.inl rfl | exact Or.inr rfl | assumption) ⟨congrArg (fun z => some (Value.int z)) (by unfold sIsM; rw [if_neg (fun q => c_4 q.1)]), rfl⟩

set_option maxRecDepth 4000 in
theorem lX5_meantBy (d : Nat) {h : Hp} {S : St} (hR : CR S h) (hW : MW S) (c : Nat) (hc : c < cC S) (hT : TI S c) : ∀ (n t : Nat) (a : Int32) (x4 : Option Value), t + n = cT S → (a = sMeans S c t) → WP kX5_meantBy (Res (d + 2)) (fun r1 h1 => r1 = some (.int (sMeans S c (cT S))) ∧ h1 = h) 4 [some (.ref 1), some (.ref (clA h c)), some (.int a), some (.int (nI t)), x4] [] h := by
  intro n
  induction n with
  | zero =>
    intro t a x4 hn ha
    have hC := hR.1
    have h5 := hW.1.2
    have h11 := hW.2.1.2
    have h12 := hW.2.2.1.2
    have h29 := hW.2.2.2.2
    refine wp_iload_n eX5_meantBy_4 rfl ?_
    refine wp_aload_n eX5_meantBy_5 rfl ?_
    refine wp_getI (v := S 10 12) eX5_meantBy_6 (show Ob h 1 5 from hC.ob) rfl hR.c3 ?_
    refine wp_icmpT eX5_meantBy_9 (show (S 10 12) ≤ (nI t) from (lp_ge hW.2.2.1.1 (by omega) (by omega))) ?_
    refine wp_iload_n eX5_meantBy_43 rfl ?_
    exact wp_iret eX5_meantBy_44 ⟨congrArg (fun z => some (Value.int z)) (by rw [ha, show t = cT S by omega]), rfl⟩
  | succ n ih =>
    intro t a x4 hn ha
    have hC := hR.1
    have h5 := hW.1.2
    have h11 := hW.2.1.2
    have h12 := hW.2.2.1.2
    have h29 := hW.2.2.2.2
    refine wp_iload_n eX5_meantBy_4 rfl ?_
    refine wp_aload_n eX5_meantBy_5 rfl ?_
    refine wp_getI (v := S 10 12) eX5_meantBy_6 (show Ob h 1 5 from hC.ob) rfl hR.c3 ?_
    refine wp_icmpF eX5_meantBy_9 (show ¬ ((S 10 12) ≤ (nI t)) from (lp_lt hW.2.2.1.1 (by omega) (by omega))) ?_
    refine wp_aload_n eX5_meantBy_12 rfl ?_
    refine wp_getR (v := 3) eX5_meantBy_13 (show Ob h 1 5 from hC.ob) rfl hC.r2 ?_
    refine wp_iload_n eX5_meantBy_16 rfl ?_
    refine wp_aal (v := thA h t) (t := t) eX5_meantBy_17 (show Ar h 3 10 120 from hC.a3) rfl rfl (by omega) rfl (hR.th_r t (by omega)) ?_
    refine wp_astore (ls' := [some (.ref 1), some (.ref (clA h c)), some (.int a), some (.int (nI t)), some (.ref (thA h t))]) eX5_meantBy_18 rfl rfl ?_
    refine wp_aload eX5_meantBy_20 rfl ?_
    refine wp_ifnullF eX5_meantBy_22 ?_
    refine wp_aload_n eX5_meantBy_25 rfl ?_
    refine wp_aload eX5_meantBy_26 rfl ?_
    refine wp_virt (rv := (some (.int (sIsM S c t)))) (h' := h) (r := []) eX5_meantBy_28 [.ref (thA h t)] rfl rfl rfl (show Ob h (clA h c) 1 from hR.cl_ob c (by omega)) (bX1_isAbout _ hR hW _ _ (by omega) (by omega) hT) ?_
    refine wp_if eX5_meantBy_31 (fun (c_31 : (sIsM S c t) = 0) => ?_) (fun (c_31 : ¬ ((sIsM S c t) = 0)) => ?_)
    · refine wp_iinc (v := nI (t + 1)) (ls' := [some (.ref 1), some (.ref (clA h c)), some (.int a), some (.int (nI (t + 1))), some (.ref (thA h t))]) eX5_meantBy_37 rfl (nI_1 t) rfl ?_
      refine wp_goto eX5_meantBy_40 ?_
      exact ih (t + 1) _ _ (by omega) (by simp only [sMeans]; rw [← ha]; first | (rw [c_31, Int32.add_zero]; done) | (rw [(sIsM_01 S c t).resolve_left c_31]; done))
    · refine wp_iinc (v := a + 1) (ls' := [some (.ref 1), some (.ref (clA h c)), some (.int (a + 1)), some (.int (nI t)), some (.ref (thA h t))]) eX5_meantBy_34 rfl rfl rfl ?_
      refine wp_iinc (v := nI (t + 1)) (ls' := [some (.ref 1), some (.ref (clA h c)), some (.int (a + 1)), some (.int (nI (t + 1))), some (.ref (thA h t))]) eX5_meantBy_37 rfl (nI_1 t) rfl ?_
      refine wp_goto eX5_meantBy_40 ?_
      exact ih (t + 1) _ _ (by omega) (by simp only [sMeans]; rw [← ha]; first | (rw [c_31, Int32.add_zero]; done) | (rw [(sIsM_01 S c t).resolve_left c_31]; done))

set_option maxRecDepth 4000 in
theorem bX5_meantBy (d : Nat) {h : Hp} {S : St} (hR : CR S h) (hW : MW S) (c : Nat) (hc : c < cC S) (hT : TI S c) : Res (d + 3) nX5_meantBy [.ref 1, .ref (clA h c)] h (some (.int (sMeans S c (cT S)))) h := by
  have hC := hR.1
  have h5 := hW.1.2
  have h11 := hW.2.1.2
  have h12 := hW.2.2.1.2
  have h29 := hW.2.2.2.2
  refine Res_intro (ls := [some (.ref 1), some (.ref (clA h c)), none, none, none]) aX5_meantBy rfl rfl rfl rfl ?_
  show WP kX5_meantBy _ _ _ _ _ _
  refine wp_iconst (v := 0) eX5_meantBy_0 rfl ?_
  refine wp_istore_n (ls' := [some (.ref 1), some (.ref (clA h c)), some (.int 0), none, none]) eX5_meantBy_1 rfl rfl ?_
  refine wp_iconst (v := 0) eX5_meantBy_2 rfl ?_
  refine wp_istore_n (ls' := [some (.ref 1), some (.ref (clA h c)), some (.int 0), some (.int 0), none]) eX5_meantBy_3 rfl rfl ?_
  exact lX5_meantBy d hR hW c hc hT (cT S) 0 _ _ (by omega) rfl

set_option maxRecDepth 4000 in
theorem lX5_firstMeantBy (d : Nat) {h : Hp} {S : St} (hR : CR S h) (hW : MW S) (c : Nat) (hc : c < cC S) (hT : TI S c) (v : Int32) : ∀ (n t : Nat) (x3 : Option Value), t + n = cT S → (cFst S c (cT S - t) t = v) → WP kX5_firstMeantBy (Res (d + 2)) (fun r1 h1 => r1 = some (.int v) ∧ h1 = h) 2 [some (.ref 1), some (.ref (clA h c)), some (.int (nI t)), x3] [] h := by
  intro n
  induction n with
  | zero =>
    intro t x3 hn ha
    have hC := hR.1
    have h5 := hW.1.2
    have h11 := hW.2.1.2
    have h12 := hW.2.2.1.2
    have h29 := hW.2.2.2.2
    refine wp_iload_n eX5_firstMeantBy_2 rfl ?_
    refine wp_aload_n eX5_firstMeantBy_3 rfl ?_
    refine wp_getI (v := S 10 12) eX5_firstMeantBy_4 (show Ob h 1 5 from hC.ob) rfl hR.c3 ?_
    refine wp_icmpT eX5_firstMeantBy_7 (show (S 10 12) ≤ (nI t) from (lp_ge hW.2.2.1.1 (by omega) (by omega))) ?_
    refine wp_iconst (v := (-1)) eX5_firstMeantBy_37 rfl ?_
    exact wp_iret eX5_firstMeantBy_38 ⟨congrArg (fun z => some (Value.int z)) (by rw [← ha, show cT S - t = 0 by omega]; rfl), rfl⟩
  | succ n ih =>
    intro t x3 hn ha
    have hC := hR.1
    have h5 := hW.1.2
    have h11 := hW.2.1.2
    have h12 := hW.2.2.1.2
    have h29 := hW.2.2.2.2
    refine wp_iload_n eX5_firstMeantBy_2 rfl ?_
    refine wp_aload_n eX5_firstMeantBy_3 rfl ?_
    refine wp_getI (v := S 10 12) eX5_firstMeantBy_4 (show Ob h 1 5 from hC.ob) rfl hR.c3 ?_
    refine wp_icmpF eX5_firstMeantBy_7 (show ¬ ((S 10 12) ≤ (nI t)) from (lp_lt hW.2.2.1.1 (by omega) (by omega))) ?_
    refine wp_aload_n eX5_firstMeantBy_10 rfl ?_
    refine wp_getR (v := 3) eX5_firstMeantBy_11 (show Ob h 1 5 from hC.ob) rfl hC.r2 ?_
    refine wp_iload_n eX5_firstMeantBy_14 rfl ?_
    refine wp_aal (v := thA h t) (t := t) eX5_firstMeantBy_15 (show Ar h 3 10 120 from hC.a3) rfl rfl (by omega) rfl (hR.th_r t (by omega)) ?_
    refine wp_astore_n (ls' := [some (.ref 1), some (.ref (clA h c)), some (.int (nI t)), some (.ref (thA h t))]) eX5_firstMeantBy_16 rfl rfl ?_
    refine wp_aload_n eX5_firstMeantBy_17 rfl ?_
    refine wp_ifnullF eX5_firstMeantBy_18 ?_
    refine wp_aload_n eX5_firstMeantBy_21 rfl ?_
    refine wp_aload_n eX5_firstMeantBy_22 rfl ?_
    refine wp_virt (rv := (some (.int (sIsM S c t)))) (h' := h) (r := []) eX5_firstMeantBy_23 [.ref (thA h t)] rfl rfl rfl (show Ob h (clA h c) 1 from hR.cl_ob c (by omega)) (bX1_isAbout _ hR hW _ _ (by omega) (by omega) hT) ?_
    refine wp_if eX5_firstMeantBy_26 (fun (c_26 : (sIsM S c t) = 0) => ?_) (fun (c_26 : ¬ ((sIsM S c t) = 0)) => ?_)
    · refine wp_iinc (v := nI (t + 1)) (ls' := [some (.ref 1), some (.ref (clA h c)), some (.int (nI (t + 1))), some (.ref (thA h t))]) eX5_firstMeantBy_31 rfl (nI_1 t) rfl ?_
      refine wp_goto eX5_firstMeantBy_34 ?_
      exact ih (t + 1) _ (by omega) (by rw [← ha, show cT S - t = (cT S - (t + 1)) + 1 by omega]; simp only [cFst, if_pos c_26])
    · refine wp_iload_n eX5_firstMeantBy_29 rfl ?_
      exact wp_iret eX5_firstMeantBy_30 ⟨congrArg (fun z => some (Value.int z)) (by rw [← ha, show cT S - t = n + 1 by omega]; simp only [cFst, if_neg c_26]), rfl⟩

set_option maxRecDepth 4000 in
theorem bX5_firstMeantBy (d : Nat) {h : Hp} {S : St} (hR : CR S h) (hW : MW S) (c : Nat) (hc : c < cC S) (hT : TI S c) : Res (d + 3) nX5_firstMeantBy [.ref 1, .ref (clA h c)] h (some (.int (cFst S c (cT S) 0))) h := by
  have hC := hR.1
  have h5 := hW.1.2
  have h11 := hW.2.1.2
  have h12 := hW.2.2.1.2
  have h29 := hW.2.2.2.2
  refine Res_intro (ls := [some (.ref 1), some (.ref (clA h c)), none, none]) aX5_firstMeantBy rfl rfl rfl rfl ?_
  show WP kX5_firstMeantBy _ _ _ _ _ _
  refine wp_iconst (v := 0) eX5_firstMeantBy_0 rfl ?_
  refine wp_istore_n (ls' := [some (.ref 1), some (.ref (clA h c)), some (.int 0), none]) eX5_firstMeantBy_1 rfl rfl ?_
  exact lX5_firstMeantBy d hR hW c hc hT _ (cT S) 0 _ (by omega) rfl

set_option maxRecDepth 4000 in
theorem lX5_thingsIn {Cal : am_Ct} {h : Hp} {S : St} (hR : CR S h) (hW : MW S)  : ∀ (n t : Nat) (a : Int32) (x3 : Option Value), t + n = cS S → (a = cLds S t) → WP kX5_thingsIn Cal (fun r1 h1 => r1 = some (.int (cLds S (cS S))) ∧ h1 = h) 4 [some (.ref 1), some (.int a), some (.int (nI t)), x3] [] h := by
  intro n
  induction n with
  | zero =>
    intro t a x3 hn ha
    have hC := hR.1
    have h5 := hW.1.2
    have h11 := hW.2.1.2
    have h12 := hW.2.2.1.2
    have h29 := hW.2.2.2.2
    refine wp_iload_n eX5_thingsIn_4 rfl ?_
    refine wp_aload_n eX5_thingsIn_5 rfl ?_
    refine wp_getI (v := S 10 11) eX5_thingsIn_6 (show Ob h 1 5 from hC.ob) rfl hR.c1 ?_
    refine wp_icmpT eX5_thingsIn_9 (show (S 10 11) ≤ (nI t) from (lp_ge hW.2.1.1 (by omega) (by omega))) ?_
    refine wp_iload_n eX5_thingsIn_36 rfl ?_
    exact wp_iret eX5_thingsIn_37 ⟨congrArg (fun z => some (Value.int z)) (by rw [ha, show t = cS S by omega]), rfl⟩
  | succ n ih =>
    intro t a x3 hn ha
    have hC := hR.1
    have h5 := hW.1.2
    have h11 := hW.2.1.2
    have h12 := hW.2.2.1.2
    have h29 := hW.2.2.2.2
    refine wp_iload_n eX5_thingsIn_4 rfl ?_
    refine wp_aload_n eX5_thingsIn_5 rfl ?_
    refine wp_getI (v := S 10 11) eX5_thingsIn_6 (show Ob h 1 5 from hC.ob) rfl hR.c1 ?_
    refine wp_icmpF eX5_thingsIn_9 (show ¬ ((S 10 11) ≤ (nI t)) from (lp_lt hW.2.1.1 (by omega) (by omega))) ?_
    refine wp_aload_n eX5_thingsIn_12 rfl ?_
    refine wp_getR (v := 2) eX5_thingsIn_13 (show Ob h 1 5 from hC.ob) rfl hC.r0 ?_
    refine wp_iload_n eX5_thingsIn_16 rfl ?_
    refine wp_aal (v := shA h t) (t := t) eX5_thingsIn_17 (show Ar h 2 9 16 from hC.a2) rfl rfl (by omega) rfl (hR.sh_r t (by omega)) ?_
    refine wp_astore_n (ls' := [some (.ref 1), some (.int a), some (.int (nI t)), some (.ref (shA h t))]) eX5_thingsIn_18 rfl rfl ?_
    refine wp_aload_n eX5_thingsIn_19 rfl ?_
    refine wp_ifnullF eX5_thingsIn_20 ?_
    refine wp_iload_n eX5_thingsIn_23 rfl ?_
    refine wp_aload_n eX5_thingsIn_24 rfl ?_
    refine wp_getI (v := sLoad S t (cT S)) eX5_thingsIn_25 (show Ob h (shA h t) 3 from hR.sh_ob t (by omega)) rfl (hR.sh6 t (by omega)) ?_
    refine wp_iadd eX5_thingsIn_28 ?_
    refine wp_istore_n (ls' := [some (.ref 1), some (.int (a + (sLoad S t (cT S)))), some (.int (nI t)), some (.ref (shA h t))]) eX5_thingsIn_29 rfl rfl ?_
    refine wp_iinc (v := nI (t + 1)) (ls' := [some (.ref 1), some (.int (a + (sLoad S t (cT S)))), some (.int (nI (t + 1))), some (.ref (shA h t))]) eX5_thingsIn_30 rfl (nI_1 t) rfl ?_
    refine wp_goto eX5_thingsIn_33 ?_
    exact ih (t + 1) _ _ (by omega) (by rw [ha]; rfl)

set_option maxRecDepth 4000 in
theorem bX5_thingsIn (d : Nat) {h : Hp} {S : St} (hR : CR S h) (hW : MW S)  : Res (d + 1) nX5_thingsIn [.ref 1] h (some (.int (cLds S (cS S)))) h := by
  have hC := hR.1
  have h5 := hW.1.2
  have h11 := hW.2.1.2
  have h12 := hW.2.2.1.2
  have h29 := hW.2.2.2.2
  refine Res_intro (ls := [some (.ref 1), none, none, none]) aX5_thingsIn rfl rfl rfl rfl ?_
  show WP kX5_thingsIn _ _ _ _ _ _
  refine wp_iconst (v := 0) eX5_thingsIn_0 rfl ?_
  refine wp_istore_n (ls' := [some (.ref 1), some (.int 0), none, none]) eX5_thingsIn_1 rfl rfl ?_
  refine wp_iconst (v := 0) eX5_thingsIn_2 rfl ?_
  refine wp_istore_n (ls' := [some (.ref 1), some (.int 0), some (.int 0), none]) eX5_thingsIn_3 rfl rfl ?_
  exact lX5_thingsIn hR hW (cS S) 0 _ _ (by omega) rfl

set_option maxRecDepth 4000 in
theorem lX5_coinsKept {Cal : am_Ct} {h : Hp} {S : St} (hR : CR S h) (hW : MW S)  : ∀ (n t : Nat) (a : Int32) (x3 : Option Value), t + n = cT S → (a = sKept S t) → WP kX5_coinsKept Cal (fun r1 h1 => r1 = some (.int (sKept S (cT S))) ∧ h1 = h) 4 [some (.ref 1), some (.int a), some (.int (nI t)), x3] [] h := by
  intro n
  induction n with
  | zero =>
    intro t a x3 hn ha
    have hC := hR.1
    have h5 := hW.1.2
    have h11 := hW.2.1.2
    have h12 := hW.2.2.1.2
    have h29 := hW.2.2.2.2
    refine wp_iload_n eX5_coinsKept_4 rfl ?_
    refine wp_aload_n eX5_coinsKept_5 rfl ?_
    refine wp_getI (v := S 10 12) eX5_coinsKept_6 (show Ob h 1 5 from hC.ob) rfl hR.c3 ?_
    refine wp_icmpT eX5_coinsKept_9 (show (S 10 12) ≤ (nI t) from (lp_ge hW.2.2.1.1 (by omega) (by omega))) ?_
    refine wp_iload_n eX5_coinsKept_36 rfl ?_
    exact wp_iret eX5_coinsKept_37 ⟨congrArg (fun z => some (Value.int z)) (by rw [ha, show t = cT S by omega]), rfl⟩
  | succ n ih =>
    intro t a x3 hn ha
    have hC := hR.1
    have h5 := hW.1.2
    have h11 := hW.2.1.2
    have h12 := hW.2.2.1.2
    have h29 := hW.2.2.2.2
    refine wp_iload_n eX5_coinsKept_4 rfl ?_
    refine wp_aload_n eX5_coinsKept_5 rfl ?_
    refine wp_getI (v := S 10 12) eX5_coinsKept_6 (show Ob h 1 5 from hC.ob) rfl hR.c3 ?_
    refine wp_icmpF eX5_coinsKept_9 (show ¬ ((S 10 12) ≤ (nI t)) from (lp_lt hW.2.2.1.1 (by omega) (by omega))) ?_
    refine wp_aload_n eX5_coinsKept_12 rfl ?_
    refine wp_getR (v := 3) eX5_coinsKept_13 (show Ob h 1 5 from hC.ob) rfl hC.r2 ?_
    refine wp_iload_n eX5_coinsKept_16 rfl ?_
    refine wp_aal (v := thA h t) (t := t) eX5_coinsKept_17 (show Ar h 3 10 120 from hC.a3) rfl rfl (by omega) rfl (hR.th_r t (by omega)) ?_
    refine wp_astore_n (ls' := [some (.ref 1), some (.int a), some (.int (nI t)), some (.ref (thA h t))]) eX5_coinsKept_18 rfl rfl ?_
    refine wp_aload_n eX5_coinsKept_19 rfl ?_
    refine wp_ifnullF eX5_coinsKept_20 ?_
    refine wp_iload_n eX5_coinsKept_23 rfl ?_
    refine wp_aload_n eX5_coinsKept_24 rfl ?_
    refine wp_getI (v := S 28 t) eX5_coinsKept_25 (show Ob h (thA h t) 4 from hR.th_ob t (by omega)) rfl (hR.th9 t (by omega)) ?_
    refine wp_iadd eX5_coinsKept_28 ?_
    refine wp_istore_n (ls' := [some (.ref 1), some (.int (a + (S 28 t))), some (.int (nI t)), some (.ref (thA h t))]) eX5_coinsKept_29 rfl rfl ?_
    refine wp_iinc (v := nI (t + 1)) (ls' := [some (.ref 1), some (.int (a + (S 28 t))), some (.int (nI (t + 1))), some (.ref (thA h t))]) eX5_coinsKept_30 rfl (nI_1 t) rfl ?_
    refine wp_goto eX5_coinsKept_33 ?_
    exact ih (t + 1) _ _ (by omega) (by rw [ha]; rfl)

set_option maxRecDepth 4000 in
theorem bX5_coinsKept (d : Nat) {h : Hp} {S : St} (hR : CR S h) (hW : MW S)  : Res (d + 1) nX5_coinsKept [.ref 1] h (some (.int (sKept S (cT S)))) h := by
  have hC := hR.1
  have h5 := hW.1.2
  have h11 := hW.2.1.2
  have h12 := hW.2.2.1.2
  have h29 := hW.2.2.2.2
  refine Res_intro (ls := [some (.ref 1), none, none, none]) aX5_coinsKept rfl rfl rfl rfl ?_
  show WP kX5_coinsKept _ _ _ _ _ _
  refine wp_iconst (v := 0) eX5_coinsKept_0 rfl ?_
  refine wp_istore_n (ls' := [some (.ref 1), some (.int 0), none, none]) eX5_coinsKept_1 rfl rfl ?_
  refine wp_iconst (v := 0) eX5_coinsKept_2 rfl ?_
  refine wp_istore_n (ls' := [some (.ref 1), some (.int 0), some (.int 0), none]) eX5_coinsKept_3 rfl rfl ?_
  exact lX5_coinsKept hR hW (cT S) 0 _ _ (by omega) rfl
