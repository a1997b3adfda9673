/-! THE CLASS: where a new thing goes -/
set_option maxRecDepth 4000 in
theorem bX5_isNearer (d : Nat) {h : Hp} {S : St} (hR : CR S h) (hW : MW S) (hS : SR S) (a u : Nat) (hV : TV S h a u) (hu : RG (S 24 u) 100000) (s b : Nat) (hs : s < cS S) (hb : b < cS S) : Res (d + 3) nX5_isNearer [.ref 1, .ref (shA h s), .ref (shA h b), .ref a] h (some (.int (if sMis S u s < sMis S u b ∨ (sMis S u s = sMis S u b ∧ S 18 s < S 18 b) then 1 else 0))) h := by
  have hC := hR.1
  have h5 := hW.1.2
  have h11 := hW.2.1.2
  have h12 := hW.2.2.1.2
  have h29 := hW.2.2.2.2
  refine Res_intro (ls := [some (.ref 1), some (.ref (shA h s)), some (.ref (shA h b)), some (.ref a), none, none]) aX5_isNearer rfl rfl rfl rfl ?_
  show WP kX5_isNearer _ _ _ _ _ _
  refine wp_aload_n eX5_isNearer_0 rfl ?_
  refine wp_aload_n eX5_isNearer_1 rfl ?_
  refine wp_aload_n eX5_isNearer_2 rfl ?_
  refine wp_getI (v := S 10 0) eX5_isNearer_3 (show Ob h 1 5 from hC.ob) rfl hR.c10 ?_
  refine wp_virt (rv := (some (.int (sMis S u s)))) (h' := h) (r := []) eX5_isNearer_6 [.ref (shA h s), .int (S 10 0)] rfl rfl rfl (show Ob h a 4 from hV.1) (bX4_misfitOn _ hR hS hV hu (by omega)) ?_
  refine wp_istore (ls' := [some (.ref 1), some (.ref (shA h s)), some (.ref (shA h b)), some (.ref a), some (.int (sMis S u s)), none]) eX5_isNearer_9 rfl rfl ?_
  refine wp_aload_n eX5_isNearer_11 rfl ?_
  refine wp_aload_n eX5_isNearer_12 rfl ?_
  refine wp_aload_n eX5_isNearer_13 rfl ?_
  refine wp_getI (v := S 10 0) eX5_isNearer_14 (show Ob h 1 5 from hC.ob) rfl hR.c10 ?_
  refine wp_virt (rv := (some (.int (sMis S u b)))) (h' := h) (r := []) eX5_isNearer_17 [.ref (shA h b), .int (S 10 0)] rfl rfl rfl (show Ob h a 4 from hV.1) (bX4_misfitOn _ hR hS hV hu (by omega)) ?_
  refine wp_istore (ls' := [some (.ref 1), some (.ref (shA h s)), some (.ref (shA h b)), some (.ref a), some (.int (sMis S u s)), some (.int (sMis S u b))]) eX5_isNearer_20 rfl rfl ?_
  refine wp_iload eX5_isNearer_22 rfl ?_
  refine wp_iload eX5_isNearer_24 rfl ?_
  refine wp_icmp eX5_isNearer_26 (fun (c_26 : (sMis S u s) < (sMis S u b)) => ?_) (fun (c_26 : ¬ ((sMis S u s) < (sMis S u b))) => ?_)
  · refine wp_iconst (v := 1) eX5_isNearer_47 rfl ?_
    refine wp_goto eX5_isNearer_48 ?_
    exact wp_zret eX5_isNearer_52 (by first | exact Or.inl rfl | exact Or.inr rfl | assumption) ⟨congrArg (fun z => some (Value.int z)) (by (repeat' split) <;> first | rfl | (exfalso; simp_all; done) | (exfalso; simp only [Int32.lt_iff_toInt_lt, Int32.le_iff_toInt_le, ← Int32.toInt_inj, Int32.reduceToInt] at *; omega)), rfl⟩
  · refine wp_iload eX5_isNearer_29 rfl ?_
    refine wp_iload eX5_isNearer_31 rfl ?_
    refine wp_icmp eX5_isNearer_33 (fun (c_33 : ¬ (sMis S u s) = (sMis S u b)) => ?_) (fun (c_33 : ¬ (¬ (sMis S u s) = (sMis S u b))) => ?_)
    · refine wp_iconst (v := 0) eX5_isNearer_51 rfl ?_
      exact wp_zret eX5_isNearer_52 (by first | exact Or.inl rfl | exact Or.inr rfl | assumption) ⟨congrArg (fun z => some (Value.int z)) (by (repeat' split) <;> first | rfl | (exfalso; simp_all; done) | (exfalso; simp only [Int32.lt_iff_toInt_lt, Int32.le_iff_toInt_le, ← Int32.toInt_inj, Int32.reduceToInt] at *; omega)), rfl⟩
    · refine wp_aload_n eX5_isNearer_36 rfl ?_
      refine wp_getI (v := S 18 s) eX5_isNearer_37 (show Ob h (shA h s) 3 from hR.sh_ob s (by omega)) rfl (hR.sh4 s (by omega)) ?_
      refine wp_aload_n eX5_isNearer_40 rfl ?_
      refine wp_getI (v := S 18 b) eX5_isNearer_41 (show Ob h (shA h b) 3 from hR.sh_ob b (by omega)) rfl (hR.sh4 b (by omega)) ?_
      refine wp_icmp eX5_isNearer_44 (fun (c_44 : (S 18 b) ≤ (S 18 s)) => ?_) (fun (c_44 : ¬ ((S 18 b) ≤ (S 18 s))) => ?_)
      · refine wp_iconst (v := 0) eX5_isNearer_51 rfl ?_
        exact wp_zret eX5_isNearer_52 (by first | exact Or.inl rfl | exact Or.inr rfl | assumption) ⟨congrArg (fun z => some (Value.int z)) (by (repeat' split) <;> first | rfl | (exfalso; simp_all; done) | (exfalso; simp only [Int32.lt_iff_toInt_lt, Int32.le_iff_toInt_le, ← Int32.toInt_inj, Int32.reduceToInt] at *; omega)), rfl⟩
      · refine wp_iconst (v := 1) eX5_isNearer_47 rfl ?_
        refine wp_goto eX5_isNearer_48 ?_
        exact wp_zret eX5_isNearer_52 (by first | exact Or.inl rfl | exact Or.inr rfl | assumption) ⟨congrArg (fun z => some (Value.int z)) (by (repeat' split) <;> first | rfl | (exfalso; simp_all; done) | (exfalso; simp only [Int32.lt_iff_toInt_lt, Int32.le_iff_toInt_le, ← Int32.toInt_inj, Int32.reduceToInt] at *; omega)), rfl⟩

def cBst (S : St) (h : Hp) (u n : Nat) : Option Nat := if sBest S u n < 0 then none else some (shA h (sBest S u n).toNatClampNeg)
theorem cBst_s {S : St} {h : Hp} {u n k : Nat} (hk : k < 100) (e : sBest S u n = nI k) : cBst S h u n = some (shA h k) := by
  unfold cBst
  rw [e, if_neg (nI_pos (by omega)), nI_clamp (by omega)]
theorem cBst_n {S : St} {h : Hp} {u n : Nat} (e : sBest S u n < 0) : cBst S h u n = none := by
  unfold cBst
  rw [if_pos e]
theorem sBest_no {S : St} {u n : Nat} (e : sFits S u n = 0) : sBest S u (n + 1) = sBest S u n := by
  show (if sFits S u n = 0 then _ else _) = _
  rw [if_pos e]
theorem sBest_1 {S : St} {u n : Nat} (e : ¬ sFits S u n = 0) (q : sBest S u n < 0) : sBest S u (n + 1) = nI n := by
  show (if sFits S u n = 0 then _ else if sBetter S u n (sBest S u n) = true then _ else _) = _
  rw [if_neg e, if_pos]
  unfold sBetter
  exact decide_eq_true (Or.inl q)
theorem sBest_2 {S : St} {u n k : Nat} (hk : k < 100) (e : ¬ sFits S u n = 0) (q : sBest S u n = nI k) : sBest S u (n + 1) = if sMis S u n < sMis S u k ∨ (sMis S u n = sMis S u k ∧ S 18 n < S 18 k) then nI n else nI k := by
  show (if sFits S u n = 0 then _ else if sBetter S u n (sBest S u n) = true then _ else _) = _
  rw [if_neg e]
  unfold sBetter
  rw [q, nI_clamp (by omega)]
  have h0 : ¬ nI k < 0 := nI_pos (by omega)
  simp only [h0, false_or, decide_eq_true_eq]

set_option maxRecDepth 4000 in
theorem lX5_shelfForNew (d : Nat) {h : Hp} {S : St} (hR : CR S h) (hW : MW S) (hS : SR S) (a u : Nat) (hV : TV S h a u) (hu : RG (S 24 u) 100000) : ∀ (n t : Nat) (b : Option Nat) (x4 : Option Value), t + n = cS S → b = cBst S h u t → WP kX5_shelfForNew (Res (d + 3)) (fun r1 h1 => r1 = some (va_rf (cBst S h u (cS S))) ∧ h1 = h) 4 [some (.ref 1), some (.ref a), some (va_rf b), some (.int (nI t)), x4] [] h := by
  intro n
  induction n with
  | zero =>
    intro t b x4 hn hb
    have hC := hR.1
    have h5 := hW.1.2
    have h11 := hW.2.1.2
    have h12 := hW.2.2.1.2
    have h29 := hW.2.2.2.2
    refine wp_iload_n eX5_shelfForNew_4 rfl ?_
    refine wp_aload_n eX5_shelfForNew_5 rfl ?_
    refine wp_getI (v := S 10 11) eX5_shelfForNew_6 (show Ob h 1 5 from hC.ob) rfl hR.c1 ?_
    refine wp_icmpT eX5_shelfForNew_9 (show (S 10 11) ≤ (nI t) from (lp_ge hW.2.1.1 (by omega) (by omega))) ?_
    refine wp_aload_nO eX5_shelfForNew_58 rfl ?_
    exact wp_aretO eX5_shelfForNew_59 ⟨congrArg (fun z => some (va_rf z)) (by rw [hb, show t = cS S by omega]), rfl⟩
  | succ n ih =>
    intro t b x4 hn hb
    have hC := hR.1
    have h5 := hW.1.2
    have h11 := hW.2.1.2
    have h12 := hW.2.2.1.2
    have h29 := hW.2.2.2.2
    rcases Decidable.em (sBest S u t < 0) with c0 | c0
    · rw [cBst_n c0] at hb
      subst hb
      refine wp_iload_n eX5_shelfForNew_4 rfl ?_
      refine wp_aload_n eX5_shelfForNew_5 rfl ?_
      refine wp_getI (v := S 10 11) eX5_shelfForNew_6 (show Ob h 1 5 from hC.ob) rfl hR.c1 ?_
      refine wp_icmpF eX5_shelfForNew_9 (show ¬ ((S 10 11) ≤ (nI t)) from (lp_lt hW.2.1.1 (by omega) (by omega))) ?_
      refine wp_aload_n eX5_shelfForNew_12 rfl ?_
      refine wp_getR (v := 2) eX5_shelfForNew_13 (show Ob h 1 5 from hC.ob) rfl hC.r0 ?_
      refine wp_iload_n eX5_shelfForNew_16 rfl ?_
      refine wp_aal (v := shA h t) (t := t) eX5_shelfForNew_17 (show Ar h 2 9 16 from hC.a2) rfl rfl (by omega) rfl (hR.sh_r t (by omega)) ?_
      refine wp_astore (ls' := [some (.ref 1), some (.ref a), some (va_rf none), some (.int (nI t)), some (.ref (shA h t))]) eX5_shelfForNew_18 rfl rfl ?_
      refine wp_aload eX5_shelfForNew_20 rfl ?_
      refine wp_ifnullF eX5_shelfForNew_22 ?_
      refine wp_aload eX5_shelfForNew_25 rfl ?_
      refine wp_aload_n eX5_shelfForNew_27 rfl ?_
      refine wp_virt (rv := (some (.int (sFits S u t)))) (h' := h) (r := []) eX5_shelfForNew_28 [.ref a] rfl rfl rfl (show Ob h (shA h t) 3 from hR.sh_ob t (by omega)) (bX3_fits _ hR hV (by omega)) ?_
      refine wp_if eX5_shelfForNew_31 (fun (c_31 : (sFits S u t) = 0) => ?_) (fun (c_31 : ¬ ((sFits S u t) = 0)) => ?_)
      · refine wp_iinc (v := nI (t + 1)) (ls' := [some (.ref 1), some (.ref a), some (va_rf none), some (.int (nI (t + 1))), some (.ref (shA h t))]) eX5_shelfForNew_52 rfl (nI_1 t) rfl ?_
        refine wp_goto eX5_shelfForNew_55 ?_
        exact ih (t + 1) none _ (by omega) (by rw [cBst_n (by rw [sBest_no c_31]; exact c0)])
      · refine wp_aload_nO eX5_shelfForNew_34 rfl ?_
        refine wp_ifnullT eX5_shelfForNew_35 ?_
        refine wp_aload eX5_shelfForNew_49 rfl ?_
        refine wp_astore_n (ls' := [some (.ref 1), some (.ref a), some (.ref (shA h t)), some (.int (nI t)), some (.ref (shA h t))]) eX5_shelfForNew_51 rfl rfl ?_
        refine wp_iinc (v := nI (t + 1)) (ls' := [some (.ref 1), some (.ref a), some (.ref (shA h t)), some (.int (nI (t + 1))), some (.ref (shA h t))]) eX5_shelfForNew_52 rfl (nI_1 t) rfl ?_
        refine wp_goto eX5_shelfForNew_55 ?_
        exact ih (t + 1) (some (shA h t)) _ (by omega) (by rw [cBst_s (k := t) (by omega) (sBest_1 c_31 c0)])
    · obtain ⟨k, hk, ek⟩ := sBest_get (by omega) c0
      rw [cBst_s (by omega) ek] at hb
      subst hb
      refine wp_iload_n eX5_shelfForNew_4 rfl ?_
      refine wp_aload_n eX5_shelfForNew_5 rfl ?_
      refine wp_getI (v := S 10 11) eX5_shelfForNew_6 (show Ob h 1 5 from hC.ob) rfl hR.c1 ?_
      refine wp_icmpF eX5_shelfForNew_9 (show ¬ ((S 10 11) ≤ (nI t)) from (lp_lt hW.2.1.1 (by omega) (by omega))) ?_
      refine wp_aload_n eX5_shelfForNew_12 rfl ?_
      refine wp_getR (v := 2) eX5_shelfForNew_13 (show Ob h 1 5 from hC.ob) rfl hC.r0 ?_
      refine wp_iload_n eX5_shelfForNew_16 rfl ?_
      refine wp_aal (v := shA h t) (t := t) eX5_shelfForNew_17 (show Ar h 2 9 16 from hC.a2) rfl rfl (by omega) rfl (hR.sh_r t (by omega)) ?_
      refine wp_astore (ls' := [some (.ref 1), some (.ref a), some (.ref (shA h k)), some (.int (nI t)), some (.ref (shA h t))]) eX5_shelfForNew_18 rfl rfl ?_
      refine wp_aload eX5_shelfForNew_20 rfl ?_
      refine wp_ifnullF eX5_shelfForNew_22 ?_
      refine wp_aload eX5_shelfForNew_25 rfl ?_
      refine wp_aload_n eX5_shelfForNew_27 rfl ?_
      refine wp_virt (rv := (some (.int (sFits S u t)))) (h' := h) (r := []) eX5_shelfForNew_28 [.ref a] rfl rfl rfl (show Ob h (shA h t) 3 from hR.sh_ob t (by omega)) (bX3_fits _ hR hV (by omega)) ?_
      refine wp_if eX5_shelfForNew_31 (fun (c_31 : (sFits S u t) = 0) => ?_) (fun (c_31 : ¬ ((sFits S u t) = 0)) => ?_)
      · refine wp_iinc (v := nI (t + 1)) (ls' := [some (.ref 1), some (.ref a), some (.ref (shA h k)), some (.int (nI (t + 1))), some (.ref (shA h t))]) eX5_shelfForNew_52 rfl (nI_1 t) rfl ?_
        refine wp_goto eX5_shelfForNew_55 ?_
        exact ih (t + 1) (some (shA h k)) _ (by omega) (by rw [cBst_s (k := k) (by omega) (by first | (rw [sBest_no c_31]; exact ek) | (rw [sBest_2 (by omega) c_31 ek]; exact if_neg (fun z => by rw [if_pos z] at c_46; exact absurd c_46 (by decide))))])
      · refine wp_aload_n eX5_shelfForNew_34 rfl ?_
        refine wp_ifnullF eX5_shelfForNew_35 ?_
        refine wp_aload_n eX5_shelfForNew_38 rfl ?_
        refine wp_aload eX5_shelfForNew_39 rfl ?_
        refine wp_aload_n eX5_shelfForNew_41 rfl ?_
        refine wp_aload_n eX5_shelfForNew_42 rfl ?_
        refine wp_virt (rv := (some (.int (if sMis S u t < sMis S u k ∨ (sMis S u t = sMis S u k ∧ S 18 t < S 18 k) then 1 else 0)))) (h' := h) (r := []) eX5_shelfForNew_43 [.ref (shA h t), .ref (shA h k), .ref a] rfl rfl rfl (show Ob h 1 5 from hC.ob) (bX5_isNearer _ hR hW hS a u hV hu _ _ (by omega) (by omega)) ?_
        refine wp_if eX5_shelfForNew_46 (fun (c_46 : (if sMis S u t < sMis S u k ∨ (sMis S u t = sMis S u k ∧ S 18 t < S 18 k) then 1 else 0) = 0) => ?_) (fun (c_46 : ¬ ((if sMis S u t < sMis S u k ∨ (sMis S u t = sMis S u k ∧ S 18 t < S 18 k) then 1 else 0) = 0)) => ?_)
        · refine wp_iinc (v := nI (t + 1)) (ls' := [some (.ref 1), some (.ref a), some (.ref (shA h k)), some (.int (nI (t + 1))), some (.ref (shA h t))]) eX5_shelfForNew_52 rfl (nI_1 t) rfl ?_
          refine wp_goto eX5_shelfForNew_55 ?_
          exact ih (t + 1) (some (shA h k)) _ (by omega) (by rw [cBst_s (k := k) (by omega) (by first | (rw [sBest_no c_31]; exact ek) | (rw [sBest_2 (by omega) c_31 ek]; exact if_neg (fun z => by rw [if_pos z] at c_46; exact absurd c_46 (by decide))))])
        · refine wp_aload eX5_shelfForNew_49 rfl ?_
          refine wp_astore_n (ls' := [some (.ref 1), some (.ref a), some (.ref (shA h t)), some (.int (nI t)), some (.ref (shA h t))]) eX5_shelfForNew_51 rfl rfl ?_
          refine wp_iinc (v := nI (t + 1)) (ls' := [some (.ref 1), some (.ref a), some (.ref (shA h t)), some (.int (nI (t + 1))), some (.ref (shA h t))]) eX5_shelfForNew_52 rfl (nI_1 t) rfl ?_
          refine wp_goto eX5_shelfForNew_55 ?_
          exact ih (t + 1) (some (shA h t)) _ (by omega) (by rw [cBst_s (k := t) (by omega) (by rw [sBest_2 (by omega) c_31 ek]; exact if_pos (Decidable.byContradiction (fun z => c_46 (by rw [if_neg z]))))])

set_option maxRecDepth 4000 in
theorem bX5_shelfForNew (d : Nat) {h : Hp} {S : St} (hR : CR S h) (hW : MW S) (hS : SR S) (a u : Nat) (hV : TV S h a u) (hu : RG (S 24 u) 100000) : Res (d + 4) nX5_shelfForNew [.ref 1, .ref a] h (some (va_rf (cBst S h u (cS S)))) h := by
  have hC := hR.1
  have h5 := hW.1.2
  have h11 := hW.2.1.2
  have h12 := hW.2.2.1.2
  have h29 := hW.2.2.2.2
  refine Res_intro (ls := [some (.ref 1), some (.ref a), none, none, none]) aX5_shelfForNew rfl rfl rfl rfl ?_
  show WP kX5_shelfForNew _ _ _ _ _ _
  refine wp_null eX5_shelfForNew_0 ?_
  refine wp_astore_nO (ls' := [some (.ref 1), some (.ref a), some (va_rf none), none, none]) eX5_shelfForNew_1 rfl rfl ?_
  refine wp_iconst (v := 0) eX5_shelfForNew_2 rfl ?_
  refine wp_istore_n (ls' := [some (.ref 1), some (.ref a), some (va_rf none), some (.int 0), none]) eX5_shelfForNew_3 rfl rfl ?_
  exact lX5_shelfForNew d hR hW hS a u hV hu (cS S) 0 none _ (by omega) (cBst_n (show sBest S u 0 < 0 from (show (-1 : Int32) < 0 by decide))).symm

def cPut2 (S : St) (h : Hp) (a u k : Nat) : Hp := am_setI (cTak (am_setI (am_setR h 3 u (some a)) 1 3 (nI u + 1)) (shA h k) a) 1 14 (S 10 4 + 2 * S 18 k)
def cPutH (S : St) (h : Hp) (a u : Nat) : Hp := if sBest S u (cS S) < 0 then h else cPut2 S h a u (sBest S u (cS S)).toNatClampNeg
theorem cTak_i {h : Hp} {a s : Nat} (e : ¬ s = a) (x j : Nat) : am_i (cTak h s a) x j = if x = s ∧ j = 5 then am_i h s 5 - am_i h a 0 else if x = s ∧ j = 6 then am_i h s 6 + 1 else am_i h x j := by
  unfold cTak
  simp only [am_i_setI, am_i_setR]
  by_cases h3 : x = s
  · subst h3
    simp only [true_and]
    by_cases h5 : j = 5
    · subst h5; simp
    · by_cases h6 : j = 6
      · subst h6; simp
      · simp [h5, h6]
  · simp only [h3, false_and, if_false]
theorem cTak_r {h : Hp} {a s : Nat} (x j : Nat) : am_r (cTak h s a) x j = if x = a ∧ j = 8 then some s else am_r h x j := rfl
theorem cRel_i {h : Hp} {a s : Nat} (e : ¬ s = a) (x j : Nat) : am_i (cRel h s a) x j = if x = s ∧ j = 5 then am_i h s 5 + am_i h a 0 else if x = s ∧ j = 6 then am_i h s 6 - 1 else am_i h x j := by
  unfold cRel
  simp only [am_i_setI, am_i_setR]
  by_cases h3 : x = s
  · subst h3
    simp only [true_and]
    by_cases h5 : j = 5
    · subst h5; simp
    · by_cases h6 : j = 6
      · subst h6; simp
      · simp [h5, h6]
  · simp only [h3, false_and, if_false]
theorem cRel_r {h : Hp} {a s : Nat} (x j : Nat) : am_r (cRel h s a) x j = if x = a ∧ j = 8 then none else am_r h x j := rfl
theorem Ob.tak {h : Hp} {s b a k : Nat} (o : Ob h a k) : Ob (cTak h s b) a k := o
theorem Ob.rel {h : Hp} {s b a k : Nat} (o : Ob h a k) : Ob (cRel h s b) a k := o

set_option maxRecDepth 4000 in
theorem lX5_put_no (d : Nat) {h : Hp} {S : St} (hR : CR S h) (hW : MW S) (hS : SR S) (a u : Nat) (hV : TV S h a u) (hu : RG (S 24 u) 100000) (hut : S 10 12 = nI u) (hu1 : u < 120) (x8 x9 : Option Value) (w1 w2 w3 w4 w5 w6 : Int32) (x7 : Option Value) (hb : sBest S u (cS S) < 0) : WP kX5_put (Res (d + 4)) (fun r1 h1 => r1 = some (.int (-5)) ∧ h1 = h) 86 [some (.ref 1), some (.int w1), some (.int w2), some (.int w3), some (.int w4), some (.int w5), some (.int w6), x7, x8, x9] [.ref a] h := by
  have hC := hR.1
  have h5 := hW.1.2
  have h11 := hW.2.1.2
  have h12 := hW.2.2.1.2
  have h29 := hW.2.2.2.2
  refine wp_astore (ls' := [some (.ref 1), some (.int w1), some (.int w2), some (.int w3), some (.int w4), some (.int w5), some (.int w6), some (.ref a), x8, x9]) eX5_put_86 rfl rfl ?_
  refine wp_aload_n eX5_put_88 rfl ?_
  refine wp_aload eX5_put_89 rfl ?_
  refine wp_virt (rv := (some (va_rf none))) (h' := h) (r := []) eX5_put_91 [.ref a] rfl rfl rfl (show Ob h 1 5 from hC.ob) (by rw [← cBst_n (S := S) (h := h) hb]; exact bX5_shelfForNew _ hR hW hS a u hV hu) ?_
  refine wp_astoreO (ls' := [some (.ref 1), some (.int w1), some (.int w2), some (.int w3), some (.int w4), some (.int w5), some (.int w6), some (.ref a), some (va_rf none), x9]) eX5_put_94 rfl rfl ?_
  refine wp_aloadO eX5_put_96 rfl ?_
  refine wp_ifnonnullF eX5_put_98 ?_
  refine wp_bipush (v := (-5)) eX5_put_101 rfl ?_
  exact wp_iret eX5_put_103 ⟨congrArg (fun z => some (Value.int z)) (rfl), rfl⟩

set_option maxRecDepth 4000 in
theorem lX5_put_yes (d : Nat) {h : Hp} {S : St} (hR : CR S h) (hW : MW S) (hS : SR S) (a u : Nat) (hV : TV S h a u) (hu : RG (S 24 u) 100000) (hut : S 10 12 = nI u) (hu1 : u < 120) (x8 x9 : Option Value) (w1 w2 w3 w4 w5 w6 : Int32) (x7 : Option Value) (k : Nat) (hk : k < cS S) (hb : sBest S u (cS S) = nI k) (ha : 38 ≤ a) : WP kX5_put (Res (d + 4)) (fun r1 h1 => r1 = some (.int (sTick (nI u))) ∧ h1 = cPut2 S h a u k) 86 [some (.ref 1), some (.int w1), some (.int w2), some (.int w3), some (.int w4), some (.int w5), some (.int w6), x7, x8, x9] [.ref a] h := by
  have hC := hR.1
  have h5 := hW.1.2
  have h11 := hW.2.1.2
  have h12 := hW.2.2.1.2
  have h29 := hW.2.2.2.2
  have nsa : ¬ shA h k = a := (hR.sh_ob k hk).ne hV.1 (by decide)
  have ns1 : ¬ 1 = shA h k := fun z => hR.shn1 hk z.symm
  have i14 : am_i (cTak (am_setI (am_setR h 3 u (some a)) 1 3 (nI u + 1)) (shA h k) a) 1 14 = am_i h 1 14 := by rw [cTak_i nsa, if_neg (fun z => ns1 z.1), if_neg (fun z => ns1 z.1)]; exact (am_ij_ne (by decide)).trans rfl
  have i4 : am_i (cTak (am_setI (am_setR h 3 u (some a)) 1 3 (nI u + 1)) (shA h k) a) (shA h k) 4 = am_i h (shA h k) 4 := by rw [cTak_i nsa, if_neg (by omega), if_neg (by omega)]; exact (am_ij_ne (by decide)).trans rfl
  refine wp_astore (ls' := [some (.ref 1), some (.int w1), some (.int w2), some (.int w3), some (.int w4), some (.int w5), some (.int w6), some (.ref a), x8, x9]) eX5_put_86 rfl rfl ?_
  refine wp_aload_n eX5_put_88 rfl ?_
  refine wp_aload eX5_put_89 rfl ?_
  refine wp_virt (rv := (some (.ref (shA h k)))) (h' := h) (r := []) eX5_put_91 [.ref a] rfl rfl rfl (show Ob h 1 5 from hC.ob) (show Res (d + 4) nX5_shelfForNew [.ref 1, .ref a] h (some (va_rf (some (shA h k)))) h by rw [← cBst_s (S := S) (h := h) (by omega) hb]; exact bX5_shelfForNew _ hR hW hS a u hV hu) ?_
  refine wp_astore (ls' := [some (.ref 1), some (.int w1), some (.int w2), some (.int w3), some (.int w4), some (.int w5), some (.int w6), some (.ref a), some (.ref (shA h k)), x9]) eX5_put_94 rfl rfl ?_
  refine wp_aload eX5_put_96 rfl ?_
  refine wp_ifnonnullT eX5_put_98 ?_
  refine wp_aload_n eX5_put_104 rfl ?_
  refine wp_getI (v := S 10 12) eX5_put_105 (show Ob h 1 5 from hC.ob) rfl hR.c3 ?_
  refine wp_top (y := nI u) hut ?_
  refine wp_istore (ls' := [some (.ref 1), some (.int w1), some (.int w2), some (.int w3), some (.int w4), some (.int w5), some (.int w6), some (.ref a), some (.ref (shA h k)), some (.int (nI u))]) eX5_put_108 rfl rfl ?_
  refine wp_aload_n eX5_put_110 rfl ?_
  refine wp_getR (v := 3) eX5_put_111 (show Ob h 1 5 from hC.ob) rfl hC.r2 ?_
  refine wp_iload eX5_put_114 rfl ?_
  refine wp_aload eX5_put_116 rfl ?_
  refine wp_aas (t := u) (h' := am_setR h 3 u (some a)) eX5_put_118 (show Ar h 3 10 120 from hC.a3) rfl rfl hV.1 (by omega) rfl rfl ?_
  refine wp_aload_n eX5_put_119 rfl ?_
  refine wp_dup eX5_put_120 rfl ?_
  refine wp_getI (v := nI u) eX5_put_121 (show Ob (am_setR h 3 u (some a)) 1 5 from hC.ob) rfl (hR.c3.trans hut) ?_
  refine wp_iconst (v := 1) eX5_put_124 rfl ?_
  refine wp_iadd eX5_put_125 ?_
  refine wp_putI (h' := am_setI (am_setR h 3 u (some a)) 1 3 ((nI u) + 1)) eX5_put_126 (show Ob (am_setR h 3 u (some a)) 1 5 from hC.ob) rfl rfl ?_
  refine wp_aload eX5_put_129 rfl ?_
  refine wp_aload eX5_put_131 rfl ?_
  refine wp_virt (rv := none) (h' := cTak (am_setI (am_setR h 3 u (some a)) 1 3 (nI u + 1)) (shA h k) a) (r := []) eX5_put_133 [.ref a] rfl rfl rfl (show Ob (am_setI (am_setR h 3 u (some a)) 1 3 ((nI u) + 1)) (shA h k) 3 from (hR.sh_ob k hk)) (show Res (_ + 1) nX3_take _ _ none (cTak (am_setI (am_setR h 3 u (some a)) 1 3 (nI u + 1)) (shA h k) a) from rX3_take (h := am_setI (am_setR h 3 u (some a)) 1 3 (nI u + 1)) _ a hV.1 (shA h k) (hR.sh_ob k hk)) ?_
  refine wp_aload_n eX5_put_136 rfl ?_
  refine wp_dup eX5_put_137 rfl ?_
  refine wp_getI (v := S 10 4) eX5_put_138 (show Ob (cTak (am_setI (am_setR h 3 u (some a)) 1 3 (nI u + 1)) (shA h k) a) 1 5 from hC.ob) rfl (i14.trans hR.c14) ?_
  refine wp_iconst (v := 2) eX5_put_141 rfl ?_
  refine wp_aload eX5_put_142 rfl ?_
  refine wp_getI (v := S 18 k) eX5_put_144 (show Ob (cTak (am_setI (am_setR h 3 u (some a)) 1 3 (nI u + 1)) (shA h k) a) (shA h k) 3 from (hR.sh_ob k hk)) rfl (i4.trans (hR.sh4 k hk)) ?_
  refine wp_imul eX5_put_147 ?_
  refine wp_iadd eX5_put_148 ?_
  refine wp_putI (h' := am_setI (cTak (am_setI (am_setR h 3 u (some a)) 1 3 (nI u + 1)) (shA h k) a) 1 14 ((S 10 4) + (2 * (S 18 k)))) eX5_put_149 (show Ob (cTak (am_setI (am_setR h 3 u (some a)) 1 3 (nI u + 1)) (shA h k) a) 1 5 from hC.ob) rfl rfl ?_
  refine wp_iload eX5_put_152 rfl ?_
  refine wp_stat (rv := (some (.int (sTick (nI u))))) (h' := am_setI (cTak (am_setI (am_setR h 3 u (some a)) 1 3 (nI u + 1)) (shA h k) a) 1 14 ((S 10 4) + (2 * (S 18 k)))) (r := []) eX5_put_154 [.int (nI u)] rfl rfl rfl rfl (rX5_ticketOf _ _) ?_
  exact wp_iret eX5_put_157 ⟨congrArg (fun z => some (Value.int z)) (rfl), rfl⟩
