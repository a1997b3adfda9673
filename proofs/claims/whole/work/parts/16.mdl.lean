/-! THE REFERENCE: loops -/
theorem lp_ge {x : Int32} {c t : Nat} (hx : x = nI c) (h : c ≤ t) (ht : t < 100000) : x ≤ nI t := by rw [hx]; exact nI_le h (by omega)
theorem lp_lt {x : Int32} {c t : Nat} (hx : x = nI c) (h : t < c) (ht : c < 100000) : ¬ (x ≤ nI t) := by rw [hx]; exact nI_ge h (by omega)
def sMeant (S : St) (c t : Nat) : Nat → Bool
  | 0 => true
  | k + 1 => sMeant S c t k && (decide (S 32 (4 * c + k) < 0) || decide (S 32 (4 * c + k) = sMk (S 23 t) (nI k)))
/-- 1 if the claim c means the thing t -/
def sIsM (S : St) (c t : Nat) : Int32 := if S 26 t = 0 ∧ sMeant S c t 4 = true then 1 else 0
theorem sIsM_01 (S : St) (c t : Nat) : sIsM S c t = 0 ∨ sIsM S c t = 1 := by unfold sIsM; split <;> simp
def sMeans (S : St) (c : Nat) : Nat → Int32
  | 0 => 0
  | n + 1 => sMeans S c n + sIsM S c n
def sLast (S : St) (c : Nat) : Nat → Int32
  | 0 => -1
  | n + 1 => if sIsM S c n = 1 then nI n else sLast S c n
def sTold (S : St) (c : Nat) : Nat → Int32
  | 0 => 0
  | k + 1 => sTold S c k + (if S 32 (4 * c + k) < 0 then 0 else 1)
def sMisf (S : St) : Nat → Int32
  | 0 => 0
  | n + 1 => if S 26 n = 0 then sMisf S n + sMis S n (S 27 n).toNatClampNeg else sMisf S n
theorem sMeant_at {S : St} {c u : Nat} : ∀ {n : Nat}, sMeant S c u n = true → ∀ k, k < n → S 32 (4 * c + k) < 0 ∨ S 32 (4 * c + k) = sMk (S 23 u) (nI k) := by
  intro n
  induction n with
  | zero => intro _ k hk; omega
  | succ n ih =>
    intro h k hk
    simp only [sMeant, Bool.and_eq_true, Bool.or_eq_true, decide_eq_true_eq] at h
    by_cases e : k = n
    · subst e; exact h.2
    · exact ih h.1 k (by omega)
theorem nI_4k (c k : Nat) : 4 * nI c + nI k = nI (4 * c + k) := by
  rw [show (4 : Int32) = nI 4 from rfl, pk_mul, nI_add]

set_option maxRecDepth 4000 in
theorem lX6_rowOf {Cal : am_Ct} {h : Hp} (hM : MOK h) (S : St) (hW : MW S) (day : Int32) : ∀ (n t : Nat) (a : Int32), t + n = cR S → (a = sRow S day t) → WP kX6_rowOf Cal (fun r1 h1 => r1 = some (.int (sRow S day (cR S))) ∧ h1 = am_wi h S) 4 [some (.ref 10), some (.int day), some (.int a), some (.int (nI t))] [] (am_wi h S) := by
  intro n
  induction n with
  | zero =>
    intro t a hn ha
    have h5 := hW.1.2
    have h11 := hW.2.1.2
    have h12 := hW.2.2.1.2
    have h29 := hW.2.2.2.2
    refine wp_iload_n eX6_rowOf_4 rfl ?_
    refine wp_aload_n eX6_rowOf_5 rfl ?_
    refine wp_getI (v := S 10 5) eX6_rowOf_6 (show Ob (am_wi h S) 10 6 from hM.ob) rfl rfl ?_
    refine wp_icmpT eX6_rowOf_9 (show (S 10 5) ≤ (nI t) from (lp_ge hW.1.1 (by omega) (by omega))) ?_
    refine wp_iload_n eX6_rowOf_30 rfl ?_
    exact wp_iret eX6_rowOf_31 ⟨congrArg (fun z => some (Value.int z)) (by rw [ha, show t = cR S by omega]), rfl⟩
  | succ n ih =>
    intro t a hn ha
    have h5 := hW.1.2
    have h11 := hW.2.1.2
    have h12 := hW.2.2.1.2
    have h29 := hW.2.2.2.2
    refine wp_iload_n eX6_rowOf_4 rfl ?_
    refine wp_aload_n eX6_rowOf_5 rfl ?_
    refine wp_getI (v := S 10 5) eX6_rowOf_6 (show Ob (am_wi h S) 10 6 from hM.ob) rfl rfl ?_
    refine wp_icmpF eX6_rowOf_9 (show ¬ ((S 10 5) ≤ (nI t)) from (lp_lt hW.1.1 (by omega) (by omega))) ?_
    refine wp_aload_n eX6_rowOf_12 rfl ?_
    refine wp_getR (v := 11) eX6_rowOf_13 (show Ob (am_wi h S) 10 6 from hM.ob) rfl hM.r6 ?_
    refine wp_iload_n eX6_rowOf_16 rfl ?_
    refine wp_ial (v := S 11 t) (t := t) eX6_rowOf_17 (show Ar (am_wi h S) 11 7 12 from hM.a11) (by omega) rfl rfl ?_
    refine wp_iload_n eX6_rowOf_18 rfl ?_
    refine wp_icmp eX6_rowOf_19 (fun (c_19 : day < (S 11 t)) => ?_) (fun (c_19 : ¬ (day < (S 11 t))) => ?_)
    · refine wp_iinc (v := nI (t + 1)) (ls' := [some (.ref 10), some (.int day), some (.int a), some (.int (nI (t + 1)))]) eX6_rowOf_24 rfl (nI_1 t) rfl ?_
      refine wp_goto eX6_rowOf_27 ?_
      exact ih (t + 1) _ (by omega) (by (try rw [ha]); simp only [sRow]; (repeat' split) <;> first | rfl | (exfalso; simp_all; done) | (exfalso; simp only [Int32.lt_iff_toInt_lt, Int32.le_iff_toInt_le, ← Int32.toInt_inj, Int32.reduceToInt] at *; omega))
    · refine wp_iload_n eX6_rowOf_22 rfl ?_
      refine wp_istore_n (ls' := [some (.ref 10), some (.int day), some (.int (nI t)), some (.int (nI t))]) eX6_rowOf_23 rfl rfl ?_
      refine wp_iinc (v := nI (t + 1)) (ls' := [some (.ref 10), some (.int day), some (.int (nI t)), some (.int (nI (t + 1)))]) eX6_rowOf_24 rfl (nI_1 t) rfl ?_
      refine wp_goto eX6_rowOf_27 ?_
      exact ih (t + 1) _ (by omega) (by (try rw [ha]); simp only [sRow]; (repeat' split) <;> first | rfl | (exfalso; simp_all; done) | (exfalso; simp only [Int32.lt_iff_toInt_lt, Int32.le_iff_toInt_le, ← Int32.toInt_inj, Int32.reduceToInt] at *; omega))

set_option maxRecDepth 4000 in
theorem rX6_rowOf (d : Nat) {h : Hp} (hM : MOK h) (S : St) (hW : MW S) (day : Int32) : Res (d + 1) nX6_rowOf [.ref 10, .int day] (am_wi h S) (some (.int (sRow S day (cR S)))) (am_wi h S) := by
  refine Res_intro (ls := [some (.ref 10), some (.int day), none, none]) aX6_rowOf rfl rfl rfl rfl ?_
  show WP kX6_rowOf _ _ _ _ _ _
  refine wp_iconst (v := (-1)) eX6_rowOf_0 rfl ?_
  refine wp_istore_n (ls' := [some (.ref 10), some (.int day), some (.int ((-1))), none]) eX6_rowOf_1 rfl rfl ?_
  refine wp_iconst (v := 0) eX6_rowOf_2 rfl ?_
  refine wp_istore_n (ls' := [some (.ref 10), some (.int day), some (.int ((-1))), some (.int 0)]) eX6_rowOf_3 rfl rfl ?_
  exact lX6_rowOf hM S hW day (cR S) 0 _ (by omega) rfl

set_option maxRecDepth 4000 in
theorem lX6_free {Cal : am_Ct} {h : Hp} (hM : MOK h) (S : St) (hW : MW S) (s : Nat) (hs : s < 16) : ∀ (n t : Nat) (a : Int32), t + n = cT S → (a = sFree S s t) → WP kX6_free Cal (fun r1 h1 => r1 = some (.int (sFree S s (cT S))) ∧ h1 = am_wi h S) 9 [some (.ref 10), some (.int (nI s)), some (.int a), some (.int (nI t))] [] (am_wi h S) := by
  intro n
  induction n with
  | zero =>
    intro t a hn ha
    have h5 := hW.1.2
    have h11 := hW.2.1.2
    have h12 := hW.2.2.1.2
    have h29 := hW.2.2.2.2
    refine wp_iload_n eX6_free_9 rfl ?_
    refine wp_aload_n eX6_free_10 rfl ?_
    refine wp_getI (v := S 10 12) eX6_free_11 (show Ob (am_wi h S) 10 6 from hM.ob) rfl rfl ?_
    refine wp_icmpT eX6_free_14 (show (S 10 12) ≤ (nI t) from (lp_ge hW.2.2.1.1 (by omega) (by omega))) ?_
    refine wp_iload_n eX6_free_51 rfl ?_
    exact wp_iret eX6_free_52 ⟨congrArg (fun z => some (Value.int z)) (by rw [ha, show t = cT S by omega]), rfl⟩
  | succ n ih =>
    intro t a hn ha
    have h5 := hW.1.2
    have h11 := hW.2.1.2
    have h12 := hW.2.2.1.2
    have h29 := hW.2.2.2.2
    refine wp_iload_n eX6_free_9 rfl ?_
    refine wp_aload_n eX6_free_10 rfl ?_
    refine wp_getI (v := S 10 12) eX6_free_11 (show Ob (am_wi h S) 10 6 from hM.ob) rfl rfl ?_
    refine wp_icmpF eX6_free_14 (show ¬ ((S 10 12) ≤ (nI t)) from (lp_lt hW.2.2.1.1 (by omega) (by omega))) ?_
    refine wp_aload_n eX6_free_17 rfl ?_
    refine wp_getR (v := 26) eX6_free_18 (show Ob (am_wi h S) 10 6 from hM.ob) rfl hM.r23 ?_
    refine wp_iload_n eX6_free_21 rfl ?_
    refine wp_ial (v := S 26 t) (t := t) eX6_free_22 (show Ar (am_wi h S) 26 7 120 from hM.a26) (by omega) rfl rfl ?_
    refine wp_if eX6_free_23 (fun (c_23 : ¬ (S 26 t) = 0) => ?_) (fun (c_23 : ¬ (¬ (S 26 t) = 0)) => ?_)
    · refine wp_iinc (v := nI (t + 1)) (ls' := [some (.ref 10), some (.int (nI s)), some (.int a), some (.int (nI (t + 1)))]) eX6_free_45 rfl (nI_1 t) rfl ?_
      refine wp_goto eX6_free_48 ?_
      exact ih (t + 1) _ (by omega) (by simp_all [sFree])
    · refine wp_aload_n eX6_free_26 rfl ?_
      refine wp_getR (v := 27) eX6_free_27 (show Ob (am_wi h S) 10 6 from hM.ob) rfl hM.r24 ?_
      refine wp_iload_n eX6_free_30 rfl ?_
      refine wp_ial (v := S 27 t) (t := t) eX6_free_31 (show Ar (am_wi h S) 27 7 120 from hM.a27) (by omega) rfl rfl ?_
      refine wp_iload_n eX6_free_32 rfl ?_
      refine wp_icmp eX6_free_33 (fun (c_33 : ¬ (S 27 t) = (nI s)) => ?_) (fun (c_33 : ¬ (¬ (S 27 t) = (nI s))) => ?_)
      · refine wp_iinc (v := nI (t + 1)) (ls' := [some (.ref 10), some (.int (nI s)), some (.int a), some (.int (nI (t + 1)))]) eX6_free_45 rfl (nI_1 t) rfl ?_
        refine wp_goto eX6_free_48 ?_
        exact ih (t + 1) _ (by omega) (by simp_all [sFree])
      · refine wp_iload_n eX6_free_36 rfl ?_
        refine wp_aload_n eX6_free_37 rfl ?_
        refine wp_getR (v := 21) eX6_free_38 (show Ob (am_wi h S) 10 6 from hM.ob) rfl hM.r18 ?_
        refine wp_iload_n eX6_free_41 rfl ?_
        refine wp_ial (v := S 21 t) (t := t) eX6_free_42 (show Ar (am_wi h S) 21 7 120 from hM.a21) (by omega) rfl rfl ?_
        refine wp_isub eX6_free_43 ?_
        refine wp_istore_n (ls' := [some (.ref 10), some (.int (nI s)), some (.int (a - (S 21 t))), some (.int (nI t))]) eX6_free_44 rfl rfl ?_
        refine wp_iinc (v := nI (t + 1)) (ls' := [some (.ref 10), some (.int (nI s)), some (.int (a - (S 21 t))), some (.int (nI (t + 1)))]) eX6_free_45 rfl (nI_1 t) rfl ?_
        refine wp_goto eX6_free_48 ?_
        exact ih (t + 1) _ (by omega) (by simp_all [sFree])

set_option maxRecDepth 4000 in
theorem rX6_free (d : Nat) {h : Hp} (hM : MOK h) (S : St) (hW : MW S) (s : Nat) (hs : s < 16) : Res (d + 1) nX6_free [.ref 10, .int (nI s)] (am_wi h S) (some (.int (sFree S s (cT S)))) (am_wi h S) := by
  refine Res_intro (ls := [some (.ref 10), some (.int (nI s)), none, none]) aX6_free rfl rfl rfl rfl ?_
  show WP kX6_free _ _ _ _ _ _
  refine wp_aload_n eX6_free_0 rfl ?_
  refine wp_getR (v := 16) eX6_free_1 (show Ob (am_wi h S) 10 6 from hM.ob) rfl hM.r13 ?_
  refine wp_iload_n eX6_free_4 rfl ?_
  refine wp_ial (v := S 16 s) (t := s) eX6_free_5 (show Ar (am_wi h S) 16 7 16 from hM.a16) (by omega) rfl rfl ?_
  refine wp_istore_n (ls' := [some (.ref 10), some (.int (nI s)), some (.int (S 16 s)), none]) eX6_free_6 rfl rfl ?_
  refine wp_iconst (v := 0) eX6_free_7 rfl ?_
  refine wp_istore_n (ls' := [some (.ref 10), some (.int (nI s)), some (.int (S 16 s)), some (.int 0)]) eX6_free_8 rfl rfl ?_
  exact lX6_free hM S hW s hs (cT S) 0 _ (by omega) rfl

set_option maxRecDepth 4000 in
theorem rX6_fits (d : Nat) {h : Hp} (hM : MOK h) (S : St) (hW : MW S) (t s : Nat) (ht : t < 120) (hs : s < 16) : Res (d + 2) nX6_fits [.ref 10, .int (nI t), .int (nI s)] (am_wi h S) (some (.int (sFits S t s))) (am_wi h S) := by
  refine Res_intro (ls := [some (.ref 10), some (.int (nI t)), some (.int (nI s))]) aX6_fits rfl rfl rfl rfl ?_
  show WP kX6_fits _ _ _ _ _ _
  refine wp_aload_n eX6_fits_0 rfl ?_
  refine wp_iload_n eX6_fits_1 rfl ?_
  refine wp_iload_n eX6_fits_2 rfl ?_
  refine wp_virt (rv := (some (.int (sSuit S t s)))) (h' := am_wi h S) (r := []) eX6_fits_3 [.int (nI t), .int (nI s)] rfl rfl rfl (show Ob (am_wi h S) 10 6 from hM.ob) (rX6_suits _ hM _ _ _ (by omega) (by omega)) ?_
  refine wp_if eX6_fits_6 (fun (c_6 : (sSuit S t s) = 0) => ?_) (fun (c_6 : ¬ ((sSuit S t s) = 0)) => ?_)
  · refine wp_iconst (v := 0) eX6_fits_27 rfl ?_
    exact wp_zret eX6_fits_28 (by first | exact Or.inl rfl | exact Or.inr rfl | assumption) ⟨congrArg (fun z => some (Value.int z)) (by rcases sSuit_01 S t s with q | q <;> simp_all [sFits, Int32.not_lt, Int32.not_le]), rfl⟩
  · refine wp_aload_n eX6_fits_9 rfl ?_
    refine wp_iload_n eX6_fits_10 rfl ?_
    refine wp_virt (rv := (some (.int (sFree S s (cT S))))) (h' := am_wi h S) (r := []) eX6_fits_11 [.int (nI s)] rfl rfl rfl (show Ob (am_wi h S) 10 6 from hM.ob) (rX6_free _ hM _ hW _ (by omega)) ?_
    refine wp_aload_n eX6_fits_14 rfl ?_
    refine wp_getR (v := 21) eX6_fits_15 (show Ob (am_wi h S) 10 6 from hM.ob) rfl hM.r18 ?_
    refine wp_iload_n eX6_fits_18 rfl ?_
    refine wp_ial (v := S 21 t) (t := t) eX6_fits_19 (show Ar (am_wi h S) 21 7 120 from hM.a21) (by omega) rfl rfl ?_
    refine wp_icmp eX6_fits_20 (fun (c_20 : (sFree S s (cT S)) < (S 21 t)) => ?_) (fun (c_20 : ¬ ((sFree S s (cT S)) < (S 21 t))) => ?_)
    · refine wp_iconst (v := 0) eX6_fits_27 rfl ?_
      exact wp_zret eX6_fits_28 (by first | exact Or.inl rfl | exact Or.inr rfl | assumption) ⟨congrArg (fun z => some (Value.int z)) (by rcases sSuit_01 S t s with q | q <;> simp_all [sFits, Int32.not_lt, Int32.not_le]), rfl⟩
    · refine wp_iconst (v := 1) eX6_fits_23 rfl ?_
      refine wp_goto eX6_fits_24 ?_
      exact wp_zret eX6_fits_28 (by first | exact Or.inl rfl | exact Or.inr rfl | assumption) ⟨congrArg (fun z => some (Value.int z)) (by rcases sSuit_01 S t s with q | q <;> simp_all [sFits, Int32.not_lt, Int32.not_le]), rfl⟩

set_option maxRecDepth 4000 in
theorem lX6_isMeant (d : Nat) {h : Hp} (hM : MOK h) (S : St) (c u : Nat) (hc : c < 40) (hu : u < 120) (h26 : S 26 u = 0) : ∀ (n t : Nat) , t + n = 4 → (sMeant S c u t = true) → WP kX6_isMeant (Res (d + 1)) (fun r1 h1 => r1 = some (.int (sIsM S c u)) ∧ h1 = am_wi h S) 13 [some (.ref 10), some (.int (nI c)), some (.int (nI u)), some (.int (nI t))] [] (am_wi h S) := by
  intro n
  induction n with
  | zero =>
    intro t  hn ha
    refine wp_iload_n eX6_isMeant_13 rfl ?_
    refine wp_iconst (v := 4) eX6_isMeant_14 rfl ?_
    refine wp_icmpT eX6_isMeant_15 (show 4 ≤ (nI t) from (lp_ge (show (4 : Int32) = nI 4 from rfl) (by omega) (by omega))) ?_
    refine wp_iconst (v := 1) eX6_isMeant_62 rfl ?_
    exact wp_zret eX6_isMeant_63 (by first | exact Or.inl rfl | exact Or.inr rfl | assumption) ⟨congrArg (fun z => some (Value.int z)) (by simp [sIsM, h26, show t = 4 by omega ▸ ha]), rfl⟩
  | succ n ih =>
    intro t  hn ha
    refine wp_iload_n eX6_isMeant_13 rfl ?_
    refine wp_iconst (v := 4) eX6_isMeant_14 rfl ?_
    refine wp_icmpF eX6_isMeant_15 (show ¬ (4 ≤ (nI t)) from (lp_lt (show (4 : Int32) = nI 4 from rfl) (by omega) (by omega))) ?_
    refine wp_aload_n eX6_isMeant_18 rfl ?_
    refine wp_getR (v := 32) eX6_isMeant_19 (show Ob (am_wi h S) 10 6 from hM.ob) rfl hM.r30 ?_
    refine wp_iconst (v := 4) eX6_isMeant_22 rfl ?_
    refine wp_iload_n eX6_isMeant_23 rfl ?_
    refine wp_imul eX6_isMeant_24 ?_
    refine wp_iload_n eX6_isMeant_25 rfl ?_
    refine wp_iadd eX6_isMeant_26 ?_
    refine wp_top (y := nI (4 * c + t)) (nI_4k c t) ?_
    refine wp_ial (v := S 32 (4 * c + t)) (t := 4 * c + t) eX6_isMeant_27 (show Ar (am_wi h S) 32 7 160 from hM.a32) (by omega) rfl rfl ?_
    refine wp_if eX6_isMeant_28 (fun (c_28 : (S 32 (4 * c + t)) < 0) => ?_) (fun (c_28 : ¬ ((S 32 (4 * c + t)) < 0)) => ?_)
    · refine wp_iinc (v := nI (t + 1)) (ls' := [some (.ref 10), some (.int (nI c)), some (.int (nI u)), some (.int (nI (t + 1)))]) eX6_isMeant_56 rfl (nI_1 t) rfl ?_
      refine wp_goto eX6_isMeant_59 ?_
      exact ih (t + 1)  (by omega) (by simp_all [sMeant, Int32.not_lt, Int32.not_le])
    · refine wp_aload_n eX6_isMeant_31 rfl ?_
      refine wp_getR (v := 32) eX6_isMeant_32 (show Ob (am_wi h S) 10 6 from hM.ob) rfl hM.r30 ?_
      refine wp_iconst (v := 4) eX6_isMeant_35 rfl ?_
      refine wp_iload_n eX6_isMeant_36 rfl ?_
      refine wp_imul eX6_isMeant_37 ?_
      refine wp_iload_n eX6_isMeant_38 rfl ?_
      refine wp_iadd eX6_isMeant_39 ?_
      refine wp_top (y := nI (4 * c + t)) (nI_4k c t) ?_
      refine wp_ial (v := S 32 (4 * c + t)) (t := 4 * c + t) eX6_isMeant_40 (show Ar (am_wi h S) 32 7 160 from hM.a32) (by omega) rfl rfl ?_
      refine wp_aload_n eX6_isMeant_41 rfl ?_
      refine wp_getR (v := 23) eX6_isMeant_42 (show Ob (am_wi h S) 10 6 from hM.ob) rfl hM.r20 ?_
      refine wp_iload_n eX6_isMeant_45 rfl ?_
      refine wp_ial (v := S 23 u) (t := u) eX6_isMeant_46 (show Ar (am_wi h S) 23 7 120 from hM.a23) (by omega) rfl rfl ?_
      refine wp_iload_n eX6_isMeant_47 rfl ?_
      refine wp_stat (rv := (some (.int (sMk (S 23 u) (nI t))))) (h' := am_wi h S) (r := [.int (S 32 (4 * c + t))]) eX6_isMeant_48 [.int (S 23 u), .int (nI t)] rfl rfl rfl rfl (rX6_markOf _ _ _ _) ?_
      refine wp_icmp eX6_isMeant_51 (fun (c_51 : (S 32 (4 * c + t)) = (sMk (S 23 u) (nI t))) => ?_) (fun (c_51 : ¬ ((S 32 (4 * c + t)) = (sMk (S 23 u) (nI t)))) => ?_)
      · refine wp_iinc (v := nI (t + 1)) (ls' := [some (.ref 10), some (.int (nI c)), some (.int (nI u)), some (.int (nI (t + 1)))]) eX6_isMeant_56 rfl (nI_1 t) rfl ?_
        refine wp_goto eX6_isMeant_59 ?_
        exact ih (t + 1)  (by omega) (by simp_all [sMeant, Int32.not_lt, Int32.not_le])
      · refine wp_iconst (v := 0) eX6_isMeant_54 rfl ?_
        exact wp_zret eX6_isMeant_55 (by first | exact Or.inl rfl | exact Or.inr rfl | assumption) ⟨congrArg (fun z => some (Value.int z)) (by unfold sIsM; rw [if_neg]; intro q; rcases sMeant_at q.2 t (by omega) with z | z; exact c_28 z; exact c_51 z), rfl⟩

set_option maxRecDepth 4000 in
theorem rX6_isMeant (d : Nat) {h : Hp} (hM : MOK h) (S : St) (c u : Nat) (hc : c < 40) (hu : u < 120) : Res (d + 2) nX6_isMeant [.ref 10, .int (nI c), .int (nI u)] (am_wi h S) (some (.int (sIsM S c u))) (am_wi h S) := by
  refine Res_intro (ls := [some (.ref 10), some (.int (nI c)), some (.int (nI u)), none]) aX6_isMeant rfl rfl rfl rfl ?_
  show WP kX6_isMeant _ _ _ _ _ _
  refine wp_aload_n eX6_isMeant_0 rfl ?_
  refine wp_getR (v := 26) eX6_isMeant_1 (show Ob (am_wi h S) 10 6 from hM.ob) rfl hM.r23 ?_
  refine wp_iload_n eX6_isMeant_4 rfl ?_
  refine wp_ial (v := S 26 u) (t := u) eX6_isMeant_5 (show Ar (am_wi h S) 26 7 120 from hM.a26) (by omega) rfl rfl ?_
  refine wp_if eX6_isMeant_6 (fun (c_6 : (S 26 u) = 0) => ?_) (fun (c_6 : ¬ ((S 26 u) = 0)) => ?_)
  · refine wp_iconst (v := 0) eX6_isMeant_11 rfl ?_
    refine wp_istore_n (ls' := [some (.ref 10), some (.int (nI c)), some (.int (nI u)), some (.int 0)]) eX6_isMeant_12 rfl rfl ?_
    exact lX6_isMeant d hM S c u hc hu c_6 4 0 (by omega) rfl
  · refine wp_iconst (v := 0) eX6_isMeant_9 rfl ?_
    exact wp_zret eX6_isMeant_10 (by first | exact Or.inl rfl | exact Or.inr rfl | assumption) ⟨congrArg (fun z => some (Value.int z)) (by simp [sIsM, c_6]), rfl⟩

set_option maxRecDepth 4000 in
theorem lX6_meant (d : Nat) {h : Hp} (hM : MOK h) (S : St) (hW : MW S) (c : Nat) (hc : c < 40) : ∀ (n t : Nat) (a : Int32), t + n = cT S → (a = sLast S c t) → WP kX6_meant (Res (d + 2)) (fun r1 h1 => r1 = some (.int (sLast S c (cT S))) ∧ h1 = am_wi h S) 4 [some (.ref 10), some (.int (nI c)), some (.int a), some (.int (nI t))] [] (am_wi h S) := by
  intro n
  induction n with
  | zero =>
    intro t a hn ha
    have h5 := hW.1.2
    have h11 := hW.2.1.2
    have h12 := hW.2.2.1.2
    have h29 := hW.2.2.2.2
    refine wp_iload_n eX6_meant_4 rfl ?_
    refine wp_aload_n eX6_meant_5 rfl ?_
    refine wp_getI (v := S 10 12) eX6_meant_6 (show Ob (am_wi h S) 10 6 from hM.ob) rfl rfl ?_
    refine wp_icmpT eX6_meant_9 (show (S 10 12) ≤ (nI t) from (lp_ge hW.2.2.1.1 (by omega) (by omega))) ?_
    refine wp_iload_n eX6_meant_29 rfl ?_
    exact wp_iret eX6_meant_30 ⟨congrArg (fun z => some (Value.int z)) (by rw [ha, show t = cT S by omega]), rfl⟩
  | succ n ih =>
    intro t a hn ha
    have h5 := hW.1.2
    have h11 := hW.2.1.2
    have h12 := hW.2.2.1.2
    have h29 := hW.2.2.2.2
    refine wp_iload_n eX6_meant_4 rfl ?_
    refine wp_aload_n eX6_meant_5 rfl ?_
    refine wp_getI (v := S 10 12) eX6_meant_6 (show Ob (am_wi h S) 10 6 from hM.ob) rfl rfl ?_
    refine wp_icmpF eX6_meant_9 (show ¬ ((S 10 12) ≤ (nI t)) from (lp_lt hW.2.2.1.1 (by omega) (by omega))) ?_
    refine wp_aload_n eX6_meant_12 rfl ?_
    refine wp_iload_n eX6_meant_13 rfl ?_
    refine wp_iload_n eX6_meant_14 rfl ?_
    refine wp_virt (rv := (some (.int (sIsM S c t)))) (h' := am_wi h S) (r := []) eX6_meant_15 [.int (nI c), .int (nI t)] rfl rfl rfl (show Ob (am_wi h S) 10 6 from hM.ob) (rX6_isMeant _ hM _ _ _ (by omega) (by omega)) ?_
    refine wp_if eX6_meant_18 (fun (c_18 : (sIsM S c t) = 0) => ?_) (fun (c_18 : ¬ ((sIsM S c t) = 0)) => ?_)
    · refine wp_iinc (v := nI (t + 1)) (ls' := [some (.ref 10), some (.int (nI c)), some (.int a), some (.int (nI (t + 1)))]) eX6_meant_23 rfl (nI_1 t) rfl ?_
      refine wp_goto eX6_meant_26 ?_
      exact ih (t + 1) _ (by omega) (by rcases sIsM_01 S c t with q | q <;> simp_all [sLast])
    · refine wp_iload_n eX6_meant_21 rfl ?_
      refine wp_istore_n (ls' := [some (.ref 10), some (.int (nI c)), some (.int (nI t)), some (.int (nI t))]) eX6_meant_22 rfl rfl ?_
      refine wp_iinc (v := nI (t + 1)) (ls' := [some (.ref 10), some (.int (nI c)), some (.int (nI t)), some (.int (nI (t + 1)))]) eX6_meant_23 rfl (nI_1 t) rfl ?_
      refine wp_goto eX6_meant_26 ?_
      exact ih (t + 1) _ (by omega) (by rcases sIsM_01 S c t with q | q <;> simp_all [sLast])

set_option maxRecDepth 4000 in
theorem rX6_meant (d : Nat) {h : Hp} (hM : MOK h) (S : St) (hW : MW S) (c : Nat) (hc : c < 40) : Res (d + 3) nX6_meant [.ref 10, .int (nI c)] (am_wi h S) (some (.int (sLast S c (cT S)))) (am_wi h S) := by
  refine Res_intro (ls := [some (.ref 10), some (.int (nI c)), none, none]) aX6_meant rfl rfl rfl rfl ?_
  show WP kX6_meant _ _ _ _ _ _
  refine wp_iconst (v := (-1)) eX6_meant_0 rfl ?_
  refine wp_istore_n (ls' := [some (.ref 10), some (.int (nI c)), some (.int ((-1))), none]) eX6_meant_1 rfl rfl ?_
  refine wp_iconst (v := 0) eX6_meant_2 rfl ?_
  refine wp_istore_n (ls' := [some (.ref 10), some (.int (nI c)), some (.int ((-1))), some (.int 0)]) eX6_meant_3 rfl rfl ?_
  exact lX6_meant d hM S hW c hc (cT S) 0 _ (by omega) rfl

set_option maxRecDepth 4000 in
theorem lX6_manyTold {Cal : am_Ct} {h : Hp} (hM : MOK h) (S : St) (c : Nat) (hc : c < 40) : ∀ (n t : Nat) (a : Int32), t + n = 4 → (a = sTold S c t) → WP kX6_manyTold Cal (fun r1 h1 => r1 = some (.int (sTold S c 4)) ∧ h1 = am_wi h S) 4 [some (.ref 10), some (.int (nI c)), some (.int a), some (.int (nI t))] [] (am_wi h S) := by
  intro n
  induction n with
  | zero =>
    intro t a hn ha
    refine wp_iload_n eX6_manyTold_4 rfl ?_
    refine wp_iconst (v := 4) eX6_manyTold_5 rfl ?_
    refine wp_icmpT eX6_manyTold_6 (show 4 ≤ (nI t) from (lp_ge (show (4 : Int32) = nI 4 from rfl) (by omega) (by omega))) ?_
    refine wp_iload_n eX6_manyTold_36 rfl ?_
    exact wp_iret eX6_manyTold_37 ⟨congrArg (fun z => some (Value.int z)) (by rw [ha, show t = 4 by omega]), rfl⟩
  | succ n ih =>
    intro t a hn ha
    refine wp_iload_n eX6_manyTold_4 rfl ?_
    refine wp_iconst (v := 4) eX6_manyTold_5 rfl ?_
    refine wp_icmpF eX6_manyTold_6 (show ¬ (4 ≤ (nI t)) from (lp_lt (show (4 : Int32) = nI 4 from rfl) (by omega) (by omega))) ?_
    refine wp_iload_n eX6_manyTold_9 rfl ?_
    refine wp_aload_n eX6_manyTold_10 rfl ?_
    refine wp_getR (v := 32) eX6_manyTold_11 (show Ob (am_wi h S) 10 6 from hM.ob) rfl hM.r30 ?_
    refine wp_iconst (v := 4) eX6_manyTold_14 rfl ?_
    refine wp_iload_n eX6_manyTold_15 rfl ?_
    refine wp_imul eX6_manyTold_16 ?_
    refine wp_iload_n eX6_manyTold_17 rfl ?_
    refine wp_iadd eX6_manyTold_18 ?_
    refine wp_top (y := nI (4 * c + t)) (nI_4k c t) ?_
    refine wp_ial (v := S 32 (4 * c + t)) (t := 4 * c + t) eX6_manyTold_19 (show Ar (am_wi h S) 32 7 160 from hM.a32) (by omega) rfl rfl ?_
    refine wp_if eX6_manyTold_20 (fun (c_20 : (S 32 (4 * c + t)) < 0) => ?_) (fun (c_20 : ¬ ((S 32 (4 * c + t)) < 0)) => ?_)
    · refine wp_iconst (v := 0) eX6_manyTold_27 rfl ?_
      refine wp_iadd eX6_manyTold_28 ?_
      refine wp_istore_n (ls' := [some (.ref 10), some (.int (nI c)), some (.int (a + 0)), some (.int (nI t))]) eX6_manyTold_29 rfl rfl ?_
      refine wp_iinc (v := nI (t + 1)) (ls' := [some (.ref 10), some (.int (nI c)), some (.int (a + 0)), some (.int (nI (t + 1)))]) eX6_manyTold_30 rfl (nI_1 t) rfl ?_
      refine wp_goto eX6_manyTold_33 ?_
      exact ih (t + 1) _ (by omega) (by simp_all [sTold])
    · refine wp_iconst (v := 1) eX6_manyTold_23 rfl ?_
      refine wp_goto eX6_manyTold_24 ?_
      refine wp_iadd eX6_manyTold_28 ?_
      refine wp_istore_n (ls' := [some (.ref 10), some (.int (nI c)), some (.int (a + 1)), some (.int (nI t))]) eX6_manyTold_29 rfl rfl ?_
      refine wp_iinc (v := nI (t + 1)) (ls' := [some (.ref 10), some (.int (nI c)), some (.int (a + 1)), some (.int (nI (t + 1)))]) eX6_manyTold_30 rfl (nI_1 t) rfl ?_
      refine wp_goto eX6_manyTold_33 ?_
      exact ih (t + 1) _ (by omega) (by simp_all [sTold])

set_option maxRecDepth 4000 in
theorem rX6_manyTold (d : Nat) {h : Hp} (hM : MOK h) (S : St) (c : Nat) (hc : c < 40) : Res (d + 1) nX6_manyTold [.ref 10, .int (nI c)] (am_wi h S) (some (.int (sTold S c 4))) (am_wi h S) := by
  refine Res_intro (ls := [some (.ref 10), some (.int (nI c)), none, none]) aX6_manyTold rfl rfl rfl rfl ?_
  show WP kX6_manyTold _ _ _ _ _ _
  refine wp_iconst (v := 0) eX6_manyTold_0 rfl ?_
  refine wp_istore_n (ls' := [some (.ref 10), some (.int (nI c)), some (.int 0), none]) eX6_manyTold_1 rfl rfl ?_
  refine wp_iconst (v := 0) eX6_manyTold_2 rfl ?_
  refine wp_istore_n (ls' := [some (.ref 10), some (.int (nI c)), some (.int 0), some (.int 0)]) eX6_manyTold_3 rfl rfl ?_
  exact lX6_manyTold hM S c hc 4 0 _ (by omega) rfl

set_option maxRecDepth 4000 in
theorem lX6_means (d : Nat) {h : Hp} (hM : MOK h) (S : St) (hW : MW S) (c : Nat) (hc : c < 40) : ∀ (n t : Nat) (a : Int32), t + n = cT S → (a = sMeans S c t) → WP kX6_means (Res (d + 2)) (fun r1 h1 => r1 = some (.int (sMeans S c (cT S))) ∧ h1 = am_wi h S) 14 [some (.ref 10), some (.int (nI c)), some (.int a), some (.int (nI t))] [] (am_wi h S) := by
  intro n
  induction n with
  | zero =>
    intro t a hn ha
    have h5 := hW.1.2
    have h11 := hW.2.1.2
    have h12 := hW.2.2.1.2
    have h29 := hW.2.2.2.2
    refine wp_iload_n eX6_means_14 rfl ?_
    refine wp_aload_n eX6_means_15 rfl ?_
    refine wp_getI (v := S 10 12) eX6_means_16 (show Ob (am_wi h S) 10 6 from hM.ob) rfl rfl ?_
    refine wp_icmpT eX6_means_19 (show (S 10 12) ≤ (nI t) from (lp_ge hW.2.2.1.1 (by omega) (by omega))) ?_
    refine wp_iload_n eX6_means_45 rfl ?_
    exact wp_iret eX6_means_46 ⟨congrArg (fun z => some (Value.int z)) (by rw [ha, show t = cT S by omega]), rfl⟩
  | succ n ih =>
    intro t a hn ha
    have h5 := hW.1.2
    have h11 := hW.2.1.2
    have h12 := hW.2.2.1.2
    have h29 := hW.2.2.2.2
    refine wp_iload_n eX6_means_14 rfl ?_
    refine wp_aload_n eX6_means_15 rfl ?_
    refine wp_getI (v := S 10 12) eX6_means_16 (show Ob (am_wi h S) 10 6 from hM.ob) rfl rfl ?_
    refine wp_icmpF eX6_means_19 (show ¬ ((S 10 12) ≤ (nI t)) from (lp_lt hW.2.2.1.1 (by omega) (by omega))) ?_
    refine wp_iload_n eX6_means_22 rfl ?_
    refine wp_aload_n eX6_means_23 rfl ?_
    refine wp_iload_n eX6_means_24 rfl ?_
    refine wp_iload_n eX6_means_25 rfl ?_
    refine wp_virt (rv := (some (.int (sIsM S c t)))) (h' := am_wi h S) (r := [.int a]) eX6_means_26 [.int (nI c), .int (nI t)] rfl rfl rfl (show Ob (am_wi h S) 10 6 from hM.ob) (rX6_isMeant _ hM _ _ _ (by omega) (by omega)) ?_
    refine wp_if eX6_means_29 (fun (c_29 : (sIsM S c t) = 0) => ?_) (fun (c_29 : ¬ ((sIsM S c t) = 0)) => ?_)
    · refine wp_iconst (v := 0) eX6_means_36 rfl ?_
      refine wp_iadd eX6_means_37 ?_
      refine wp_istore_n (ls' := [some (.ref 10), some (.int (nI c)), some (.int (a + 0)), some (.int (nI t))]) eX6_means_38 rfl rfl ?_
      refine wp_iinc (v := nI (t + 1)) (ls' := [some (.ref 10), some (.int (nI c)), some (.int (a + 0)), some (.int (nI (t + 1)))]) eX6_means_39 rfl (nI_1 t) rfl ?_
      refine wp_goto eX6_means_42 ?_
      exact ih (t + 1) _ (by omega) (by rcases sIsM_01 S c t with q | q <;> simp_all [sMeans])
    · refine wp_iconst (v := 1) eX6_means_32 rfl ?_
      refine wp_goto eX6_means_33 ?_
      refine wp_iadd eX6_means_37 ?_
      refine wp_istore_n (ls' := [some (.ref 10), some (.int (nI c)), some (.int (a + 1)), some (.int (nI t))]) eX6_means_38 rfl rfl ?_
      refine wp_iinc (v := nI (t + 1)) (ls' := [some (.ref 10), some (.int (nI c)), some (.int (a + 1)), some (.int (nI (t + 1)))]) eX6_means_39 rfl (nI_1 t) rfl ?_
      refine wp_goto eX6_means_42 ?_
      exact ih (t + 1) _ (by omega) (by rcases sIsM_01 S c t with q | q <;> simp_all [sMeans])

theorem sIn_yes {S : St} {c : Nat} (hc : c < cC S) (hW : MW S) : sIn (nI c) 0 (S 10 29 - 1) = 1 := by
  have h29 := hW.2.2.2.2
  unfold sIn
  rw [if_pos, ]
  rw [hW.2.2.2.1]
  obtain ⟨j, hj⟩ : ∃ j, cC S = j + 1 := ⟨cC S - 1, by omega⟩
  rw [hj, nI_pred]
  exact ⟨nI_pos' (by omega), nI_le (by omega) (by omega)⟩

set_option maxRecDepth 4000 in
theorem rX6_means (d : Nat) {h : Hp} (hM : MOK h) (S : St) (hW : MW S) (c : Nat) (hc : c < cC S) : Res (d + 3) nX6_means [.ref 10, .int (nI c)] (am_wi h S) (some (.int (sMeans S c (cT S)))) (am_wi h S) := by
  refine Res_intro (ls := [some (.ref 10), some (.int (nI c)), none, none]) aX6_means rfl rfl rfl rfl ?_
  show WP kX6_means _ _ _ _ _ _
  refine wp_aload_n eX6_means_0 rfl ?_
  refine wp_iload_n eX6_means_1 rfl ?_
  refine wp_virt (rv := (some (.int (sIn (nI c) 0 (S 10 29 - 1))))) (h' := am_wi h S) (r := []) eX6_means_2 [.int (nI c)] rfl rfl rfl (show Ob (am_wi h S) 10 6 from hM.ob) (rX6_isClaim _ hM _ _) ?_
  refine wp_ifT eX6_means_5 (show ¬ (sIn (nI c) 0 (S 10 29 - 1)) = 0 from (by rw [sIn_yes hc hW]; decide)) ?_
  refine wp_iconst (v := 0) eX6_means_10 rfl ?_
  refine wp_istore_n (ls' := [some (.ref 10), some (.int (nI c)), some (.int 0), none]) eX6_means_11 rfl rfl ?_
  refine wp_iconst (v := 0) eX6_means_12 rfl ?_
  refine wp_istore_n (ls' := [some (.ref 10), some (.int (nI c)), some (.int 0), some (.int 0)]) eX6_means_13 rfl rfl ?_
  exact lX6_means d hM S hW c (by have := hW.2.2.2.2; omega) (cT S) 0 _ (by omega) rfl

set_option maxRecDepth 4000 in
theorem lX6_misfit (d : Nat) {h : Hp} (hM : MOK h) (S : St) (hW : MW S) (hO : ∀ t, t < cT S → S 26 t = 0 → ∃ s, s < 16 ∧ S 27 t = nI s) : ∀ (n t : Nat) (a : Int32), t + n = cT S → (a = sMisf S t) → WP kX6_misfit (Res (d + 2)) (fun r1 h1 => r1 = some (.int (sMisf S (cT S))) ∧ h1 = am_wi h S) 4 [some (.ref 10), some (.int a), some (.int (nI t))] [] (am_wi h S) := by
  intro n
  induction n with
  | zero =>
    intro t a hn ha
    have h5 := hW.1.2
    have h11 := hW.2.1.2
    have h12 := hW.2.2.1.2
    have h29 := hW.2.2.2.2
    refine wp_iload_n eX6_misfit_4 rfl ?_
    refine wp_aload_n eX6_misfit_5 rfl ?_
    refine wp_getI (v := S 10 12) eX6_misfit_6 (show Ob (am_wi h S) 10 6 from hM.ob) rfl rfl ?_
    refine wp_icmpT eX6_misfit_9 (show (S 10 12) ≤ (nI t) from (lp_ge hW.2.2.1.1 (by omega) (by omega))) ?_
    refine wp_iload_n eX6_misfit_41 rfl ?_
    exact wp_iret eX6_misfit_42 ⟨congrArg (fun z => some (Value.int z)) (by rw [ha, show t = cT S by omega]), rfl⟩
  | succ n ih =>
    intro t a hn ha
    have h5 := hW.1.2
    have h11 := hW.2.1.2
    have h12 := hW.2.2.1.2
    have h29 := hW.2.2.2.2
    refine wp_iload_n eX6_misfit_4 rfl ?_
    refine wp_aload_n eX6_misfit_5 rfl ?_
    refine wp_getI (v := S 10 12) eX6_misfit_6 (show Ob (am_wi h S) 10 6 from hM.ob) rfl rfl ?_
    refine wp_icmpF eX6_misfit_9 (show ¬ ((S 10 12) ≤ (nI t)) from (lp_lt hW.2.2.1.1 (by omega) (by omega))) ?_
    refine wp_aload_n eX6_misfit_12 rfl ?_
    refine wp_getR (v := 26) eX6_misfit_13 (show Ob (am_wi h S) 10 6 from hM.ob) rfl hM.r23 ?_
    refine wp_iload_n eX6_misfit_16 rfl ?_
    refine wp_ial (v := S 26 t) (t := t) eX6_misfit_17 (show Ar (am_wi h S) 26 7 120 from hM.a26) (by omega) rfl rfl ?_
    refine wp_if eX6_misfit_18 (fun (c_18 : ¬ (S 26 t) = 0) => ?_) (fun (c_18 : ¬ (¬ (S 26 t) = 0)) => ?_)
    · refine wp_iinc (v := nI (t + 1)) (ls' := [some (.ref 10), some (.int a), some (.int (nI (t + 1)))]) eX6_misfit_35 rfl (nI_1 t) rfl ?_
      refine wp_goto eX6_misfit_38 ?_
      exact ih (t + 1) _ (by omega) (by simp_all [sMisf])
    · refine wp_iload_n eX6_misfit_21 rfl ?_
      refine wp_aload_n eX6_misfit_22 rfl ?_
      refine wp_iload_n eX6_misfit_23 rfl ?_
      refine wp_aload_n eX6_misfit_24 rfl ?_
      refine wp_getR (v := 27) eX6_misfit_25 (show Ob (am_wi h S) 10 6 from hM.ob) rfl hM.r24 ?_
      refine wp_iload_n eX6_misfit_28 rfl ?_
      obtain ⟨w0, hw0, ew0⟩ := hO t (by omega) (Decidable.not_not.mp c_18)
      have ec0 : (nI w0).toNatClampNeg = w0 := nI_clamp (by omega)
      refine wp_ial (v := nI w0) (t := t) eX6_misfit_29 (show Ar (am_wi h S) 27 7 120 from hM.a27) (by omega) rfl ew0 ?_
      refine wp_virt (rv := (some (.int (sMis S t w0)))) (h' := am_wi h S) (r := [.int a]) eX6_misfit_30 [.int (nI t), .int (nI w0)] rfl rfl rfl (show Ob (am_wi h S) 10 6 from hM.ob) (rX6_misfitOn _ hM _ _ _ (by omega) (by omega)) ?_
      refine wp_iadd eX6_misfit_33 ?_
      refine wp_istore_n (ls' := [some (.ref 10), some (.int (a + (sMis S t w0))), some (.int (nI t))]) eX6_misfit_34 rfl rfl ?_
      refine wp_iinc (v := nI (t + 1)) (ls' := [some (.ref 10), some (.int (a + (sMis S t w0))), some (.int (nI (t + 1)))]) eX6_misfit_35 rfl (nI_1 t) rfl ?_
      refine wp_goto eX6_misfit_38 ?_
      exact ih (t + 1) _ (by omega) (by simp_all [sMisf])

set_option maxRecDepth 4000 in
theorem rX6_misfit (d : Nat) {h : Hp} (hM : MOK h) (S : St) (hW : MW S) (hO : ∀ t, t < cT S → S 26 t = 0 → ∃ s, s < 16 ∧ S 27 t = nI s) : Res (d + 3) nX6_misfit [.ref 10] (am_wi h S) (some (.int (sMisf S (cT S)))) (am_wi h S) := by
  refine Res_intro (ls := [some (.ref 10), none, none]) aX6_misfit rfl rfl rfl rfl ?_
  show WP kX6_misfit _ _ _ _ _ _
  refine wp_iconst (v := 0) eX6_misfit_0 rfl ?_
  refine wp_istore_n (ls' := [some (.ref 10), some (.int 0), none]) eX6_misfit_1 rfl rfl ?_
  refine wp_iconst (v := 0) eX6_misfit_2 rfl ?_
  refine wp_istore_n (ls' := [some (.ref 10), some (.int 0), some (.int 0)]) eX6_misfit_3 rfl rfl ?_
  exact lX6_misfit d hM S hW hO (cT S) 0 _ (by omega) rfl
