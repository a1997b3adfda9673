/-! THE CLASS: tidy -/
theorem sMis_nI {S : St} {t s : Nat} (hS : SR S) (ht : t < cT S) (hs : s < cS S) : ∃ q, q ≤ 99 ∧ sMis S t s = nI q := by
  obtain ⟨e1, b1⟩ := hS.2.2 s hs
  obtain ⟨e2, b2⟩ := sWant_RG (hS.2.1 t ht) hS.1
  unfold sMis sGap
  rw [e1, e2]
  split
  · rename_i l
    have l2 := (nI_ltI (by omega) (by omega)).mp l
    rw [pk_sub (by omega)]
    exact ⟨_, by omega, rfl⟩
  · rename_i l
    have l2 : ¬ (sWant S t).toNatClampNeg < (S 18 s).toNatClampNeg := fun z => l (nI_lt z (by omega))
    rw [pk_sub (by omega)]
    exact ⟨_, by omega, rfl⟩
/-- the class's shelf for a move: the least misfit, the lowest number -/
def cSM (S : St) (t : Nat) : Nat → Int32
  | 0 => -1
  | s + 1 => if nI s = S 27 t ∨ sFits S t s = 0 then cSM S t s else if cSM S t s < 0 ∨ sMis S t s < sMis S t (cSM S t s).toNatClampNeg then nI s else cSM S t s
theorem cSM_get {S : St} {t : Nat} : ∀ {n : Nat}, n ≤ 16 → ¬ cSM S t n < 0 → ∃ k, k < n ∧ cSM S t n = nI k ∧ ¬ nI k = S 27 t ∧ ¬ sFits S t k = 0 := by
  intro n
  induction n with
  | zero => intro _ h; exact absurd (show (-1 : Int32) < 0 by decide) h
  | succ n ih =>
    intro hn h
    unfold cSM at h ⊢
    split
    · rename_i q; rw [if_pos q] at h; obtain ⟨k, h1, h2⟩ := ih (by omega) h; exact ⟨k, by omega, h2⟩
    · rename_i q
      rw [if_neg q] at h
      split
      · exact ⟨n, by omega, rfl, fun z => q (Or.inl z), fun z => q (Or.inr z)⟩
      · rename_i q2; rw [if_neg q2] at h; obtain ⟨k, h1, h2⟩ := ih (by omega) h; exact ⟨k, by omega, h2⟩
theorem cSM_no {S : St} {t n : Nat} (q : nI n = S 27 t ∨ sFits S t n = 0) : cSM S t (n + 1) = cSM S t n := if_pos q
theorem cSM_1 {S : St} {t n : Nat} (q : ¬ (nI n = S 27 t ∨ sFits S t n = 0)) (e : cSM S t n < 0) : cSM S t (n + 1) = nI n := by
  show (if _ then _ else if cSM S t n < 0 ∨ _ then _ else _) = _
  rw [if_neg q, if_pos (Or.inl e)]
theorem cSM_2 {S : St} {t n k : Nat} (q : ¬ (nI n = S 27 t ∨ sFits S t n = 0)) (hk : k < 100) (e : cSM S t n = nI k) : cSM S t (n + 1) = if sMis S t n < sMis S t k then nI n else nI k := by
  show (if _ then _ else if cSM S t n < 0 ∨ sMis S t n < sMis S t (cSM S t n).toNatClampNeg then _ else cSM S t n) = _
  rw [if_neg q, e, nI_clamp (by omega)]
  have h0 : ¬ nI k < 0 := nI_pos (by omega)
  simp only [h0, false_or]
def cSMo (S : St) (h : Hp) (t n : Nat) : Option Nat := if cSM S t n < 0 then none else some (shA h (cSM S t n).toNatClampNeg)
theorem cSMo_s {S : St} {h : Hp} {u n k : Nat} (hk : k < 100) (e : cSM S u n = nI k) : cSMo S h u n = some (shA h k) := by
  unfold cSMo
  rw [e, if_neg (nI_pos (by omega)), nI_clamp (by omega)]
theorem cSMo_n {S : St} {h : Hp} {u n : Nat} (e : cSM S u n < 0) : cSMo S h u n = none := by
  unfold cSMo
  rw [if_pos e]
/-- the reference's pick for one thing, by the class's shelf -/
theorem sPk1_eq {S : St} {t : Nat} (hS : SR S) (hW : MW S) (ht : t < cT S) (hO : OW S t) (p : T3) : ∀ (n : Nat), n ≤ cS S → sPk1 S t p n = if ¬ cSM S t n < 0 ∧ p.1 < sMis S t (onN S t) - sMis S t (cSM S t n).toNatClampNeg then (sMis S t (onN S t) - sMis S t (cSM S t n).toNatClampNeg, nI t, cSM S t n) else p := by
  intro n
  induction n with
  | zero => intro _; rw [if_neg (fun z => z.1 (show (-1 : Int32) < 0 by decide))]; rfl
  | succ n ih =>
    intro hn
    have h11 := hW.2.1.2
    have ih := ih (by omega)
    obtain ⟨qo, ho, eo⟩ := sMis_nI hS ht hO.2
    obtain ⟨qn, hqn, en⟩ := sMis_nI hS ht (show n < cS S by omega)
    have en' : (sMis S t (onN S t) - sMis S t n).toInt = (qo : Int) - qn := by rw [eo, en]; exact pk_sub_toInt (by omega) (by omega)
    by_cases q : nI n = S 27 t ∨ sFits S t n = 0
    · rw [cSM_no q, ← ih]
      show (if _ then _ else _) = _
      rw [if_pos (Or.inr q)]
    · have e1 : sPk1 S t p (n + 1) = if sMis S t (onN S t) - sMis S t n ≤ (sPk1 S t p n).1 then sPk1 S t p n else (sMis S t (onN S t) - sMis S t n, nI t, nI n) := by
        show (if sMis S t (onN S t) - sMis S t n ≤ (sPk1 S t p n).1 ∨ _ then _ else _) = _
        simp only [q, or_false]
      have z1 : ¬ nI n < 0 := nI_pos (by omega)
      by_cases c0 : cSM S t n < 0
      · rw [if_neg (fun z => z.1 c0)] at ih
        rw [e1, ih, cSM_1 q c0, nI_clamp (by omega)]
        simp only [z1, not_false_eq_true, true_and]
        by_cases l : p.1 < sMis S t (onN S t) - sMis S t n
        · rw [if_neg (Int32.not_le.mpr l), if_pos l]
        · rw [if_pos (Int32.not_lt.mp l), if_neg l]
      · obtain ⟨k, hk, ek, -, -⟩ := cSM_get (by omega) c0
        obtain ⟨qk, hqk, ekk⟩ := sMis_nI hS ht (show k < cS S by omega)
        have ek' : (sMis S t (onN S t) - sMis S t k).toInt = (qo : Int) - qk := by rw [eo, ekk]; exact pk_sub_toInt (by omega) (by omega)
        have z2 : ¬ nI k < 0 := nI_pos (by omega)
        rw [ek, nI_clamp (by omega)] at ih
        simp only [z2, not_false_eq_true, true_and] at ih
        rw [e1, cSM_2 q (by omega) ek]
        by_cases l : sMis S t n < sMis S t k
        · have l' : qn < qk := by rw [en, ekk] at l; exact (nI_ltI (by omega) (by omega)).mp l
          rw [if_pos l, nI_clamp (by omega)]
          simp only [z1, not_false_eq_true, true_and]
          by_cases l2 : p.1 < sMis S t (onN S t) - sMis S t k
          · rw [if_pos l2] at ih
            rw [ih, if_neg, if_pos]
            · simp only [Int32.lt_iff_toInt_lt] at *; omega
            · simp only [Int32.le_iff_toInt_le] at *; omega
          · rw [if_neg l2] at ih
            rw [ih]
            by_cases l3 : p.1 < sMis S t (onN S t) - sMis S t n
            · rw [if_neg (Int32.not_le.mpr l3), if_pos l3]
            · rw [if_pos (Int32.not_lt.mp l3), if_neg l3]
        · have l' : ¬ qn < qk := fun z => l (by rw [en, ekk]; exact nI_lt z (by omega))
          rw [if_neg l, nI_clamp (by omega)]
          simp only [z2, not_false_eq_true, true_and]
          rw [← ih]
          by_cases l2 : p.1 < sMis S t (onN S t) - sMis S t k
          · rw [if_pos l2] at ih
            rw [ih, if_pos]
            simp only [Int32.le_iff_toInt_le] at *; omega
          · rw [if_neg l2] at ih
            rw [ih, if_pos]
            simp only [Int32.lt_iff_toInt_lt, Int32.le_iff_toInt_le] at *; omega

set_option maxRecDepth 4000 in
theorem lX5_sfm (d : Nat) {h : Hp} {S : St} (hR : CR S h) (hW : MW S) (hS : SR S) (u : Nat) (hu : u < cT S) (h26 : S 26 u = 0) (hO : OW S u) : ∀ (n s : Nat) (b : Option Nat) (m : Int32) (x5 x6 : Option Value), s + n = cS S → b = cSMo S h u s → (¬ cSM S u s < 0 → m = sMis S u (cSM S u s).toNatClampNeg) → WP kX5_shelfForMove (Res (d + 2)) (fun r1 h1 => r1 = some (va_rf (cSMo S h u (cS S))) ∧ h1 = h) 23 [some (.ref 1), some (.ref (thA h u)), some (va_rf b), some (.int m), some (.int (nI s)), x5, x6] [] h := by
  intro n
  induction n with
  | zero =>
    intro s b m x5 x6 hn hb hm
    have hC := hR.1
    have h5 := hW.1.2
    have h11 := hW.2.1.2
    have h12 := hW.2.2.1.2
    have h29 := hW.2.2.2.2
    have hpl : am_r h (thA h u) 8 = some (shA h (onN S u)) := by rw [hR.th_p u hu, if_pos h26]
    have ho2 := hO.2
    refine wp_iload eX5_shelfForMove_23 rfl ?_
    refine wp_aload_n eX5_shelfForMove_25 rfl ?_
    refine wp_getI (v := S 10 11) eX5_shelfForMove_26 (show Ob h 1 5 from hC.ob) rfl hR.c1 ?_
    refine wp_icmpT eX5_shelfForMove_29 (show (S 10 11) ≤ (nI s) from (lp_ge hW.2.1.1 (by omega) (by omega))) ?_
    refine wp_aload_nO eX5_shelfForMove_101 rfl ?_
    exact wp_aretO eX5_shelfForMove_102 ⟨congrArg (fun z => some (va_rf z)) (by rw [hb, show s = cS S by omega]), rfl⟩
  | succ n ih =>
    intro s b m x5 x6 hn hb hm
    have hC := hR.1
    have h5 := hW.1.2
    have h11 := hW.2.1.2
    have h12 := hW.2.2.1.2
    have h29 := hW.2.2.2.2
    have hpl : am_r h (thA h u) 8 = some (shA h (onN S u)) := by rw [hR.th_p u hu, if_pos h26]
    have ho2 := hO.2
    have hqe : shA h s = shA h (onN S u) → nI s = S 27 u := fun z => by rw [hR.2.2.2.2.2.2.1 s (onN S u) (by omega) ho2 z]; exact hO.1.symm
    have hqn : ¬ shA h s = shA h (onN S u) → ¬ nI s = S 27 u := fun z y => z (by rw [show onN S u = s by unfold onN; rw [← y]; exact nI_clamp (by omega)])
    rcases Decidable.em (cSM S u s < 0) with c0 | c0
    · rw [cSMo_n c0] at hb
      subst hb
      refine wp_iload eX5_shelfForMove_23 rfl ?_
      refine wp_aload_n eX5_shelfForMove_25 rfl ?_
      refine wp_getI (v := S 10 11) eX5_shelfForMove_26 (show Ob h 1 5 from hC.ob) rfl hR.c1 ?_
      refine wp_icmpF eX5_shelfForMove_29 (show ¬ ((S 10 11) ≤ (nI s)) from (lp_lt hW.2.1.1 (by omega) (by omega))) ?_
      refine wp_aload_n eX5_shelfForMove_32 rfl ?_
      refine wp_getR (v := 2) eX5_shelfForMove_33 (show Ob h 1 5 from hC.ob) rfl hC.r0 ?_
      refine wp_iload eX5_shelfForMove_36 rfl ?_
      refine wp_aal (v := shA h s) (t := s) eX5_shelfForMove_38 (show Ar h 2 9 16 from hC.a2) rfl rfl (by omega) rfl (hR.sh_r s (by omega)) ?_
      refine wp_astore (ls' := [some (.ref 1), some (.ref (thA h u)), some (va_rf none), some (.int m), some (.int (nI s)), some (.ref (shA h s)), x6]) eX5_shelfForMove_39 rfl rfl ?_
      refine wp_aload eX5_shelfForMove_41 rfl ?_
      refine wp_ifnullF eX5_shelfForMove_43 ?_
      refine wp_aload eX5_shelfForMove_46 rfl ?_
      refine wp_aload_n eX5_shelfForMove_48 rfl ?_
      refine wp_getR (v := shA h (onN S u)) eX5_shelfForMove_49 (show Ob h (thA h u) 4 from hR.th_ob u (by omega)) rfl hpl ?_
      refine wp_acmpR eX5_shelfForMove_52 (fun (c_52 : (shA h s) = (shA h (onN S u))) => ?_) (fun (c_52 : ¬ ((shA h s) = (shA h (onN S u)))) => ?_)
      · refine wp_iinc (v := nI (s + 1)) (ls' := [some (.ref 1), some (.ref (thA h u)), some (va_rf none), some (.int m), some (.int (nI (s + 1))), some (.ref (shA h s)), x6]) eX5_shelfForMove_95 rfl (nI_1 s) rfl ?_
        refine wp_goto eX5_shelfForMove_98 ?_
        have e2 : cSM S u (s + 1) = cSM S u s := cSM_no (by first | exact Or.inl (hqe c_52) | exact Or.inr (Decidable.not_not.mp c_61))
        exact ih (s + 1) none m _ _ (by omega) (by rw [cSMo_n (by rw [e2]; exact c0)]) (fun z => absurd c0 (by rw [e2] at z; exact z))
      · refine wp_aload eX5_shelfForMove_55 rfl ?_
        refine wp_aload_n eX5_shelfForMove_57 rfl ?_
        refine wp_virt (rv := (some (.int (sFits S u s)))) (h' := h) (r := []) eX5_shelfForMove_58 [.ref (thA h u)] rfl rfl rfl (show Ob h (shA h s) 3 from hR.sh_ob s (by omega)) (bX3_fits _ hR (hR.tv (by omega)) (by omega)) ?_
        refine wp_if eX5_shelfForMove_61 (fun (c_61 : ¬ (sFits S u s) = 0) => ?_) (fun (c_61 : ¬ (¬ (sFits S u s) = 0)) => ?_)
        · refine wp_aload_n eX5_shelfForMove_67 rfl ?_
          refine wp_aload eX5_shelfForMove_68 rfl ?_
          refine wp_aload_n eX5_shelfForMove_70 rfl ?_
          refine wp_getI (v := S 10 0) eX5_shelfForMove_71 (show Ob h 1 5 from hC.ob) rfl hR.c10 ?_
          refine wp_virt (rv := (some (.int (sMis S u s)))) (h' := h) (r := []) eX5_shelfForMove_74 [.ref (shA h s), .int (S 10 0)] rfl rfl rfl (show Ob h (thA h u) 4 from hR.th_ob u (by omega)) (bX4_misfitOn _ hR hS (hR.tv (by omega)) (hS.2.1 _ (by omega)) (by omega)) ?_
          refine wp_istore (ls' := [some (.ref 1), some (.ref (thA h u)), some (va_rf none), some (.int m), some (.int (nI s)), some (.ref (shA h s)), some (.int (sMis S u s))]) eX5_shelfForMove_77 rfl rfl ?_
          refine wp_aload_nO eX5_shelfForMove_79 rfl ?_
          refine wp_ifnullT eX5_shelfForMove_80 ?_
          refine wp_aload eX5_shelfForMove_89 rfl ?_
          refine wp_astore_n (ls' := [some (.ref 1), some (.ref (thA h u)), some (.ref (shA h s)), some (.int m), some (.int (nI s)), some (.ref (shA h s)), some (.int (sMis S u s))]) eX5_shelfForMove_91 rfl rfl ?_
          refine wp_iload eX5_shelfForMove_92 rfl ?_
          refine wp_istore_n (ls' := [some (.ref 1), some (.ref (thA h u)), some (.ref (shA h s)), some (.int (sMis S u s)), some (.int (nI s)), some (.ref (shA h s)), some (.int (sMis S u s))]) eX5_shelfForMove_94 rfl rfl ?_
          refine wp_iinc (v := nI (s + 1)) (ls' := [some (.ref 1), some (.ref (thA h u)), some (.ref (shA h s)), some (.int (sMis S u s)), some (.int (nI (s + 1))), some (.ref (shA h s)), some (.int (sMis S u s))]) eX5_shelfForMove_95 rfl (nI_1 s) rfl ?_
          refine wp_goto eX5_shelfForMove_98 ?_
          have e2 : cSM S u (s + 1) = nI s := cSM_1 (by rintro (z | z); exact hqn c_52 z; exact c_61 z) c0
          exact ih (s + 1) (some (shA h s)) (sMis S u s) _ _ (by omega) (by rw [cSMo_s (k := s) (by omega) e2]) (fun _ => by rw [e2, nI_clamp (by omega)])
        · refine wp_goto eX5_shelfForMove_64 ?_
          refine wp_iinc (v := nI (s + 1)) (ls' := [some (.ref 1), some (.ref (thA h u)), some (va_rf none), some (.int m), some (.int (nI (s + 1))), some (.ref (shA h s)), x6]) eX5_shelfForMove_95 rfl (nI_1 s) rfl ?_
          refine wp_goto eX5_shelfForMove_98 ?_
          have e2 : cSM S u (s + 1) = cSM S u s := cSM_no (by first | exact Or.inl (hqe c_52) | exact Or.inr (Decidable.not_not.mp c_61))
          exact ih (s + 1) none m _ _ (by omega) (by rw [cSMo_n (by rw [e2]; exact c0)]) (fun z => absurd c0 (by rw [e2] at z; exact z))
    · obtain ⟨k, hk, ek, -, -⟩ := cSM_get (by omega) c0
      have hm := hm c0
      rw [ek, nI_clamp (by omega)] at hm
      subst hm
      rw [cSMo_s (by omega) ek] at hb
      subst hb
      refine wp_iload eX5_shelfForMove_23 rfl ?_
      refine wp_aload_n eX5_shelfForMove_25 rfl ?_
      refine wp_getI (v := S 10 11) eX5_shelfForMove_26 (show Ob h 1 5 from hC.ob) rfl hR.c1 ?_
      refine wp_icmpF eX5_shelfForMove_29 (show ¬ ((S 10 11) ≤ (nI s)) from (lp_lt hW.2.1.1 (by omega) (by omega))) ?_
      refine wp_aload_n eX5_shelfForMove_32 rfl ?_
      refine wp_getR (v := 2) eX5_shelfForMove_33 (show Ob h 1 5 from hC.ob) rfl hC.r0 ?_
      refine wp_iload eX5_shelfForMove_36 rfl ?_
      refine wp_aal (v := shA h s) (t := s) eX5_shelfForMove_38 (show Ar h 2 9 16 from hC.a2) rfl rfl (by omega) rfl (hR.sh_r s (by omega)) ?_
      refine wp_astore (ls' := [some (.ref 1), some (.ref (thA h u)), some (.ref (shA h k)), some (.int (sMis S u k)), some (.int (nI s)), some (.ref (shA h s)), x6]) eX5_shelfForMove_39 rfl rfl ?_
      refine wp_aload eX5_shelfForMove_41 rfl ?_
      refine wp_ifnullF eX5_shelfForMove_43 ?_
      refine wp_aload eX5_shelfForMove_46 rfl ?_
      refine wp_aload_n eX5_shelfForMove_48 rfl ?_
      refine wp_getR (v := shA h (onN S u)) eX5_shelfForMove_49 (show Ob h (thA h u) 4 from hR.th_ob u (by omega)) rfl hpl ?_
      refine wp_acmpR eX5_shelfForMove_52 (fun (c_52 : (shA h s) = (shA h (onN S u))) => ?_) (fun (c_52 : ¬ ((shA h s) = (shA h (onN S u)))) => ?_)
      · refine wp_iinc (v := nI (s + 1)) (ls' := [some (.ref 1), some (.ref (thA h u)), some (.ref (shA h k)), some (.int (sMis S u k)), some (.int (nI (s + 1))), some (.ref (shA h s)), x6]) eX5_shelfForMove_95 rfl (nI_1 s) rfl ?_
        refine wp_goto eX5_shelfForMove_98 ?_
        have e2 : cSM S u (s + 1) = nI k := by
          first
          | (rw [cSM_no (Or.inl (hqe c_52))]; exact ek)
          | (rw [cSM_no (Or.inr (Decidable.not_not.mp c_61))]; exact ek)
          | (rw [cSM_2 (by rintro (z | z); exact hqn c_52 z; exact c_61 z) (by omega) ek, if_neg (Int32.not_lt.mpr c_86)])
        exact ih (s + 1) (some (shA h k)) (sMis S u k) _ _ (by omega) (by rw [cSMo_s (k := k) (by omega) e2]) (fun _ => by rw [e2, nI_clamp (by omega)])
      · refine wp_aload eX5_shelfForMove_55 rfl ?_
        refine wp_aload_n eX5_shelfForMove_57 rfl ?_
        refine wp_virt (rv := (some (.int (sFits S u s)))) (h' := h) (r := []) eX5_shelfForMove_58 [.ref (thA h u)] rfl rfl rfl (show Ob h (shA h s) 3 from hR.sh_ob s (by omega)) (bX3_fits _ hR (hR.tv (by omega)) (by omega)) ?_
        refine wp_if eX5_shelfForMove_61 (fun (c_61 : ¬ (sFits S u s) = 0) => ?_) (fun (c_61 : ¬ (¬ (sFits S u s) = 0)) => ?_)
        · refine wp_aload_n eX5_shelfForMove_67 rfl ?_
          refine wp_aload eX5_shelfForMove_68 rfl ?_
          refine wp_aload_n eX5_shelfForMove_70 rfl ?_
          refine wp_getI (v := S 10 0) eX5_shelfForMove_71 (show Ob h 1 5 from hC.ob) rfl hR.c10 ?_
          refine wp_virt (rv := (some (.int (sMis S u s)))) (h' := h) (r := []) eX5_shelfForMove_74 [.ref (shA h s), .int (S 10 0)] rfl rfl rfl (show Ob h (thA h u) 4 from hR.th_ob u (by omega)) (bX4_misfitOn _ hR hS (hR.tv (by omega)) (hS.2.1 _ (by omega)) (by omega)) ?_
          refine wp_istore (ls' := [some (.ref 1), some (.ref (thA h u)), some (.ref (shA h k)), some (.int (sMis S u k)), some (.int (nI s)), some (.ref (shA h s)), some (.int (sMis S u s))]) eX5_shelfForMove_77 rfl rfl ?_
          refine wp_aload_n eX5_shelfForMove_79 rfl ?_
          refine wp_ifnullF eX5_shelfForMove_80 ?_
          refine wp_iload eX5_shelfForMove_83 rfl ?_
          refine wp_iload_n eX5_shelfForMove_85 rfl ?_
          refine wp_icmp eX5_shelfForMove_86 (fun (c_86 : (sMis S u k) ≤ (sMis S u s)) => ?_) (fun (c_86 : ¬ ((sMis S u k) ≤ (sMis S u s))) => ?_)
          · refine wp_iinc (v := nI (s + 1)) (ls' := [some (.ref 1), some (.ref (thA h u)), some (.ref (shA h k)), some (.int (sMis S u k)), some (.int (nI (s + 1))), some (.ref (shA h s)), some (.int (sMis S u s))]) eX5_shelfForMove_95 rfl (nI_1 s) rfl ?_
            refine wp_goto eX5_shelfForMove_98 ?_
            have e2 : cSM S u (s + 1) = nI k := by
              first
              | (rw [cSM_no (Or.inl (hqe c_52))]; exact ek)
              | (rw [cSM_no (Or.inr (Decidable.not_not.mp c_61))]; exact ek)
              | (rw [cSM_2 (by rintro (z | z); exact hqn c_52 z; exact c_61 z) (by omega) ek, if_neg (Int32.not_lt.mpr c_86)])
            exact ih (s + 1) (some (shA h k)) (sMis S u k) _ _ (by omega) (by rw [cSMo_s (k := k) (by omega) e2]) (fun _ => by rw [e2, nI_clamp (by omega)])
          · refine wp_aload eX5_shelfForMove_89 rfl ?_
            refine wp_astore_n (ls' := [some (.ref 1), some (.ref (thA h u)), some (.ref (shA h s)), some (.int (sMis S u k)), some (.int (nI s)), some (.ref (shA h s)), some (.int (sMis S u s))]) eX5_shelfForMove_91 rfl rfl ?_
            refine wp_iload eX5_shelfForMove_92 rfl ?_
            refine wp_istore_n (ls' := [some (.ref 1), some (.ref (thA h u)), some (.ref (shA h s)), some (.int (sMis S u s)), some (.int (nI s)), some (.ref (shA h s)), some (.int (sMis S u s))]) eX5_shelfForMove_94 rfl rfl ?_
            refine wp_iinc (v := nI (s + 1)) (ls' := [some (.ref 1), some (.ref (thA h u)), some (.ref (shA h s)), some (.int (sMis S u s)), some (.int (nI (s + 1))), some (.ref (shA h s)), some (.int (sMis S u s))]) eX5_shelfForMove_95 rfl (nI_1 s) rfl ?_
            refine wp_goto eX5_shelfForMove_98 ?_
            have e2 : cSM S u (s + 1) = nI s := by rw [cSM_2 (by rintro (z | z); exact hqn c_52 z; exact c_61 z) (by omega) ek, if_pos (Int32.not_le.mp c_86)]
            exact ih (s + 1) (some (shA h s)) (sMis S u s) _ _ (by omega) (by rw [cSMo_s (k := s) (by omega) e2]) (fun _ => by rw [e2, nI_clamp (by omega)])
        · refine wp_goto eX5_shelfForMove_64 ?_
          refine wp_iinc (v := nI (s + 1)) (ls' := [some (.ref 1), some (.ref (thA h u)), some (.ref (shA h k)), some (.int (sMis S u k)), some (.int (nI (s + 1))), some (.ref (shA h s)), x6]) eX5_shelfForMove_95 rfl (nI_1 s) rfl ?_
          refine wp_goto eX5_shelfForMove_98 ?_
          have e2 : cSM S u (s + 1) = nI k := by
            first
            | (rw [cSM_no (Or.inl (hqe c_52))]; exact ek)
            | (rw [cSM_no (Or.inr (Decidable.not_not.mp c_61))]; exact ek)
            | (rw [cSM_2 (by rintro (z | z); exact hqn c_52 z; exact c_61 z) (by omega) ek, if_neg (Int32.not_lt.mpr c_86)])
          exact ih (s + 1) (some (shA h k)) (sMis S u k) _ _ (by omega) (by rw [cSMo_s (k := k) (by omega) e2]) (fun _ => by rw [e2, nI_clamp (by omega)])

set_option maxRecDepth 4000 in
theorem bX5_sfm_out (d : Nat) {h : Hp} {S : St} (hR : CR S h) (hW : MW S) (u : Nat) (hu : u < cT S) (h26 : ¬ S 26 u = 0) : Res (d + 3) nX5_shelfForMove [.ref 1, .ref (thA h u)] h (some (va_rf none)) h := by
  have hC := hR.1
  have h5 := hW.1.2
  have h11 := hW.2.1.2
  have h12 := hW.2.2.1.2
  have h29 := hW.2.2.2.2
  refine Res_intro (ls := [some (.ref 1), some (.ref (thA h u)), none, none, none, none, none]) aX5_shelfForMove rfl rfl rfl rfl ?_
  show WP kX5_shelfForMove _ _ _ _ _ _
  refine wp_aload_n eX5_shelfForMove_0 rfl ?_
  refine wp_getI (v := S 26 u) eX5_shelfForMove_1 (show Ob h (thA h u) 4 from hR.th_ob u (by omega)) rfl (hR.th7 u (by omega)) ?_
  refine wp_ifT eX5_shelfForMove_4 (show ¬ (S 26 u) = 0 from h26) ?_
  refine wp_null eX5_shelfForMove_14 ?_
  exact wp_aretO eX5_shelfForMove_15 ⟨congrArg (fun z => some (va_rf z)) (rfl), rfl⟩

set_option maxRecDepth 4000 in
theorem bX5_sfm_stuck (d : Nat) {h : Hp} {S : St} (hR : CR S h) (hW : MW S) (hS : SR S) (u : Nat) (hu : u < cT S) (h26 : S 26 u = 0) (hO : OW S u) (h20 : ¬ S 20 (onN S u) = 0) : Res (d + 3) nX5_shelfForMove [.ref 1, .ref (thA h u)] h (some (va_rf none)) h := by
  have hC := hR.1
  have h5 := hW.1.2
  have h11 := hW.2.1.2
  have h12 := hW.2.2.1.2
  have h29 := hW.2.2.2.2
  refine Res_intro (ls := [some (.ref 1), some (.ref (thA h u)), none, none, none, none, none]) aX5_shelfForMove rfl rfl rfl rfl ?_
  show WP kX5_shelfForMove _ _ _ _ _ _
  refine wp_aload_n eX5_shelfForMove_0 rfl ?_
  refine wp_getI (v := S 26 u) eX5_shelfForMove_1 (show Ob h (thA h u) 4 from hR.th_ob u (by omega)) rfl (hR.th7 u (by omega)) ?_
  refine wp_ifF eX5_shelfForMove_4 (show ¬ (¬ (S 26 u) = 0) from (fun z => z h26)) ?_
  refine wp_aload_n eX5_shelfForMove_7 rfl ?_
  refine wp_virt (rv := (some (.int (if S 20 (onN S u) = 0 then 0 else 1)))) (h' := h) (r := []) eX5_shelfForMove_8 [] rfl rfl rfl (show Ob h (thA h u) 4 from hR.th_ob u (by omega)) (bX4_isStuck _ hR hu h26 hO) ?_
  refine wp_ifF eX5_shelfForMove_11 (show ¬ ((if S 20 (onN S u) = 0 then 0 else 1) = 0) from (by rw [if_neg h20]; decide)) ?_
  refine wp_null eX5_shelfForMove_14 ?_
  exact wp_aretO eX5_shelfForMove_15 ⟨congrArg (fun z => some (va_rf z)) (rfl), rfl⟩

set_option maxRecDepth 4000 in
theorem bX5_sfm (d : Nat) {h : Hp} {S : St} (hR : CR S h) (hW : MW S) (hS : SR S) (u : Nat) (hu : u < cT S) (h26 : S 26 u = 0) (hO : OW S u) (h20 : S 20 (onN S u) = 0) : Res (d + 3) nX5_shelfForMove [.ref 1, .ref (thA h u)] h (some (va_rf (cSMo S h u (cS S)))) h := by
  have hC := hR.1
  have h5 := hW.1.2
  have h11 := hW.2.1.2
  have h12 := hW.2.2.1.2
  have h29 := hW.2.2.2.2
  refine Res_intro (ls := [some (.ref 1), some (.ref (thA h u)), none, none, none, none, none]) aX5_shelfForMove rfl rfl rfl rfl ?_
  show WP kX5_shelfForMove _ _ _ _ _ _
  refine wp_aload_n eX5_shelfForMove_0 rfl ?_
  refine wp_getI (v := S 26 u) eX5_shelfForMove_1 (show Ob h (thA h u) 4 from hR.th_ob u (by omega)) rfl (hR.th7 u (by omega)) ?_
  refine wp_ifF eX5_shelfForMove_4 (show ¬ (¬ (S 26 u) = 0) from (fun z => z h26)) ?_
  refine wp_aload_n eX5_shelfForMove_7 rfl ?_
  refine wp_virt (rv := (some (.int (if S 20 (onN S u) = 0 then 0 else 1)))) (h' := h) (r := []) eX5_shelfForMove_8 [] rfl rfl rfl (show Ob h (thA h u) 4 from hR.th_ob u (by omega)) (bX4_isStuck _ hR hu h26 hO) ?_
  refine wp_ifT eX5_shelfForMove_11 (show (if S 20 (onN S u) = 0 then 0 else 1) = 0 from (by rw [if_pos h20])) ?_
  refine wp_null eX5_shelfForMove_16 ?_
  refine wp_astore_nO (ls' := [some (.ref 1), some (.ref (thA h u)), some (va_rf none), none, none, none, none]) eX5_shelfForMove_17 rfl rfl ?_
  refine wp_iconst (v := 0) eX5_shelfForMove_18 rfl ?_
  refine wp_istore_n (ls' := [some (.ref 1), some (.ref (thA h u)), some (va_rf none), some (.int 0), none, none, none]) eX5_shelfForMove_19 rfl rfl ?_
  refine wp_iconst (v := 0) eX5_shelfForMove_20 rfl ?_
  refine wp_istore (ls' := [some (.ref 1), some (.ref (thA h u)), some (va_rf none), some (.int 0), some (.int 0), none, none]) eX5_shelfForMove_21 rfl rfl ?_
  exact lX5_sfm d hR hW hS u hu h26 hO (cS S) 0 none 0 _ _ (by omega) (cSMo_n (show cSM S u 0 < 0 from (show (-1 : Int32) < 0 by decide))).symm (fun z => absurd (show (-1 : Int32) < 0 by decide) z)

set_option maxRecDepth 4000 in
theorem rX5_move (d : Nat) {h : Hp} (h1 : Ob h 1 5) (a : Nat) (hA : Ob h a 4) (s : Nat) (hS : Ob h s 3) (k : Nat) (hK : Ob h k 3) (hp : am_r h a 8 = some s) : Res (d + 2) nX5_move [.ref 1, .ref a, .ref k] h none (cMvH h a s k) := by
  refine Res_intro (ls := [some (.ref 1), some (.ref a), some (.ref k), none]) aX5_move rfl rfl rfl rfl ?_
  show WP kX5_move _ _ _ _ _ _
  refine wp_aload_n eX5_move_0 rfl ?_
  refine wp_getR (v := s) eX5_move_1 (show Ob h a 4 from hA) rfl hp ?_
  refine wp_astore_n (ls' := [some (.ref 1), some (.ref a), some (.ref k), some (.ref s)]) eX5_move_4 rfl rfl ?_
  refine wp_aload_n eX5_move_5 rfl ?_
  refine wp_ifnonnullT eX5_move_6 ?_
  refine wp_aload_n eX5_move_10 rfl ?_
  refine wp_dup eX5_move_11 rfl ?_
  refine wp_getI (v := am_i h 1 14) eX5_move_12 (show Ob h 1 5 from h1) rfl rfl ?_
  refine wp_aload_n eX5_move_15 rfl ?_
  refine wp_getI (v := am_i h s 4) eX5_move_16 (show Ob h s 3 from hS) rfl rfl ?_
  refine wp_aload_n eX5_move_19 rfl ?_
  refine wp_getI (v := am_i h k 4) eX5_move_20 (show Ob h k 3 from hK) rfl rfl ?_
  refine wp_iadd eX5_move_23 ?_
  refine wp_iadd eX5_move_24 ?_
  refine wp_putI (h' := am_setI h 1 14 ((am_i h 1 14) + ((am_i h s 4) + (am_i h k 4)))) eX5_move_25 (show Ob h 1 5 from h1) rfl rfl ?_
  refine wp_aload_n eX5_move_28 rfl ?_
  refine wp_aload_n eX5_move_29 rfl ?_
  refine wp_virt (rv := none) (h' := cRel (am_setI h 1 14 (am_i h 1 14 + (am_i h s 4 + am_i h k 4))) s a) (r := []) eX5_move_30 [.ref a] rfl rfl rfl (show Ob (am_setI h 1 14 ((am_i h 1 14) + ((am_i h s 4) + (am_i h k 4)))) s 3 from hS) (show Res (d + 1) nX3_release _ (am_setI h 1 14 (am_i h 1 14 + (am_i h s 4 + am_i h k 4))) none (cRel (am_setI h 1 14 (am_i h 1 14 + (am_i h s 4 + am_i h k 4))) s a) from rX3_release (h := am_setI h 1 14 (am_i h 1 14 + (am_i h s 4 + am_i h k 4))) d a hA s hS) ?_
  refine wp_aload_n eX5_move_33 rfl ?_
  refine wp_aload_n eX5_move_34 rfl ?_
  refine wp_virt (rv := none) (h' := cMvH h a s k) (r := []) eX5_move_35 [.ref a] rfl rfl rfl (show Ob (cRel (am_setI h 1 14 (am_i h 1 14 + (am_i h s 4 + am_i h k 4))) s a) k 3 from hK) (show Res (d + 1) nX3_take _ (cRel (am_setI h 1 14 (am_i h 1 14 + (am_i h s 4 + am_i h k 4))) s a) none (cMvH h a s k) from rX3_take (h := cRel (am_setI h 1 14 (am_i h 1 14 + (am_i h s 4 + am_i h k 4))) s a) d a hA k hK) ?_
  exact wp_vret eX5_move_38 ⟨rfl, rfl⟩

/-- a pick is none, or a thing that is in and a shelf that it fits, another than its own -/
def pkQ (S : St) (p : T3) : Prop := p.2.1 < 0 ∨ ∃ t s, t < cT S ∧ s < cS S ∧ S 26 t = 0 ∧ p.2.1 = nI t ∧ p.2.2 = nI s ∧ ¬ nI s = S 27 t ∧ ¬ sFits S t s = 0
theorem sPk1_q {S : St} {t : Nat} {p : T3} (ht : t < cT S) (h26 : S 26 t = 0) (hp : pkQ S p) : ∀ (n : Nat), n ≤ cS S → pkQ S (sPk1 S t p n) := by
  intro n
  induction n with
  | zero => intro _; exact hp
  | succ n ih =>
    intro hn
    unfold sPk1
    split
    · exact ih (by omega)
    · rename_i q
      exact Or.inr ⟨t, n, ht, by omega, h26, rfl, rfl, fun z => q (Or.inr (Or.inl z)), fun z => q (Or.inr (Or.inr z))⟩
theorem sPk2_q {S : St} : ∀ (n : Nat), n ≤ cT S → pkQ S (sPk2 S n) := by
  intro n
  induction n with
  | zero => intro _; exact Or.inl (show (-1 : Int32) < 0 by decide)
  | succ n ih =>
    intro hn
    unfold sPk2
    split
    · exact ih (by omega)
    · rename_i q
      have q1 : S 26 n = 0 := Decidable.not_not.mp (fun z => q (Or.inl z))
      exact sPk1_q (by omega) q1 (ih (by omega)) _ (Nat.le_refl _)
theorem sPk_ne {S : St} (hW : MW S) (h : ¬ (sPk2 S (cT S)).2.1 < 0) : ¬ nI (pkS S) = S 27 (pkT S) ∧ ¬ sFits S (pkT S) (pkS S) = 0 := by
  rcases sPk2_q (S := S) (cT S) (Nat.le_refl _) with z | ⟨t, s, h1, h2, h3, h4, h5, h6, h7⟩
  · exact absurd z h
  · have e1 : pkT S = t := by unfold pkT; rw [h4]; exact nI_clamp (by have := hW.2.2.1.2; omega)
    have e2 : pkS S = s := by unfold pkS; rw [h5]; exact nI_clamp (by have := hW.2.1.2; omega)
    rw [e1, e2]
    exact ⟨h6, h7⟩
def cMB (S : St) (h : Hp) : Hp := if (sPk2 S (cT S)).2.1 < 0 then h else cMvH h (thA h (pkT S)) (shA h (onN S (pkT S))) (shA h (pkS S))
/-- what the class holds of a pick -/
def cPk (h : Hp) (p : T3) (a1 a2 : Option Nat) (f : Int32) : Prop := f = p.1 ∧ (p.2.1 < 0 → a1 = none ∧ a2 = none) ∧ (¬ p.2.1 < 0 → a1 = some (thA h p.2.1.toNatClampNeg) ∧ a2 = some (shA h p.2.2.toNatClampNeg))

set_option maxRecDepth 4000 in
theorem lX5_mbm (d : Nat) {h : Hp} {S : St} (hR : CR S h) (hW : MW S) (hS : SR S) (hA : OA S) : ∀ (n t : Nat) (a1 a2 : Option Nat) (f : Int32) (x5 x6 x7 : Option Value), t + n = cT S → cPk h (sPk2 S t) a1 a2 f → WP kX5_makeBestMove (Res (d + 3)) (fun r1 h1 => r1 = some (.int (if (sPk2 S (cT S)).2.1 < 0 then 0 else 1)) ∧ h1 = cMB S h) 9 [some (.ref 1), some (va_rf a1), some (va_rf a2), some (.int f), some (.int (nI t)), x5, x6, x7] [] h := by
  intro n
  induction n with
  | zero =>
    intro t a1 a2 f x5 x6 x7 hn hp
    have hC := hR.1
    have h5 := hW.1.2
    have h11 := hW.2.1.2
    have h12 := hW.2.2.1.2
    have h29 := hW.2.2.2.2
    have et : t = cT S := by omega
    subst et
    rcases Decidable.em ((sPk2 S (cT S)).2.1 < 0) with c0 | c0
    · obtain ⟨rfl, rfl⟩ := hp.2.1 c0
      refine wp_iload eX5_makeBestMove_9 rfl ?_
      refine wp_aload_n eX5_makeBestMove_11 rfl ?_
      refine wp_getI (v := S 10 12) eX5_makeBestMove_12 (show Ob h 1 5 from hC.ob) rfl hR.c3 ?_
      refine wp_icmpT eX5_makeBestMove_15 (show (S 10 12) ≤ (nI (cT S)) from (lp_ge hW.2.2.1.1 (by omega) (by omega))) ?_
      refine wp_aload_nO eX5_makeBestMove_95 rfl ?_
      refine wp_ifnullT eX5_makeBestMove_96 ?_
      refine wp_iconst (v := 0) eX5_makeBestMove_103 rfl ?_
      exact wp_zret eX5_makeBestMove_104 (by first | exact Or.inl rfl | exact Or.inr rfl | assumption) ⟨congrArg (fun z => some (Value.int z)) (by rw [if_pos c0]), by unfold cMB; rw [if_pos c0]⟩
    · obtain ⟨z1, z2⟩ := hp.2.2 c0
      obtain ⟨p1, p2, p3, p4, p5⟩ := sPk_get hW c0
      have z1 : a1 = some (thA h (pkT S)) := z1
      have z2 : a2 = some (shA h (pkS S)) := z2
      subst z1
      subst z2
      refine wp_iload eX5_makeBestMove_9 rfl ?_
      refine wp_aload_n eX5_makeBestMove_11 rfl ?_
      refine wp_getI (v := S 10 12) eX5_makeBestMove_12 (show Ob h 1 5 from hC.ob) rfl hR.c3 ?_
      refine wp_icmpT eX5_makeBestMove_15 (show (S 10 12) ≤ (nI (cT S)) from (lp_ge hW.2.2.1.1 (by omega) (by omega))) ?_
      refine wp_aload_n eX5_makeBestMove_95 rfl ?_
      refine wp_ifnullF eX5_makeBestMove_96 ?_
      refine wp_aload_n eX5_makeBestMove_99 rfl ?_
      refine wp_ifnonnullT eX5_makeBestMove_100 ?_
      refine wp_aload_n eX5_makeBestMove_105 rfl ?_
      refine wp_aload_n eX5_makeBestMove_106 rfl ?_
      refine wp_aload_n eX5_makeBestMove_107 rfl ?_
      refine wp_virt (rv := none) (h' := cMvH h (thA h (pkT S)) (shA h (onN S (pkT S))) (shA h (pkS S))) (r := []) eX5_makeBestMove_108 [.ref (thA h (pkT S)), .ref (shA h (pkS S))] rfl rfl rfl (show Ob h 1 5 from hC.ob) (rX5_move _ hC.ob _ (hR.th_ob _ p1) _ (hR.sh_ob _ (hA _ p1 p3).2) _ (hR.sh_ob _ p2) (by rw [hR.th_p _ p1, if_pos p3])) ?_
      refine wp_iconst (v := 1) eX5_makeBestMove_111 rfl ?_
      exact wp_zret eX5_makeBestMove_112 (by first | exact Or.inl rfl | exact Or.inr rfl | assumption) ⟨congrArg (fun z => some (Value.int z)) (by rw [if_neg c0]), by unfold cMB; rw [if_neg c0]⟩
  | succ n ih =>
    intro t a1 a2 f x5 x6 x7 hn hp
    have hC := hR.1
    have h5 := hW.1.2
    have h11 := hW.2.1.2
    have h12 := hW.2.2.1.2
    have h29 := hW.2.2.2.2
    rcases Decidable.em (S 26 t = 0) with h26 | h26
    · have hO := hA t (by omega) h26
      have ho2 := hO.2
      rcases Decidable.em (S 20 (onN S t) = 0) with h20 | h20
      · have e2 : sPk2 S (t + 1) = sPk1 S t (sPk2 S t) (cS S) := if_neg (by rintro (z | z); exact z h26; exact z h20)
        rw [sPk1_eq hS hW (by omega) hO (sPk2 S t) (cS S) (Nat.le_refl _)] at e2
        rcases Decidable.em (cSM S t (cS S) < 0) with c0 | c0
        · refine wp_iload eX5_makeBestMove_9 rfl ?_
          refine wp_aload_n eX5_makeBestMove_11 rfl ?_
          refine wp_getI (v := S 10 12) eX5_makeBestMove_12 (show Ob h 1 5 from hC.ob) rfl hR.c3 ?_
          refine wp_icmpF eX5_makeBestMove_15 (show ¬ ((S 10 12) ≤ (nI t)) from (lp_lt hW.2.2.1.1 (by omega) (by omega))) ?_
          refine wp_aload_n eX5_makeBestMove_18 rfl ?_
          refine wp_getR (v := 3) eX5_makeBestMove_19 (show Ob h 1 5 from hC.ob) rfl hC.r2 ?_
          refine wp_iload eX5_makeBestMove_22 rfl ?_
          refine wp_aal (v := thA h t) (t := t) eX5_makeBestMove_24 (show Ar h 3 10 120 from hC.a3) rfl rfl (by omega) rfl (hR.th_r t (by omega)) ?_
          refine wp_astore (ls' := [some (.ref 1), some (va_rf a1), some (va_rf a2), some (.int f), some (.int (nI t)), some (.ref (thA h t)), x6, x7]) eX5_makeBestMove_25 rfl rfl ?_
          refine wp_aload eX5_makeBestMove_27 rfl ?_
          refine wp_ifnonnullT eX5_makeBestMove_29 ?_
          refine wp_aload_n eX5_makeBestMove_35 rfl ?_
          refine wp_aload eX5_makeBestMove_36 rfl ?_
          refine wp_virt (rv := (some (va_rf none))) (h' := h) (r := []) eX5_makeBestMove_38 [.ref (thA h t)] rfl rfl rfl (show Ob h 1 5 from hC.ob) (show Res (d + 3) nX5_shelfForMove _ _ (some (va_rf none)) _ by rw [← cSMo_n (S := S) (h := h) c0]; exact bX5_sfm _ hR hW hS t (by omega) h26 hO h20) ?_
          refine wp_astoreO (ls' := [some (.ref 1), some (va_rf a1), some (va_rf a2), some (.int f), some (.int (nI t)), some (.ref (thA h t)), some (va_rf none), x7]) eX5_makeBestMove_41 rfl rfl ?_
          refine wp_aloadO eX5_makeBestMove_43 rfl ?_
          refine wp_ifnonnullF eX5_makeBestMove_45 ?_
          refine wp_goto eX5_makeBestMove_48 ?_
          refine wp_iinc (v := nI (t + 1)) (ls' := [some (.ref 1), some (va_rf a1), some (va_rf a2), some (.int f), some (.int (nI (t + 1))), some (.ref (thA h t)), some (va_rf none), x7]) eX5_makeBestMove_89 rfl (nI_1 t) rfl ?_
          refine wp_goto eX5_makeBestMove_92 ?_
          exact ih (t + 1) a1 a2 f _ _ _ (by omega) (by rw [e2, if_neg (fun z => z.1 c0)]; exact hp)
        · obtain ⟨k, hk, ek, -, -⟩ := cSM_get (by omega) c0
          have c0' : ¬ nI k < 0 := nI_pos (by omega)
          rw [ek, nI_clamp (by omega)] at e2
          refine wp_iload eX5_makeBestMove_9 rfl ?_
          refine wp_aload_n eX5_makeBestMove_11 rfl ?_
          refine wp_getI (v := S 10 12) eX5_makeBestMove_12 (show Ob h 1 5 from hC.ob) rfl hR.c3 ?_
          refine wp_icmpF eX5_makeBestMove_15 (show ¬ ((S 10 12) ≤ (nI t)) from (lp_lt hW.2.2.1.1 (by omega) (by omega))) ?_
          refine wp_aload_n eX5_makeBestMove_18 rfl ?_
          refine wp_getR (v := 3) eX5_makeBestMove_19 (show Ob h 1 5 from hC.ob) rfl hC.r2 ?_
          refine wp_iload eX5_makeBestMove_22 rfl ?_
          refine wp_aal (v := thA h t) (t := t) eX5_makeBestMove_24 (show Ar h 3 10 120 from hC.a3) rfl rfl (by omega) rfl (hR.th_r t (by omega)) ?_
          refine wp_astore (ls' := [some (.ref 1), some (va_rf a1), some (va_rf a2), some (.int f), some (.int (nI t)), some (.ref (thA h t)), x6, x7]) eX5_makeBestMove_25 rfl rfl ?_
          refine wp_aload eX5_makeBestMove_27 rfl ?_
          refine wp_ifnonnullT eX5_makeBestMove_29 ?_
          refine wp_aload_n eX5_makeBestMove_35 rfl ?_
          refine wp_aload eX5_makeBestMove_36 rfl ?_
          refine wp_virt (rv := (some (.ref (shA h k)))) (h' := h) (r := []) eX5_makeBestMove_38 [.ref (thA h t)] rfl rfl rfl (show Ob h 1 5 from hC.ob) (show Res (d + 3) nX5_shelfForMove _ _ (some (va_rf (some (shA h k)))) _ by rw [← cSMo_s (S := S) (h := h) (by omega) ek]; exact bX5_sfm _ hR hW hS t (by omega) h26 hO h20) ?_
          refine wp_astore (ls' := [some (.ref 1), some (va_rf a1), some (va_rf a2), some (.int f), some (.int (nI t)), some (.ref (thA h t)), some (.ref (shA h k)), x7]) eX5_makeBestMove_41 rfl rfl ?_
          refine wp_aload eX5_makeBestMove_43 rfl ?_
          refine wp_ifnonnullT eX5_makeBestMove_45 ?_
          refine wp_aload eX5_makeBestMove_51 rfl ?_
          refine wp_aload_n eX5_makeBestMove_53 rfl ?_
          refine wp_getI (v := S 10 0) eX5_makeBestMove_54 (show Ob h 1 5 from hC.ob) rfl hR.c10 ?_
          refine wp_virt (rv := (some (.int (sMis S t (onN S t))))) (h' := h) (r := []) eX5_makeBestMove_57 [.int (S 10 0)] rfl rfl rfl (show Ob h (thA h t) 4 from hR.th_ob t (by omega)) (bX4_misfitHere _ hR hS (by omega) h26 (hA _ (by omega) h26)) ?_
          refine wp_aload eX5_makeBestMove_60 rfl ?_
          refine wp_aload eX5_makeBestMove_62 rfl ?_
          refine wp_aload_n eX5_makeBestMove_64 rfl ?_
          refine wp_getI (v := S 10 0) eX5_makeBestMove_65 (show Ob h 1 5 from hC.ob) rfl hR.c10 ?_
          refine wp_virt (rv := (some (.int (sMis S t k)))) (h' := h) (r := [.int (sMis S t (onN S t))]) eX5_makeBestMove_68 [.ref (shA h k), .int (S 10 0)] rfl rfl rfl (show Ob h (thA h t) 4 from hR.th_ob t (by omega)) (bX4_misfitOn _ hR hS (hR.tv (by omega)) (hS.2.1 _ (by omega)) (by omega)) ?_
          refine wp_isub eX5_makeBestMove_71 ?_
          refine wp_istore (ls' := [some (.ref 1), some (va_rf a1), some (va_rf a2), some (.int f), some (.int (nI t)), some (.ref (thA h t)), some (.ref (shA h k)), some (.int ((sMis S t (onN S t)) - (sMis S t k)))]) eX5_makeBestMove_72 rfl rfl ?_
          refine wp_iload eX5_makeBestMove_74 rfl ?_
          refine wp_iload_n eX5_makeBestMove_76 rfl ?_
          refine wp_icmp eX5_makeBestMove_77 (fun (c_77 : ((sMis S t (onN S t)) - (sMis S t k)) ≤ f) => ?_) (fun (c_77 : ¬ (((sMis S t (onN S t)) - (sMis S t k)) ≤ f)) => ?_)
          · refine wp_iinc (v := nI (t + 1)) (ls' := [some (.ref 1), some (va_rf a1), some (va_rf a2), some (.int f), some (.int (nI (t + 1))), some (.ref (thA h t)), some (.ref (shA h k)), some (.int ((sMis S t (onN S t)) - (sMis S t k)))]) eX5_makeBestMove_89 rfl (nI_1 t) rfl ?_
            refine wp_goto eX5_makeBestMove_92 ?_
            exact ih (t + 1) a1 a2 f _ _ _ (by omega) (by rw [e2, if_neg (fun z => Int32.not_lt.mpr c_77 (by rw [hp.1]; exact z.2))]; exact hp)
          · refine wp_iload eX5_makeBestMove_80 rfl ?_
            refine wp_istore_n (ls' := [some (.ref 1), some (va_rf a1), some (va_rf a2), some (.int ((sMis S t (onN S t)) - (sMis S t k))), some (.int (nI t)), some (.ref (thA h t)), some (.ref (shA h k)), some (.int ((sMis S t (onN S t)) - (sMis S t k)))]) eX5_makeBestMove_82 rfl rfl ?_
            refine wp_aload eX5_makeBestMove_83 rfl ?_
            refine wp_astore_n (ls' := [some (.ref 1), some (.ref (thA h t)), some (va_rf a2), some (.int ((sMis S t (onN S t)) - (sMis S t k))), some (.int (nI t)), some (.ref (thA h t)), some (.ref (shA h k)), some (.int ((sMis S t (onN S t)) - (sMis S t k)))]) eX5_makeBestMove_85 rfl rfl ?_
            refine wp_aload eX5_makeBestMove_86 rfl ?_
            refine wp_astore_n (ls' := [some (.ref 1), some (.ref (thA h t)), some (.ref (shA h k)), some (.int ((sMis S t (onN S t)) - (sMis S t k))), some (.int (nI t)), some (.ref (thA h t)), some (.ref (shA h k)), some (.int ((sMis S t (onN S t)) - (sMis S t k)))]) eX5_makeBestMove_88 rfl rfl ?_
            refine wp_iinc (v := nI (t + 1)) (ls' := [some (.ref 1), some (.ref (thA h t)), some (.ref (shA h k)), some (.int ((sMis S t (onN S t)) - (sMis S t k))), some (.int (nI (t + 1))), some (.ref (thA h t)), some (.ref (shA h k)), some (.int ((sMis S t (onN S t)) - (sMis S t k)))]) eX5_makeBestMove_89 rfl (nI_1 t) rfl ?_
            refine wp_goto eX5_makeBestMove_92 ?_
            exact ih (t + 1) (some (thA h t)) (some (shA h k)) _ _ _ _ (by omega) (by rw [e2, if_pos ⟨c0', by rw [← hp.1]; exact Int32.not_le.mp c_77⟩]; exact ⟨rfl, fun z => absurd z (nI_pos (by omega)), fun _ => ⟨by rw [nI_clamp (by omega)], by rw [nI_clamp (by omega)]⟩⟩)
      · refine wp_iload eX5_makeBestMove_9 rfl ?_
        refine wp_aload_n eX5_makeBestMove_11 rfl ?_
        refine wp_getI (v := S 10 12) eX5_makeBestMove_12 (show Ob h 1 5 from hC.ob) rfl hR.c3 ?_
        refine wp_icmpF eX5_makeBestMove_15 (show ¬ ((S 10 12) ≤ (nI t)) from (lp_lt hW.2.2.1.1 (by omega) (by omega))) ?_
        refine wp_aload_n eX5_makeBestMove_18 rfl ?_
        refine wp_getR (v := 3) eX5_makeBestMove_19 (show Ob h 1 5 from hC.ob) rfl hC.r2 ?_
        refine wp_iload eX5_makeBestMove_22 rfl ?_
        refine wp_aal (v := thA h t) (t := t) eX5_makeBestMove_24 (show Ar h 3 10 120 from hC.a3) rfl rfl (by omega) rfl (hR.th_r t (by omega)) ?_
        refine wp_astore (ls' := [some (.ref 1), some (va_rf a1), some (va_rf a2), some (.int f), some (.int (nI t)), some (.ref (thA h t)), x6, x7]) eX5_makeBestMove_25 rfl rfl ?_
        refine wp_aload eX5_makeBestMove_27 rfl ?_
        refine wp_ifnonnullT eX5_makeBestMove_29 ?_
        refine wp_aload_n eX5_makeBestMove_35 rfl ?_
        refine wp_aload eX5_makeBestMove_36 rfl ?_
        refine wp_virt (rv := (some (va_rf none))) (h' := h) (r := []) eX5_makeBestMove_38 [.ref (thA h t)] rfl rfl rfl (show Ob h 1 5 from hC.ob) (bX5_sfm_stuck _ hR hW hS t (by omega) h26 hO h20) ?_
        refine wp_astoreO (ls' := [some (.ref 1), some (va_rf a1), some (va_rf a2), some (.int f), some (.int (nI t)), some (.ref (thA h t)), some (va_rf none), x7]) eX5_makeBestMove_41 rfl rfl ?_
        refine wp_aloadO eX5_makeBestMove_43 rfl ?_
        refine wp_ifnonnullF eX5_makeBestMove_45 ?_
        refine wp_goto eX5_makeBestMove_48 ?_
        refine wp_iinc (v := nI (t + 1)) (ls' := [some (.ref 1), some (va_rf a1), some (va_rf a2), some (.int f), some (.int (nI (t + 1))), some (.ref (thA h t)), some (va_rf none), x7]) eX5_makeBestMove_89 rfl (nI_1 t) rfl ?_
        refine wp_goto eX5_makeBestMove_92 ?_
        exact ih (t + 1) a1 a2 f _ _ _ (by omega) (by rw [show sPk2 S (t + 1) = sPk2 S t from if_pos (Or.inr h20)]; exact hp)
    · refine wp_iload eX5_makeBestMove_9 rfl ?_
      refine wp_aload_n eX5_makeBestMove_11 rfl ?_
      refine wp_getI (v := S 10 12) eX5_makeBestMove_12 (show Ob h 1 5 from hC.ob) rfl hR.c3 ?_
      refine wp_icmpF eX5_makeBestMove_15 (show ¬ ((S 10 12) ≤ (nI t)) from (lp_lt hW.2.2.1.1 (by omega) (by omega))) ?_
      refine wp_aload_n eX5_makeBestMove_18 rfl ?_
      refine wp_getR (v := 3) eX5_makeBestMove_19 (show Ob h 1 5 from hC.ob) rfl hC.r2 ?_
      refine wp_iload eX5_makeBestMove_22 rfl ?_
      refine wp_aal (v := thA h t) (t := t) eX5_makeBestMove_24 (show Ar h 3 10 120 from hC.a3) rfl rfl (by omega) rfl (hR.th_r t (by omega)) ?_
      refine wp_astore (ls' := [some (.ref 1), some (va_rf a1), some (va_rf a2), some (.int f), some (.int (nI t)), some (.ref (thA h t)), x6, x7]) eX5_makeBestMove_25 rfl rfl ?_
      refine wp_aload eX5_makeBestMove_27 rfl ?_
      refine wp_ifnonnullT eX5_makeBestMove_29 ?_
      refine wp_aload_n eX5_makeBestMove_35 rfl ?_
      refine wp_aload eX5_makeBestMove_36 rfl ?_
      refine wp_virt (rv := (some (va_rf none))) (h' := h) (r := []) eX5_makeBestMove_38 [.ref (thA h t)] rfl rfl rfl (show Ob h 1 5 from hC.ob) (bX5_sfm_out _ hR hW t (by omega) h26) ?_
      refine wp_astoreO (ls' := [some (.ref 1), some (va_rf a1), some (va_rf a2), some (.int f), some (.int (nI t)), some (.ref (thA h t)), some (va_rf none), x7]) eX5_makeBestMove_41 rfl rfl ?_
      refine wp_aloadO eX5_makeBestMove_43 rfl ?_
      refine wp_ifnonnullF eX5_makeBestMove_45 ?_
      refine wp_goto eX5_makeBestMove_48 ?_
      refine wp_iinc (v := nI (t + 1)) (ls' := [some (.ref 1), some (va_rf a1), some (va_rf a2), some (.int f), some (.int (nI (t + 1))), some (.ref (thA h t)), some (va_rf none), x7]) eX5_makeBestMove_89 rfl (nI_1 t) rfl ?_
      refine wp_goto eX5_makeBestMove_92 ?_
      exact ih (t + 1) a1 a2 f _ _ _ (by omega) (by rw [show sPk2 S (t + 1) = sPk2 S t from if_pos (Or.inl h26)]; exact hp)

set_option maxRecDepth 4000 in
theorem bX5_mbm (d : Nat) {h : Hp} {S : St} (hR : CR S h) (hW : MW S) (hS : SR S) (hA : OA S) : Res (d + 4) nX5_makeBestMove [.ref 1] h (some (.int (if (sPk2 S (cT S)).2.1 < 0 then 0 else 1))) (cMB S h) := by
  have hC := hR.1
  have h5 := hW.1.2
  have h11 := hW.2.1.2
  have h12 := hW.2.2.1.2
  have h29 := hW.2.2.2.2
  refine Res_intro (ls := [some (.ref 1), none, none, none, none, none, none, none]) aX5_makeBestMove rfl rfl rfl rfl ?_
  show WP kX5_makeBestMove _ _ _ _ _ _
  refine wp_null eX5_makeBestMove_0 ?_
  refine wp_astore_nO (ls' := [some (.ref 1), some (va_rf none), none, none, none, none, none, none]) eX5_makeBestMove_1 rfl rfl ?_
  refine wp_null eX5_makeBestMove_2 ?_
  refine wp_astore_nO (ls' := [some (.ref 1), some (va_rf none), some (va_rf none), none, none, none, none, none]) eX5_makeBestMove_3 rfl rfl ?_
  refine wp_iconst (v := 0) eX5_makeBestMove_4 rfl ?_
  refine wp_istore_n (ls' := [some (.ref 1), some (va_rf none), some (va_rf none), some (.int 0), none, none, none, none]) eX5_makeBestMove_5 rfl rfl ?_
  refine wp_iconst (v := 0) eX5_makeBestMove_6 rfl ?_
  refine wp_istore (ls' := [some (.ref 1), some (va_rf none), some (va_rf none), some (.int 0), some (.int 0), none, none, none]) eX5_makeBestMove_7 rfl rfl ?_
  exact lX5_mbm d hR hW hS hA (cT S) 0 none none 0 _ _ _ (by omega) ⟨rfl, fun _ => ⟨rfl, rfl⟩, fun z => absurd (show (-1 : Int32) < 0 by decide) z⟩

def cTdH : Nat → St → Hp → Hp
  | 0, _, h => h
  | n + 1, S, h => if (sPk2 S (cT S)).2.1 < 0 then h else cTdH n (sMv S) (cMB S h)
theorem CR.mb {S : St} {h : Hp} (hR : CR S h) (hW : MW S) (hA : OA S) (c0 : ¬ (sPk2 S (cT S)).2.1 < 0) : CR (sMv S) (cMB S h) := by
  obtain ⟨p1, p2, p3, p4, p5⟩ := sPk_get hW c0
  have hO := hA _ p1 p3
  have q := hR.move hW p1 p3 hO p2 (fun z => (sPk_ne hW c0).1 (by rw [z]; exact hO.1.symm))
  unfold cMB
  rw [if_neg c0]
  exact q
theorem sMv_SR {S : St} (hS : SR S) : SR (sMv S) := hS
theorem CR.td : ∀ (n : Nat) {S : St} {h : Hp}, CR S h → MW S → OA S → CR (sTd n S).2 (cTdH n S h) ∧ MW (sTd n S).2 ∧ OA (sTd n S).2 := by
  intro n
  induction n with
  | zero => intro S h hR hW hA; exact ⟨hR, hW, hA⟩
  | succ n ih =>
    intro S h hR hW hA
    by_cases c0 : (sPk2 S (cT S)).2.1 < 0
    · simp only [sTd, cTdH, c0, if_true]
      exact ⟨hR, hW, hA⟩
    · simp only [sTd, cTdH, c0, if_false]
      exact ih (hR.mb hW hA c0) hW (sMv_OA hW hA c0)

set_option maxRecDepth 4000 in
theorem lX5_tidy (d : Nat) (N : Nat) (hN : N ≤ 50) : ∀ (n : Nat) (S : St) (h : Hp) (k : Nat), k + n = N → CR S h → MW S → SR S → OA S → WP kX5_tidy (Res (d + 4)) (fun r1 h1 => r1 = some (.int (nI (k + (sTd n S).1))) ∧ h1 = cTdH n S h) 21 [some (.ref 1), some (.int (nI N)), some (.int (nI k))] [] h := by
  intro n
  induction n with
  | zero =>
    intro S h k hn hR hW hS hA
    have hC := hR.1
    have h5 := hW.1.2
    have h11 := hW.2.1.2
    have h12 := hW.2.2.1.2
    have h29 := hW.2.2.2.2
    refine wp_iload_n eX5_tidy_21 rfl ?_
    refine wp_iload_n eX5_tidy_22 rfl ?_
    refine wp_icmpT eX5_tidy_23 (show (nI N) ≤ (nI k) from (lp_ge (rfl : nI N = nI N) (by omega) (by omega))) ?_
    refine wp_iload_n eX5_tidy_39 rfl ?_
    exact wp_iret eX5_tidy_40 ⟨congrArg (fun z => some (Value.int z)) (rfl), rfl⟩
  | succ n ih =>
    intro S h k hn hR hW hS hA
    have hC := hR.1
    have h5 := hW.1.2
    have h11 := hW.2.1.2
    have h12 := hW.2.2.1.2
    have h29 := hW.2.2.2.2
    rcases Decidable.em ((sPk2 S (cT S)).2.1 < 0) with c0 | c0
    · refine wp_iload_n eX5_tidy_21 rfl ?_
      refine wp_iload_n eX5_tidy_22 rfl ?_
      refine wp_icmpF eX5_tidy_23 (show ¬ ((nI N) ≤ (nI k)) from (lp_lt (rfl : nI N = nI N) (by omega) (by omega))) ?_
      refine wp_aload_n eX5_tidy_26 rfl ?_
      refine wp_virt (rv := (some (.int (if (sPk2 S (cT S)).2.1 < 0 then 0 else 1)))) (h' := cMB S h) (r := []) eX5_tidy_27 [] rfl rfl rfl (show Ob h 1 5 from hC.ob) (bX5_mbm _ hR hW hS hA) ?_
      refine wp_ifT eX5_tidy_30 (show (if (sPk2 S (cT S)).2.1 < 0 then 0 else 1) = 0 from (if_pos c0)) ?_
      refine wp_iload_n eX5_tidy_39 rfl ?_
      exact wp_iret eX5_tidy_40 ⟨congrArg (fun z => some (Value.int z)) (by simp only [sTd, c0, if_true]; rfl), by simp only [cTdH, cMB, c0, if_true]⟩
    · refine wp_iload_n eX5_tidy_21 rfl ?_
      refine wp_iload_n eX5_tidy_22 rfl ?_
      refine wp_icmpF eX5_tidy_23 (show ¬ ((nI N) ≤ (nI k)) from (lp_lt (rfl : nI N = nI N) (by omega) (by omega))) ?_
      refine wp_aload_n eX5_tidy_26 rfl ?_
      refine wp_virt (rv := (some (.int (if (sPk2 S (cT S)).2.1 < 0 then 0 else 1)))) (h' := cMB S h) (r := []) eX5_tidy_27 [] rfl rfl rfl (show Ob h 1 5 from hC.ob) (bX5_mbm _ hR hW hS hA) ?_
      refine wp_ifF eX5_tidy_30 (show ¬ ((if (sPk2 S (cT S)).2.1 < 0 then 0 else 1) = 0) from (by rw [if_neg c0]; decide)) ?_
      refine wp_iinc (v := nI (k + 1)) (ls' := [some (.ref 1), some (.int (nI N)), some (.int (nI (k + 1)))]) eX5_tidy_33 rfl (nI_1 k) rfl ?_
      refine wp_goto eX5_tidy_36 ?_
      have q3 := ih (sMv S) (cMB S h) (k + 1) (by omega) (hR.mb hW hA c0) hW (sMv_SR hS) (sMv_OA hW hA c0)
      simp only [sTd, cTdH, c0, if_false]
      rw [show k + ((sTd n (sMv S)).1 + 1) = k + 1 + (sTd n (sMv S)).1 by omega]
      exact q3

set_option maxRecDepth 4000 in
theorem bX5_tidy_ok (d : Nat) {h : Hp} {S : St} (hR : CR S h) (hW : MW S) (hS : SR S) (hA : OA S) (n : Nat) (hn : n ≤ 50) (hop : sOpen S = 0) : Res (d + 5) nX5_tidy [.ref 1, .int (nI n)] h (some (.int (nI (sTd n S).1))) (cTdH n S h) := by
  have hC := hR.1
  have h5 := hW.1.2
  have h11 := hW.2.1.2
  have h12 := hW.2.2.1.2
  have h29 := hW.2.2.2.2
  refine Res_intro (ls := [some (.ref 1), some (.int (nI n)), none]) aX5_tidy rfl rfl rfl rfl ?_
  show WP kX5_tidy _ _ _ _ _ _
  refine wp_iload_n eX5_tidy_0 rfl ?_
  refine wp_iconst (v := 0) eX5_tidy_1 rfl ?_
  refine wp_bipush (v := 50) eX5_tidy_2 rfl ?_
  refine wp_stat (rv := (some (.int (sIn (nI n) 0 50)))) (h' := h) (r := []) eX5_tidy_4 [.int (nI n), .int 0, .int 50] rfl rfl rfl rfl (rX5_isWithin _ _ _ _) ?_
  refine wp_ifF eX5_tidy_7 (show ¬ ((sIn (nI n) 0 50) = 0) from (by rw [show sIn (nI n) 0 50 = 1 from sIn_in (x := 51) (n := 51) rfl (by omega) (by omega)]; decide)) ?_
  refine wp_aload_n eX5_tidy_10 rfl ?_
  refine wp_virt (rv := (some (.int (sOpen S)))) (h' := h) (r := []) eX5_tidy_11 [] rfl rfl rfl (show Ob h 1 5 from hC.ob) (bX5_isOpen _ hR hW) ?_
  refine wp_ifT eX5_tidy_14 (show (sOpen S) = 0 from hop) ?_
  refine wp_iconst (v := 0) eX5_tidy_19 rfl ?_
  refine wp_istore_n (ls' := [some (.ref 1), some (.int (nI n)), some (.int 0)]) eX5_tidy_20 rfl rfl ?_
  have q := lX5_tidy d n hn n S h 0 (by omega) hR hW hS hA
  rw [Nat.zero_add] at q
  exact q

set_option maxRecDepth 4000 in
theorem bX5_tidy_no (d : Nat) {h : Hp} {S : St} (hR : CR S h) (hW : MW S) (x : Int32) (hn : ¬ (sIn x 0 50 = 1 ∧ sOpen S = 0)) : Res (d + 5) nX5_tidy [.ref 1, .int x] h (some (.int (-1))) h := by
  have hC := hR.1
  have h5 := hW.1.2
  have h11 := hW.2.1.2
  have h12 := hW.2.2.1.2
  have h29 := hW.2.2.2.2
  have z0 := sIn_01 x 0 50
  refine Res_intro (ls := [some (.ref 1), some (.int x), none]) aX5_tidy rfl rfl rfl rfl ?_
  show WP kX5_tidy _ _ _ _ _ _
  refine wp_iload_n eX5_tidy_0 rfl ?_
  refine wp_iconst (v := 0) eX5_tidy_1 rfl ?_
  refine wp_bipush (v := 50) eX5_tidy_2 rfl ?_
  refine wp_stat (rv := (some (.int (sIn x 0 50)))) (h' := h) (r := []) eX5_tidy_4 [.int x, .int 0, .int 50] rfl rfl rfl rfl (rX5_isWithin _ _ _ _) ?_
  refine wp_if eX5_tidy_7 (fun (c_7 : (sIn x 0 50) = 0) => ?_) (fun (c_7 : ¬ ((sIn x 0 50) = 0)) => ?_)
  · refine wp_iconst (v := (-1)) eX5_tidy_17 rfl ?_
    exact wp_iret eX5_tidy_18 ⟨congrArg (fun z => some (Value.int z)) (rfl), rfl⟩
  · refine wp_aload_n eX5_tidy_10 rfl ?_
    refine wp_virt (rv := (some (.int (sOpen S)))) (h' := h) (r := []) eX5_tidy_11 [] rfl rfl rfl (show Ob h 1 5 from hC.ob) (bX5_isOpen _ hR hW) ?_
    refine wp_if eX5_tidy_14 (fun (c_14 : (sOpen S) = 0) => ?_) (fun (c_14 : ¬ ((sOpen S) = 0)) => ?_)
    · exact absurd ⟨z0.resolve_left c_7, c_14⟩ hn
    · refine wp_iconst (v := (-1)) eX5_tidy_17 rfl ?_
      exact wp_iret eX5_tidy_18 ⟨congrArg (fun z => some (Value.int z)) (rfl), rfl⟩
