/-! THE REFERENCE: fees -/
theorem lp_gtT {x : Int32} {c t : Nat} (hx : x = nI c) (h : c < t) (ht : t < 100000) : x < nI t := by rw [hx]; exact nI_lt h (by omega)
theorem lp_gtF {x : Int32} {c t : Nat} (hx : x = nI c) (h : t ≤ c) (ht : c < 100000) : ¬ (x < nI t) := by rw [hx]; exact nI_nlt h (by omega)
theorem sRow_get {S : St} {day : Int32} : ∀ {n : Nat}, n ≤ 12 → 0 ≤ sRow S day n → ∃ k, k < n ∧ sRow S day n = nI k := by
  intro n
  induction n with
  | zero => intro _ h; exact absurd (show (0 : Int32) ≤ -1 from h) (by decide)
  | succ n ih =>
    intro hn h
    unfold sRow at h ⊢
    split
    · exact ⟨n, by omega, rfl⟩
    · rename_i q
      rw [if_neg q] at h
      obtain ⟨k, h1, h2⟩ := ih (by omega) h
      exact ⟨k, by omega, h2⟩
def sOne (S : St) (t k : Nat) : Int32 := S 13 k + S 14 k * S 21 t + (if S 30 t = 0 then 0 else S 15 k)
def sFeeN (S : St) (t f : Nat) : Nat → Int32
  | 0 => if sRow S (nI f) (cR S) < 0 then 0 else S 12 (sRow S (nI f) (cR S)).toNatClampNeg
  | n + 1 => if sRow S (nI (f + n)) (cR S) < 0 then sFeeN S t f n else sFeeN S t f n + (if nI (f + n) ≤ S 24 t / 1440 then sOne S t (sRow S (nI (f + n)) (cR S)).toNatClampNeg else 2 * sOne S t (sRow S (nI (f + n)) (cR S)).toNatClampNeg)
def sLd (S : St) (t : Nat) : Int32 := if S 29 t < 0 then S 10 0 / 1440 else S 29 t
def sF (S : St) (t : Nat) : Nat := (S 25 t / 1440).toNatClampNeg
def sL (S : St) (t : Nat) : Nat := (sLd S t).toNatClampNeg
/-- the days of a thing are days -/
def FW (S : St) (t : Nat) : Prop := S 25 t / 1440 = nI (sF S t) ∧ sF S t ≤ 100 ∧ sLd S t = nI (sL S t) ∧ sL S t ≤ 100
def sFee (S : St) (t : Nat) : Int32 := sFeeN S t (sF S t) (sL S t + 1 - sF S t)

set_option maxRecDepth 4000 in
theorem lX6_feeOf (d : Nat) {h : Hp} (hM : MOK h) (S : St) (hW : MW S) (u : Nat) (hu : u < 120) (f l : Nat) (hl : l ≤ 100) (hf : f ≤ l + 1) : ∀ (n t : Nat) (a : Int32) (x6 : Option Value) (x7 : Option Value), t + n = l + 1 → (f ≤ t) → (a = sFeeN S u f (t - f)) → WP kX6_feeOf (Res (d + 1)) (fun r1 h1 => r1 = some (.int (sFeeN S u f (l + 1 - f))) ∧ h1 = am_wi h S) 65 [some (.ref 10), some (.int (nI u)), some (.int (nI f)), some (.int (nI l)), some (.int a), some (.int (nI t)), x6, x7] [] (am_wi h S) := by
  intro n
  induction n with
  | zero =>
    intro t a x6 x7 hn hft ha
    have h5 := hW.1.2
    have h11 := hW.2.1.2
    have h12 := hW.2.2.1.2
    have h29 := hW.2.2.2.2
    refine wp_iload eX6_feeOf_65 rfl ?_
    refine wp_iload_n eX6_feeOf_67 rfl ?_
    refine wp_icmpT eX6_feeOf_68 (show (nI l) < (nI t) from (lp_gtT (rfl : nI l = nI l) (by omega) (by omega))) ?_
    refine wp_iload eX6_feeOf_167 rfl ?_
    exact wp_iret eX6_feeOf_169 ⟨congrArg (fun z => some (Value.int z)) (by rw [ha, show t = l + 1 by omega]), rfl⟩
  | succ n ih =>
    intro t a x6 x7 hn hft ha
    have h5 := hW.1.2
    have h11 := hW.2.1.2
    have h12 := hW.2.2.1.2
    have h29 := hW.2.2.2.2
    refine wp_iload eX6_feeOf_65 rfl ?_
    refine wp_iload_n eX6_feeOf_67 rfl ?_
    refine wp_icmpF eX6_feeOf_68 (show ¬ ((nI l) < (nI t)) from (lp_gtF (rfl : nI l = nI l) (by omega) (by omega))) ?_
    refine wp_aload_n eX6_feeOf_71 rfl ?_
    refine wp_iload eX6_feeOf_72 rfl ?_
    refine wp_virt (rv := (some (.int (sRow S (nI t) (cR S))))) (h' := am_wi h S) (r := []) eX6_feeOf_74 [.int (nI t)] rfl rfl rfl (show Ob (am_wi h S) 10 6 from hM.ob) (rX6_rowOf _ hM _ hW _) ?_
    refine wp_istore (ls' := [some (.ref 10), some (.int (nI u)), some (.int (nI f)), some (.int (nI l)), some (.int a), some (.int (nI t)), some (.int (sRow S (nI t) (cR S))), x7]) eX6_feeOf_77 rfl rfl ?_
    refine wp_iload eX6_feeOf_79 rfl ?_
    refine wp_if eX6_feeOf_81 (fun (c_81 : 0 ≤ (sRow S (nI t) (cR S))) => ?_) (fun (c_81 : ¬ (0 ≤ (sRow S (nI t) (cR S)))) => ?_)
    · obtain ⟨k0, hk0, ek0⟩ := sRow_get hW.1.2 c_81
      have ec0 : (nI k0).toNatClampNeg = k0 := nI_clamp (by omega)
      have ge0 : ¬ nI k0 < 0 := nI_pos (by omega)
      rw [ek0]
      refine wp_aload_n eX6_feeOf_87 rfl ?_
      refine wp_getR (v := 13) eX6_feeOf_88 (show Ob (am_wi h S) 10 6 from hM.ob) rfl hM.r8 ?_
      refine wp_iload eX6_feeOf_91 rfl ?_
      refine wp_ial (v := S 13 k0) (t := k0) eX6_feeOf_93 (show Ar (am_wi h S) 13 7 12 from hM.a13) (by omega) rfl rfl ?_
      refine wp_aload_n eX6_feeOf_94 rfl ?_
      refine wp_getR (v := 14) eX6_feeOf_95 (show Ob (am_wi h S) 10 6 from hM.ob) rfl hM.r9 ?_
      refine wp_iload eX6_feeOf_98 rfl ?_
      refine wp_ial (v := S 14 k0) (t := k0) eX6_feeOf_100 (show Ar (am_wi h S) 14 7 12 from hM.a14) (by omega) rfl rfl ?_
      refine wp_aload_n eX6_feeOf_101 rfl ?_
      refine wp_getR (v := 21) eX6_feeOf_102 (show Ob (am_wi h S) 10 6 from hM.ob) rfl hM.r18 ?_
      refine wp_iload_n eX6_feeOf_105 rfl ?_
      refine wp_ial (v := S 21 u) (t := u) eX6_feeOf_106 (show Ar (am_wi h S) 21 7 120 from hM.a21) (by omega) rfl rfl ?_
      refine wp_imul eX6_feeOf_107 ?_
      refine wp_iadd eX6_feeOf_108 ?_
      refine wp_aload_n eX6_feeOf_109 rfl ?_
      refine wp_getR (v := 30) eX6_feeOf_110 (show Ob (am_wi h S) 10 6 from hM.ob) rfl hM.r27 ?_
      refine wp_iload_n eX6_feeOf_113 rfl ?_
      refine wp_zal (v := S 30 u) (t := u) eX6_feeOf_114 (show Ar (am_wi h S) 30 8 120 from hM.a30) (by omega) rfl rfl ?_
      refine wp_if eX6_feeOf_115 (fun (c_115 : (S 30 u) = 0) => ?_) (fun (c_115 : ¬ ((S 30 u) = 0)) => ?_)
      · refine wp_iconst (v := 0) eX6_feeOf_128 rfl ?_
        refine wp_iadd eX6_feeOf_129 ?_
        refine wp_istore (ls' := [some (.ref 10), some (.int (nI u)), some (.int (nI f)), some (.int (nI l)), some (.int a), some (.int (nI t)), some (.int (nI k0)), some (.int (((S 13 k0) + ((S 14 k0) * (S 21 u))) + 0))]) eX6_feeOf_130 rfl rfl ?_
        refine wp_iload eX6_feeOf_132 rfl ?_
        refine wp_iload eX6_feeOf_134 rfl ?_
        refine wp_aload_n eX6_feeOf_136 rfl ?_
        refine wp_getR (v := 24) eX6_feeOf_137 (show Ob (am_wi h S) 10 6 from hM.ob) rfl hM.r21 ?_
        refine wp_iload_n eX6_feeOf_140 rfl ?_
        refine wp_ial (v := S 24 u) (t := u) eX6_feeOf_141 (show Ar (am_wi h S) 24 7 120 from hM.a24) (by omega) rfl rfl ?_
        refine wp_sipush (v := 1440) eX6_feeOf_142 rfl ?_
        refine wp_idiv eX6_feeOf_145 (by decide) ?_
        refine wp_icmp eX6_feeOf_146 (fun (c_146 : (nI t) ≤ ((S 24 u) / 1440)) => ?_) (fun (c_146 : ¬ ((nI t) ≤ ((S 24 u) / 1440))) => ?_)
        · refine wp_iload eX6_feeOf_156 rfl ?_
          refine wp_iadd eX6_feeOf_158 ?_
          refine wp_istore (ls' := [some (.ref 10), some (.int (nI u)), some (.int (nI f)), some (.int (nI l)), some (.int (a + (((S 13 k0) + ((S 14 k0) * (S 21 u))) + 0))), some (.int (nI t)), some (.int (nI k0)), some (.int (((S 13 k0) + ((S 14 k0) * (S 21 u))) + 0))]) eX6_feeOf_159 rfl rfl ?_
          refine wp_iinc (v := nI (t + 1)) (ls' := [some (.ref 10), some (.int (nI u)), some (.int (nI f)), some (.int (nI l)), some (.int (a + (((S 13 k0) + ((S 14 k0) * (S 21 u))) + 0))), some (.int (nI (t + 1))), some (.int (nI k0)), some (.int (((S 13 k0) + ((S 14 k0) * (S 21 u))) + 0))]) eX6_feeOf_161 rfl (nI_1 t) rfl ?_
          refine wp_goto eX6_feeOf_164 ?_
          exact ih (t + 1) _ _ _ (by omega) (by omega) (by rw [show t + 1 - f = (t - f) + 1 by omega]; simp only [sFeeN, show f + (t - f) = t by omega]; first | (simp only [ek0, ec0, ge0, sOne, c_115, c_146, ha, ite_false, ite_true, ↓reduceIte]; done) | (rw [if_pos (Int32.not_le.mp c_81)]; exact ha))
        · refine wp_iconst (v := 2) eX6_feeOf_149 rfl ?_
          refine wp_iload eX6_feeOf_150 rfl ?_
          refine wp_imul eX6_feeOf_152 ?_
          refine wp_goto eX6_feeOf_153 ?_
          refine wp_iadd eX6_feeOf_158 ?_
          refine wp_istore (ls' := [some (.ref 10), some (.int (nI u)), some (.int (nI f)), some (.int (nI l)), some (.int (a + (2 * (((S 13 k0) + ((S 14 k0) * (S 21 u))) + 0)))), some (.int (nI t)), some (.int (nI k0)), some (.int (((S 13 k0) + ((S 14 k0) * (S 21 u))) + 0))]) eX6_feeOf_159 rfl rfl ?_
          refine wp_iinc (v := nI (t + 1)) (ls' := [some (.ref 10), some (.int (nI u)), some (.int (nI f)), some (.int (nI l)), some (.int (a + (2 * (((S 13 k0) + ((S 14 k0) * (S 21 u))) + 0)))), some (.int (nI (t + 1))), some (.int (nI k0)), some (.int (((S 13 k0) + ((S 14 k0) * (S 21 u))) + 0))]) eX6_feeOf_161 rfl (nI_1 t) rfl ?_
          refine wp_goto eX6_feeOf_164 ?_
          exact ih (t + 1) _ _ _ (by omega) (by omega) (by rw [show t + 1 - f = (t - f) + 1 by omega]; simp only [sFeeN, show f + (t - f) = t by omega]; first | (simp only [ek0, ec0, ge0, sOne, c_115, c_146, ha, ite_false, ite_true, ↓reduceIte]; done) | (rw [if_pos (Int32.not_le.mp c_81)]; exact ha))
      · refine wp_aload_n eX6_feeOf_118 rfl ?_
        refine wp_getR (v := 15) eX6_feeOf_119 (show Ob (am_wi h S) 10 6 from hM.ob) rfl hM.r10 ?_
        refine wp_iload eX6_feeOf_122 rfl ?_
        refine wp_ial (v := S 15 k0) (t := k0) eX6_feeOf_124 (show Ar (am_wi h S) 15 7 12 from hM.a15) (by omega) rfl rfl ?_
        refine wp_goto eX6_feeOf_125 ?_
        refine wp_iadd eX6_feeOf_129 ?_
        refine wp_istore (ls' := [some (.ref 10), some (.int (nI u)), some (.int (nI f)), some (.int (nI l)), some (.int a), some (.int (nI t)), some (.int (nI k0)), some (.int (((S 13 k0) + ((S 14 k0) * (S 21 u))) + (S 15 k0)))]) eX6_feeOf_130 rfl rfl ?_
        refine wp_iload eX6_feeOf_132 rfl ?_
        refine wp_iload eX6_feeOf_134 rfl ?_
        refine wp_aload_n eX6_feeOf_136 rfl ?_
        refine wp_getR (v := 24) eX6_feeOf_137 (show Ob (am_wi h S) 10 6 from hM.ob) rfl hM.r21 ?_
        refine wp_iload_n eX6_feeOf_140 rfl ?_
        refine wp_ial (v := S 24 u) (t := u) eX6_feeOf_141 (show Ar (am_wi h S) 24 7 120 from hM.a24) (by omega) rfl rfl ?_
        refine wp_sipush (v := 1440) eX6_feeOf_142 rfl ?_
        refine wp_idiv eX6_feeOf_145 (by decide) ?_
        refine wp_icmp eX6_feeOf_146 (fun (c_146 : (nI t) ≤ ((S 24 u) / 1440)) => ?_) (fun (c_146 : ¬ ((nI t) ≤ ((S 24 u) / 1440))) => ?_)
        · refine wp_iload eX6_feeOf_156 rfl ?_
          refine wp_iadd eX6_feeOf_158 ?_
          refine wp_istore (ls' := [some (.ref 10), some (.int (nI u)), some (.int (nI f)), some (.int (nI l)), some (.int (a + (((S 13 k0) + ((S 14 k0) * (S 21 u))) + (S 15 k0)))), some (.int (nI t)), some (.int (nI k0)), some (.int (((S 13 k0) + ((S 14 k0) * (S 21 u))) + (S 15 k0)))]) eX6_feeOf_159 rfl rfl ?_
          refine wp_iinc (v := nI (t + 1)) (ls' := [some (.ref 10), some (.int (nI u)), some (.int (nI f)), some (.int (nI l)), some (.int (a + (((S 13 k0) + ((S 14 k0) * (S 21 u))) + (S 15 k0)))), some (.int (nI (t + 1))), some (.int (nI k0)), some (.int (((S 13 k0) + ((S 14 k0) * (S 21 u))) + (S 15 k0)))]) eX6_feeOf_161 rfl (nI_1 t) rfl ?_
          refine wp_goto eX6_feeOf_164 ?_
          exact ih (t + 1) _ _ _ (by omega) (by omega) (by rw [show t + 1 - f = (t - f) + 1 by omega]; simp only [sFeeN, show f + (t - f) = t by omega]; first | (simp only [ek0, ec0, ge0, sOne, c_115, c_146, ha, ite_false, ite_true, ↓reduceIte]; done) | (rw [if_pos (Int32.not_le.mp c_81)]; exact ha))
        · refine wp_iconst (v := 2) eX6_feeOf_149 rfl ?_
          refine wp_iload eX6_feeOf_150 rfl ?_
          refine wp_imul eX6_feeOf_152 ?_
          refine wp_goto eX6_feeOf_153 ?_
          refine wp_iadd eX6_feeOf_158 ?_
          refine wp_istore (ls' := [some (.ref 10), some (.int (nI u)), some (.int (nI f)), some (.int (nI l)), some (.int (a + (2 * (((S 13 k0) + ((S 14 k0) * (S 21 u))) + (S 15 k0))))), some (.int (nI t)), some (.int (nI k0)), some (.int (((S 13 k0) + ((S 14 k0) * (S 21 u))) + (S 15 k0)))]) eX6_feeOf_159 rfl rfl ?_
          refine wp_iinc (v := nI (t + 1)) (ls' := [some (.ref 10), some (.int (nI u)), some (.int (nI f)), some (.int (nI l)), some (.int (a + (2 * (((S 13 k0) + ((S 14 k0) * (S 21 u))) + (S 15 k0))))), some (.int (nI (t + 1))), some (.int (nI k0)), some (.int (((S 13 k0) + ((S 14 k0) * (S 21 u))) + (S 15 k0)))]) eX6_feeOf_161 rfl (nI_1 t) rfl ?_
          refine wp_goto eX6_feeOf_164 ?_
          exact ih (t + 1) _ _ _ (by omega) (by omega) (by rw [show t + 1 - f = (t - f) + 1 by omega]; simp only [sFeeN, show f + (t - f) = t by omega]; first | (simp only [ek0, ec0, ge0, sOne, c_115, c_146, ha, ite_false, ite_true, ↓reduceIte]; done) | (rw [if_pos (Int32.not_le.mp c_81)]; exact ha))
    · refine wp_goto eX6_feeOf_84 ?_
      refine wp_iinc (v := nI (t + 1)) (ls' := [some (.ref 10), some (.int (nI u)), some (.int (nI f)), some (.int (nI l)), some (.int a), some (.int (nI (t + 1))), some (.int (sRow S (nI t) (cR S))), x7]) eX6_feeOf_161 rfl (nI_1 t) rfl ?_
      refine wp_goto eX6_feeOf_164 ?_
      exact ih (t + 1) _ _ _ (by omega) (by omega) (by rw [show t + 1 - f = (t - f) + 1 by omega]; simp only [sFeeN, show f + (t - f) = t by omega]; first | (simp only [ek0, ec0, ge0, sOne, c_115, c_146, ha, ite_false, ite_true, ↓reduceIte]; done) | (rw [if_pos (Int32.not_le.mp c_81)]; exact ha))

set_option maxRecDepth 4000 in
theorem rX6_feeOf (d : Nat) {h : Hp} (hM : MOK h) (S : St) (hW : MW S) (u : Nat) (hu : u < 120) (hF : FW S u) (hle : sF S u ≤ sL S u + 1) : Res (d + 2) nX6_feeOf [.ref 10, .int (nI u)] (am_wi h S) (some (.int (sFee S u))) (am_wi h S) := by
  obtain ⟨w1, w2, w3, w4⟩ := hF
  have h5 := hW.1.2
  refine Res_intro (ls := [some (.ref 10), some (.int (nI u)), none, none, none, none, none, none]) aX6_feeOf rfl rfl rfl rfl ?_
  show WP kX6_feeOf _ _ _ _ _ _
  refine wp_aload_n eX6_feeOf_0 rfl ?_
  refine wp_getR (v := 25) eX6_feeOf_1 (show Ob (am_wi h S) 10 6 from hM.ob) rfl hM.r22 ?_
  refine wp_iload_n eX6_feeOf_4 rfl ?_
  refine wp_ial (v := S 25 u) (t := u) eX6_feeOf_5 (show Ar (am_wi h S) 25 7 120 from hM.a25) (by omega) rfl rfl ?_
  refine wp_sipush (v := 1440) eX6_feeOf_6 rfl ?_
  refine wp_idiv eX6_feeOf_9 (by decide) ?_
  rw [w1]
  refine wp_istore_n (ls' := [some (.ref 10), some (.int (nI u)), some (.int (nI (sF S u))), none, none, none, none, none]) eX6_feeOf_10 rfl rfl ?_
  refine wp_aload_n eX6_feeOf_11 rfl ?_
  refine wp_getR (v := 29) eX6_feeOf_12 (show Ob (am_wi h S) 10 6 from hM.ob) rfl hM.r26 ?_
  refine wp_iload_n eX6_feeOf_15 rfl ?_
  refine wp_ial (v := S 29 u) (t := u) eX6_feeOf_16 (show Ar (am_wi h S) 29 7 120 from hM.a29) (by omega) rfl rfl ?_
  refine wp_if eX6_feeOf_17 (fun (c_17 : (S 29 u) < 0) => ?_) (fun (c_17 : ¬ ((S 29 u) < 0)) => ?_)
  · refine wp_aload_n eX6_feeOf_29 rfl ?_
    refine wp_getI (v := S 10 0) eX6_feeOf_30 (show Ob (am_wi h S) 10 6 from hM.ob) rfl rfl ?_
    refine wp_sipush (v := 1440) eX6_feeOf_33 rfl ?_
    refine wp_idiv eX6_feeOf_36 (by decide) ?_
    rw [show (S 10 0) / 1440 = nI (sL S u) by rw [← w3]; unfold sLd; simp [c_17]]
    refine wp_istore_n (ls' := [some (.ref 10), some (.int (nI u)), some (.int (nI (sF S u))), some (.int (nI (sL S u))), none, none, none, none]) eX6_feeOf_37 rfl rfl ?_
    refine wp_aload_n eX6_feeOf_38 rfl ?_
    refine wp_iload_n eX6_feeOf_39 rfl ?_
    refine wp_virt (rv := (some (.int (sRow S (nI (sF S u)) (cR S))))) (h' := am_wi h S) (r := []) eX6_feeOf_40 [.int (nI (sF S u))] rfl rfl rfl (show Ob (am_wi h S) 10 6 from hM.ob) (rX6_rowOf _ hM _ hW _) ?_
    refine wp_if eX6_feeOf_43 (fun (c_43 : 0 ≤ (sRow S (nI (sF S u)) (cR S))) => ?_) (fun (c_43 : ¬ (0 ≤ (sRow S (nI (sF S u)) (cR S)))) => ?_)
    · obtain ⟨k0, hk0, ek0⟩ := sRow_get hW.1.2 c_43
      have ec0 : (nI k0).toNatClampNeg = k0 := nI_clamp (by omega)
      have ge0 : ¬ nI k0 < 0 := nI_pos (by omega)
      refine wp_aload_n eX6_feeOf_50 rfl ?_
      refine wp_getR (v := 12) eX6_feeOf_51 (show Ob (am_wi h S) 10 6 from hM.ob) rfl hM.r7 ?_
      refine wp_aload_n eX6_feeOf_54 rfl ?_
      refine wp_iload_n eX6_feeOf_55 rfl ?_
      refine wp_virt (rv := (some (.int (sRow S (nI (sF S u)) (cR S))))) (h' := am_wi h S) (r := [.ref 12]) eX6_feeOf_56 [.int (nI (sF S u))] rfl rfl rfl (show Ob (am_wi h S) 10 6 from hM.ob) (rX6_rowOf _ hM _ hW _) ?_
      refine wp_top (y := nI k0) ek0 ?_
      refine wp_ial (v := S 12 k0) (t := k0) eX6_feeOf_59 (show Ar (am_wi h S) 12 7 12 from hM.a12) (by omega) rfl rfl ?_
      refine wp_istore (ls' := [some (.ref 10), some (.int (nI u)), some (.int (nI (sF S u))), some (.int (nI (sL S u))), some (.int (S 12 k0)), none, none, none]) eX6_feeOf_60 rfl rfl ?_
      refine wp_iload_n eX6_feeOf_62 rfl ?_
      refine wp_istore (ls' := [some (.ref 10), some (.int (nI u)), some (.int (nI (sF S u))), some (.int (nI (sL S u))), some (.int (S 12 k0)), some (.int (nI (sF S u))), none, none]) eX6_feeOf_63 rfl rfl ?_
      exact lX6_feeOf d hM S hW u hu (sF S u) (sL S u) w4 hle (sL S u + 1 - sF S u) (sF S u) _ _ _ (by omega) (Nat.le_refl _) (by rw [Nat.sub_self]; simp only [sFeeN]; first | (rw [if_pos (Int32.not_le.mp c_43)]; done) | (rw [ek0, ec0, if_neg ge0]; done))
    · refine wp_iconst (v := 0) eX6_feeOf_46 rfl ?_
      refine wp_goto eX6_feeOf_47 ?_
      refine wp_istore (ls' := [some (.ref 10), some (.int (nI u)), some (.int (nI (sF S u))), some (.int (nI (sL S u))), some (.int 0), none, none, none]) eX6_feeOf_60 rfl rfl ?_
      refine wp_iload_n eX6_feeOf_62 rfl ?_
      refine wp_istore (ls' := [some (.ref 10), some (.int (nI u)), some (.int (nI (sF S u))), some (.int (nI (sL S u))), some (.int 0), some (.int (nI (sF S u))), none, none]) eX6_feeOf_63 rfl rfl ?_
      exact lX6_feeOf d hM S hW u hu (sF S u) (sL S u) w4 hle (sL S u + 1 - sF S u) (sF S u) _ _ _ (by omega) (Nat.le_refl _) (by rw [Nat.sub_self]; simp only [sFeeN]; first | (rw [if_pos (Int32.not_le.mp c_43)]; done) | (rw [ek0, ec0, if_neg ge0]; done))
  · refine wp_aload_n eX6_feeOf_20 rfl ?_
    refine wp_getR (v := 29) eX6_feeOf_21 (show Ob (am_wi h S) 10 6 from hM.ob) rfl hM.r26 ?_
    refine wp_iload_n eX6_feeOf_24 rfl ?_
    refine wp_ial (v := S 29 u) (t := u) eX6_feeOf_25 (show Ar (am_wi h S) 29 7 120 from hM.a29) (by omega) rfl rfl ?_
    refine wp_goto eX6_feeOf_26 ?_
    rw [show S 29 u = nI (sL S u) by rw [← w3]; unfold sLd; simp [c_17]]
    refine wp_istore_n (ls' := [some (.ref 10), some (.int (nI u)), some (.int (nI (sF S u))), some (.int (nI (sL S u))), none, none, none, none]) eX6_feeOf_37 rfl rfl ?_
    refine wp_aload_n eX6_feeOf_38 rfl ?_
    refine wp_iload_n eX6_feeOf_39 rfl ?_
    refine wp_virt (rv := (some (.int (sRow S (nI (sF S u)) (cR S))))) (h' := am_wi h S) (r := []) eX6_feeOf_40 [.int (nI (sF S u))] rfl rfl rfl (show Ob (am_wi h S) 10 6 from hM.ob) (rX6_rowOf _ hM _ hW _) ?_
    refine wp_if eX6_feeOf_43 (fun (c_43 : 0 ≤ (sRow S (nI (sF S u)) (cR S))) => ?_) (fun (c_43 : ¬ (0 ≤ (sRow S (nI (sF S u)) (cR S)))) => ?_)
    · obtain ⟨k0, hk0, ek0⟩ := sRow_get hW.1.2 c_43
      have ec0 : (nI k0).toNatClampNeg = k0 := nI_clamp (by omega)
      have ge0 : ¬ nI k0 < 0 := nI_pos (by omega)
      refine wp_aload_n eX6_feeOf_50 rfl ?_
      refine wp_getR (v := 12) eX6_feeOf_51 (show Ob (am_wi h S) 10 6 from hM.ob) rfl hM.r7 ?_
      refine wp_aload_n eX6_feeOf_54 rfl ?_
      refine wp_iload_n eX6_feeOf_55 rfl ?_
      refine wp_virt (rv := (some (.int (sRow S (nI (sF S u)) (cR S))))) (h' := am_wi h S) (r := [.ref 12]) eX6_feeOf_56 [.int (nI (sF S u))] rfl rfl rfl (show Ob (am_wi h S) 10 6 from hM.ob) (rX6_rowOf _ hM _ hW _) ?_
      refine wp_top (y := nI k0) ek0 ?_
      refine wp_ial (v := S 12 k0) (t := k0) eX6_feeOf_59 (show Ar (am_wi h S) 12 7 12 from hM.a12) (by omega) rfl rfl ?_
      refine wp_istore (ls' := [some (.ref 10), some (.int (nI u)), some (.int (nI (sF S u))), some (.int (nI (sL S u))), some (.int (S 12 k0)), none, none, none]) eX6_feeOf_60 rfl rfl ?_
      refine wp_iload_n eX6_feeOf_62 rfl ?_
      refine wp_istore (ls' := [some (.ref 10), some (.int (nI u)), some (.int (nI (sF S u))), some (.int (nI (sL S u))), some (.int (S 12 k0)), some (.int (nI (sF S u))), none, none]) eX6_feeOf_63 rfl rfl ?_
      exact lX6_feeOf d hM S hW u hu (sF S u) (sL S u) w4 hle (sL S u + 1 - sF S u) (sF S u) _ _ _ (by omega) (Nat.le_refl _) (by rw [Nat.sub_self]; simp only [sFeeN]; first | (rw [if_pos (Int32.not_le.mp c_43)]; done) | (rw [ek0, ec0, if_neg ge0]; done))
    · refine wp_iconst (v := 0) eX6_feeOf_46 rfl ?_
      refine wp_goto eX6_feeOf_47 ?_
      refine wp_istore (ls' := [some (.ref 10), some (.int (nI u)), some (.int (nI (sF S u))), some (.int (nI (sL S u))), some (.int 0), none, none, none]) eX6_feeOf_60 rfl rfl ?_
      refine wp_iload_n eX6_feeOf_62 rfl ?_
      refine wp_istore (ls' := [some (.ref 10), some (.int (nI u)), some (.int (nI (sF S u))), some (.int (nI (sL S u))), some (.int 0), some (.int (nI (sF S u))), none, none]) eX6_feeOf_63 rfl rfl ?_
      exact lX6_feeOf d hM S hW u hu (sF S u) (sL S u) w4 hle (sL S u + 1 - sF S u) (sF S u) _ _ _ (by omega) (Nat.le_refl _) (by rw [Nat.sub_self]; simp only [sFeeN]; first | (rw [if_pos (Int32.not_le.mp c_43)]; done) | (rw [ek0, ec0, if_neg ge0]; done))
