/-! THE REFERENCE: clock, settle, put -/
set_option maxRecDepth 4000 in
theorem rX6_clock (d : Nat) {h : Hp} (hM : MOK h) (S : St) (hW : MW S) (n : Int32) : Res (d + 1) nX6_clock [.ref 10, .int n] (am_wi h S) (some (.int (if kClk S n then S 10 0 + n else -1))) (am_wi h (sClk S n)) := by
  have h5 := hW.1.2
  have h11 := hW.2.1.2
  have h12 := hW.2.2.1.2
  have h29 := hW.2.2.2.2
  refine Res_intro (ls := [some (.ref 10), some (.int n), none]) aX6_clock rfl rfl rfl rfl ?_
  show WP kX6_clock _ _ _ _ _ _
  refine wp_iload_n eX6_clock_0 rfl ?_
  refine wp_iconst (v := 1) eX6_clock_1 rfl ?_
  refine wp_icmp eX6_clock_2 (fun (c_2 : n < 1) => ?_) (fun (c_2 : ¬ (n < 1)) => ?_)
  · refine wp_iconst (v := (-1)) eX6_clock_16 rfl ?_
    exact wp_iret eX6_clock_17 ⟨congrArg (fun z => some (Value.int z)) (by simp only [kClk, decide_eq_true_eq]; (repeat' split) <;> first | rfl | (exfalso; simp_all; done) | (exfalso; simp only [Int32.lt_iff_toInt_lt, Int32.le_iff_toInt_le, ← Int32.toInt_inj, Int32.reduceToInt] at *; omega)), by simp only [sClk, kClk, decide_eq_true_eq]; (repeat' split) <;> first | rfl | (exfalso; simp_all; done) | (exfalso; simp only [Int32.lt_iff_toInt_lt, Int32.le_iff_toInt_le, ← Int32.toInt_inj, Int32.reduceToInt] at *; omega)⟩
  · refine wp_iload_n eX6_clock_5 rfl ?_
    refine wp_ldc (v := 100000) eX6_clock_6 rfl ?_
    refine wp_aload_n eX6_clock_8 rfl ?_
    refine wp_getI (v := S 10 0) eX6_clock_9 (show Ob (am_wi h S) 10 6 from hM.ob) rfl rfl ?_
    refine wp_isub eX6_clock_12 ?_
    refine wp_icmp eX6_clock_13 (fun (c_13 : n ≤ (100000 - (S 10 0))) => ?_) (fun (c_13 : ¬ (n ≤ (100000 - (S 10 0)))) => ?_)
    · refine wp_aload_n eX6_clock_18 rfl ?_
      refine wp_dup eX6_clock_19 rfl ?_
      refine wp_getI (v := S 10 0) eX6_clock_20 (show Ob (am_wi h S) 10 6 from hM.ob) rfl rfl ?_
      refine wp_iload_n eX6_clock_23 rfl ?_
      refine wp_iadd eX6_clock_24 ?_
      refine wp_putI (h' := am_wi h (up2 S 10 0 ((S 10 0) + n))) eX6_clock_25 (show Ob (am_wi h S) 10 6 from hM.ob) rfl (am_wi_set _ _ _ _ _ rfl rfl) ?_
      refine wp_iconst (v := 0) eX6_clock_28 rfl ?_
      refine wp_istore_n (ls' := [some (.ref 10), some (.int n), some (.int 0)]) eX6_clock_29 rfl rfl ?_
      have e1 : kClk S n = true := by simp only [kClk, decide_eq_true_eq]; exact ⟨c_2, c_13⟩
      simp only [sClk, e1, ↓reduceIte]
      exact lX6_clock hM (up2 S 10 0 (S 10 0 + n)) hW n (cT S) 0 _ (by show 0 + cT S = cT S; omega) rfl
    · refine wp_iconst (v := (-1)) eX6_clock_16 rfl ?_
      exact wp_iret eX6_clock_17 ⟨congrArg (fun z => some (Value.int z)) (by simp only [kClk, decide_eq_true_eq]; (repeat' split) <;> first | rfl | (exfalso; simp_all; done) | (exfalso; simp only [Int32.lt_iff_toInt_lt, Int32.le_iff_toInt_le, ← Int32.toInt_inj, Int32.reduceToInt] at *; omega)), by simp only [sClk, kClk, decide_eq_true_eq]; (repeat' split) <;> first | rfl | (exfalso; simp_all; done) | (exfalso; simp only [Int32.lt_iff_toInt_lt, Int32.le_iff_toInt_le, ← Int32.toInt_inj, Int32.reduceToInt] at *; omega)⟩

def sCon (S : St) (c : Nat) (u : Int32) : Nat → Bool
  | 0 => false
  | n + 1 => sCon S c u n || decide (¬ n = c ∧ S 34 n = 0 ∧ 3 ≤ sTold S n 4 ∧ sMeans S n (cT S) = 1 ∧ sLast S n (cT S) = u)
theorem sCon_up {S : St} {c : Nat} {u : Int32} {k : Nat} : ∀ {n : Nat}, k ≤ n → sCon S c u k = true → sCon S c u n = true := by
  intro n
  induction n with
  | zero => intro h1 h2; rw [show k = 0 by omega] at h2; exact h2
  | succ n ih =>
    intro h1 h2
    by_cases e : k = n + 1
    · rw [← e]; exact h2
    · simp only [sCon, Bool.or_eq_true]; exact Or.inl (ih (by omega) h2)
def sSetNo (S : St) (c : Nat) : Int32 := if ¬ S 34 c = 0 then -2 else if ¬ 3 ≤ sTold S c 4 then -3 else if sMeans S c (cT S) = 0 then -4 else -5
def sSet (S : St) (c t : Nat) : Int32 := if sCon S c (nI t) (cC S) = true then -6 else if sOpen S = 0 then -7 else if ¬ S 20 (onN S t) = 0 then -8 else sFee S t + 500
def sSetS (S : St) (c t : Nat) : St := if sCon S c (nI t) (cC S) = true then S else if sOpen S = 0 then S else if ¬ S 20 (onN S t) = 0 then S else up2 (up2 (sLeave (up2 S 10 3 (S 10 3 + (sFee S t + 500))) t 1) 34 c 1) 33 c (nI t)

set_option maxRecDepth 4000 in
theorem rX6_settle_out (d : Nat) {h : Hp} (hM : MOK h) (S : St) (hW : MW S) (x : Int32) (hx : ∀ c, c < cC S → ¬ x = nI c) : Res (d + 4) nX6_settle [.ref 10, .int x] (am_wi h S) (some (.int (-2))) (am_wi h S) := by
  have h5 := hW.1.2
  have h11 := hW.2.1.2
  have h12 := hW.2.2.1.2
  have h29 := hW.2.2.2.2
  refine Res_intro (ls := [some (.ref 10), some (.int x), none, none, none]) aX6_settle rfl rfl rfl rfl ?_
  show WP kX6_settle _ _ _ _ _ _
  refine wp_aload_n eX6_settle_0 rfl ?_
  refine wp_iload_n eX6_settle_1 rfl ?_
  refine wp_virt (rv := (some (.int (sIn x 0 (S 10 29 - 1))))) (h' := am_wi h S) (r := []) eX6_settle_2 [.int x] rfl rfl rfl (show Ob (am_wi h S) 10 6 from hM.ob) (rX6_isClaim _ hM _ _) ?_
  refine wp_ifT eX6_settle_5 (show (sIn x 0 (S 10 29 - 1)) = 0 from (sIn_out hW.2.2.2.1 hx (by omega))) ?_
  refine wp_bipush (v := (-2)) eX6_settle_17 rfl ?_
  exact wp_iret eX6_settle_19 ⟨congrArg (fun z => some (Value.int z)) (rfl), rfl⟩

set_option maxRecDepth 4000 in
theorem rX6_settle_no (d : Nat) {h : Hp} (hM : MOK h) (S : St) (hW : MW S) (c : Nat) (hc : c < cC S) (hn : ¬ (S 34 c = 0 ∧ 3 ≤ sTold S c 4 ∧ sMeans S c (cT S) = 1)) : Res (d + 4) nX6_settle [.ref 10, .int (nI c)] (am_wi h S) (some (.int (sSetNo S c))) (am_wi h S) := by
  have h5 := hW.1.2
  have h11 := hW.2.1.2
  have h12 := hW.2.2.1.2
  have h29 := hW.2.2.2.2
  refine Res_intro (ls := [some (.ref 10), some (.int (nI c)), none, none, none]) aX6_settle rfl rfl rfl rfl ?_
  show WP kX6_settle _ _ _ _ _ _
  refine wp_aload_n eX6_settle_0 rfl ?_
  refine wp_iload_n eX6_settle_1 rfl ?_
  refine wp_virt (rv := (some (.int (sIn (nI c) 0 (S 10 29 - 1))))) (h' := am_wi h S) (r := []) eX6_settle_2 [.int (nI c)] rfl rfl rfl (show Ob (am_wi h S) 10 6 from hM.ob) (rX6_isClaim _ hM _ _) ?_
  refine wp_ifF eX6_settle_5 (show ¬ ((sIn (nI c) 0 (S 10 29 - 1)) = 0) from (by rw [sIn_in hW.2.2.2.1 hc (by omega)]; decide)) ?_
  refine wp_aload_n eX6_settle_8 rfl ?_
  refine wp_getR (v := 34) eX6_settle_9 (show Ob (am_wi h S) 10 6 from hM.ob) rfl hM.r32 ?_
  refine wp_iload_n eX6_settle_12 rfl ?_
  refine wp_zal (v := S 34 c) (t := c) eX6_settle_13 (show Ar (am_wi h S) 34 8 40 from hM.a34) (by omega) rfl rfl ?_
  refine wp_if eX6_settle_14 (fun (c_14 : (S 34 c) = 0) => ?_) (fun (c_14 : ¬ ((S 34 c) = 0)) => ?_)
  · refine wp_aload_n eX6_settle_20 rfl ?_
    refine wp_iload_n eX6_settle_21 rfl ?_
    refine wp_virt (rv := (some (.int (sTold S c 4)))) (h' := am_wi h S) (r := []) eX6_settle_22 [.int (nI c)] rfl rfl rfl (show Ob (am_wi h S) 10 6 from hM.ob) (rX6_manyTold _ hM _ _ (by omega)) ?_
    refine wp_iconst (v := 3) eX6_settle_25 rfl ?_
    refine wp_icmp eX6_settle_26 (fun (c_26 : 3 ≤ (sTold S c 4)) => ?_) (fun (c_26 : ¬ (3 ≤ (sTold S c 4))) => ?_)
    · refine wp_aload_n eX6_settle_32 rfl ?_
      refine wp_iload_n eX6_settle_33 rfl ?_
      refine wp_virt (rv := (some (.int (sMeans S c (cT S))))) (h' := am_wi h S) (r := []) eX6_settle_34 [.int (nI c)] rfl rfl rfl (show Ob (am_wi h S) 10 6 from hM.ob) (rX6_means _ hM _ hW _ (by omega)) ?_
      refine wp_istore_n (ls' := [some (.ref 10), some (.int (nI c)), some (.int (sMeans S c (cT S))), none, none]) eX6_settle_37 rfl rfl ?_
      refine wp_iload_n eX6_settle_38 rfl ?_
      refine wp_iconst (v := 1) eX6_settle_39 rfl ?_
      refine wp_icmpF eX6_settle_40 (show ¬ ((sMeans S c (cT S)) = 1) from (fun q => hn ⟨c_14, c_26, q⟩)) ?_
      refine wp_iload_n eX6_settle_43 rfl ?_
      refine wp_if eX6_settle_44 (fun (c_44 : ¬ (sMeans S c (cT S)) = 0) => ?_) (fun (c_44 : ¬ (¬ (sMeans S c (cT S)) = 0)) => ?_)
      · refine wp_bipush (v := (-5)) eX6_settle_52 rfl ?_
        exact wp_iret eX6_settle_54 ⟨congrArg (fun z => some (Value.int z)) (by simp only [sSetNo, decide_eq_true_eq]; (repeat' split) <;> first | rfl | (exfalso; simp_all; done) | (exfalso; simp only [Int32.lt_iff_toInt_lt, Int32.le_iff_toInt_le, ← Int32.toInt_inj, Int32.reduceToInt] at *; omega)), rfl⟩
      · refine wp_bipush (v := (-4)) eX6_settle_47 rfl ?_
        refine wp_goto eX6_settle_49 ?_
        exact wp_iret eX6_settle_54 ⟨congrArg (fun z => some (Value.int z)) (by simp only [sSetNo, decide_eq_true_eq]; (repeat' split) <;> first | rfl | (exfalso; simp_all; done) | (exfalso; simp only [Int32.lt_iff_toInt_lt, Int32.le_iff_toInt_le, ← Int32.toInt_inj, Int32.reduceToInt] at *; omega)), rfl⟩
    · refine wp_bipush (v := (-3)) eX6_settle_29 rfl ?_
      exact wp_iret eX6_settle_31 ⟨congrArg (fun z => some (Value.int z)) (by simp only [sSetNo, decide_eq_true_eq]; (repeat' split) <;> first | rfl | (exfalso; simp_all; done) | (exfalso; simp only [Int32.lt_iff_toInt_lt, Int32.le_iff_toInt_le, ← Int32.toInt_inj, Int32.reduceToInt] at *; omega)), rfl⟩
  · refine wp_bipush (v := (-2)) eX6_settle_17 rfl ?_
    exact wp_iret eX6_settle_19 ⟨congrArg (fun z => some (Value.int z)) (by simp only [sSetNo, decide_eq_true_eq]; (repeat' split) <;> first | rfl | (exfalso; simp_all; done) | (exfalso; simp only [Int32.lt_iff_toInt_lt, Int32.le_iff_toInt_le, ← Int32.toInt_inj, Int32.reduceToInt] at *; omega)), rfl⟩

set_option maxRecDepth 4000 in
theorem lX6_settle (d : Nat) {h : Hp} (hM : MOK h) (S : St) (hW : MW S) (c t : Nat) (hc : c < cC S) (ht : t < cT S) (h34 : S 34 c = 0) (h3 : 3 ≤ sTold S c 4) (h1 : sMeans S c (cT S) = 1) (hlast : sLast S c (cT S) = nI t) (hF : FW S t) (hle : sF S t ≤ sL S t + 1) (hO : OW S t) : ∀ (n k : Nat) , k + n = cC S → (sCon S c (nI t) k = false) → WP kX6_settle (Res (d + 3)) (fun r1 h1 => r1 = some (.int (sSet S c t)) ∧ h1 = am_wi h (sSetS S c t)) 64 [some (.ref 10), some (.int (nI c)), some (.int (sMeans S c (cT S))), some (.int (nI t)), some (.int (nI k))] [] (am_wi h S) := by
  intro n
  induction n with
  | zero =>
    intro k  hn ha
    have h5 := hW.1.2
    have h11 := hW.2.1.2
    have h12 := hW.2.2.1.2
    have h29 := hW.2.2.2.2
    have hO2 := hO.2
    have hcon : sCon S c (nI t) (cC S) = false := by rw [show cC S = k by omega]; exact ha
    refine wp_iload eX6_settle_64 rfl ?_
    refine wp_aload_n eX6_settle_66 rfl ?_
    refine wp_getI (v := S 10 29) eX6_settle_67 (show Ob (am_wi h S) 10 6 from hM.ob) rfl rfl ?_
    refine wp_icmpT eX6_settle_70 (show (S 10 29) ≤ (nI k) from (lp_ge hW.2.2.2.1 (by omega) (by omega))) ?_
    refine wp_aload_n eX6_settle_128 rfl ?_
    refine wp_virt (rv := (some (.int (sOpen S)))) (h' := am_wi h S) (r := []) eX6_settle_129 [] rfl rfl rfl (show Ob (am_wi h S) 10 6 from hM.ob) (rX6_isOpen _ hM _) ?_
    refine wp_if eX6_settle_132 (fun (c_132 : ¬ (sOpen S) = 0) => ?_) (fun (c_132 : ¬ (¬ (sOpen S) = 0)) => ?_)
    · refine wp_aload_n eX6_settle_138 rfl ?_
      refine wp_getR (v := 20) eX6_settle_139 (show Ob (am_wi h S) 10 6 from hM.ob) rfl hM.r17 ?_
      refine wp_aload_n eX6_settle_142 rfl ?_
      refine wp_getR (v := 27) eX6_settle_143 (show Ob (am_wi h S) 10 6 from hM.ob) rfl hM.r24 ?_
      refine wp_iload_n eX6_settle_146 rfl ?_
      refine wp_ial (v := nI (onN S t)) (t := t) eX6_settle_147 (show Ar (am_wi h S) 27 7 120 from hM.a27) (by omega) rfl hO.1 ?_
      refine wp_zal (v := S 20 (onN S t)) (t := onN S t) eX6_settle_148 (show Ar (am_wi h S) 20 8 16 from hM.a20) (by omega) rfl rfl ?_
      refine wp_if eX6_settle_149 (fun (c_149 : (S 20 (onN S t)) = 0) => ?_) (fun (c_149 : ¬ ((S 20 (onN S t)) = 0)) => ?_)
      · refine wp_aload_n eX6_settle_155 rfl ?_
        refine wp_iload_n eX6_settle_156 rfl ?_
        refine wp_virt (rv := (some (.int (sFee S t)))) (h' := am_wi h S) (r := []) eX6_settle_157 [.int (nI t)] rfl rfl rfl (show Ob (am_wi h S) 10 6 from hM.ob) (rX6_feeOf _ hM _ hW _ (by omega) hF hle) ?_
        refine wp_sipush (v := 500) eX6_settle_160 rfl ?_
        refine wp_iadd eX6_settle_163 ?_
        refine wp_istore (ls' := [some (.ref 10), some (.int (nI c)), some (.int (sMeans S c (cT S))), some (.int (nI t)), some (.int ((sFee S t) + 500))]) eX6_settle_164 rfl rfl ?_
        refine wp_aload_n eX6_settle_166 rfl ?_
        refine wp_dup eX6_settle_167 rfl ?_
        refine wp_getI (v := S 10 3) eX6_settle_168 (show Ob (am_wi h S) 10 6 from hM.ob) rfl rfl ?_
        refine wp_iload eX6_settle_171 rfl ?_
        refine wp_iadd eX6_settle_173 ?_
        refine wp_putI (h' := am_wi h (up2 S 10 3 ((S 10 3) + ((sFee S t) + 500)))) eX6_settle_174 (show Ob (am_wi h S) 10 6 from hM.ob) rfl (am_wi_set _ _ _ _ _ rfl rfl) ?_
        refine wp_aload_n eX6_settle_177 rfl ?_
        refine wp_iload_n eX6_settle_178 rfl ?_
        refine wp_iconst (v := 1) eX6_settle_179 rfl ?_
        refine wp_virt (rv := none) (h' := am_wi h (sLeave (up2 S 10 3 ((S 10 3) + ((sFee S t) + 500))) t 1)) (r := []) eX6_settle_180 [.int (nI t), .int 1] rfl rfl rfl (show Ob (am_wi h (up2 S 10 3 ((S 10 3) + ((sFee S t) + 500)))) 10 6 from hM.ob) (rX6_leaves _ hM (up2 S 10 3 ((S 10 3) + ((sFee S t) + 500))) (show MW (up2 S 10 3 ((S 10 3) + ((sFee S t) + 500))) from hW) _ _ (by omega) (show OW (up2 S 10 3 ((S 10 3) + ((sFee S t) + 500))) t from hO)) ?_
        refine wp_aload_n eX6_settle_183 rfl ?_
        refine wp_getR (v := 34) eX6_settle_184 (show Ob (am_wi h (sLeave (up2 S 10 3 ((S 10 3) + ((sFee S t) + 500))) t 1)) 10 6 from hM.ob) rfl hM.r32 ?_
        refine wp_iload_n eX6_settle_187 rfl ?_
        refine wp_iconst (v := 1) eX6_settle_188 rfl ?_
        refine wp_zas (t := c) (h' := am_wi h (up2 (sLeave (up2 S 10 3 ((S 10 3) + ((sFee S t) + 500))) t 1) 34 c 1)) eX6_settle_189 (show Ar (am_wi h (sLeave (up2 S 10 3 ((S 10 3) + ((sFee S t) + 500))) t 1)) 34 8 40 from hM.a34) (by omega) rfl (by first | exact Or.inl rfl | exact Or.inr rfl | assumption) (am_wi_set _ _ _ _ _ rfl rfl) ?_
        refine wp_aload_n eX6_settle_190 rfl ?_
        refine wp_getR (v := 33) eX6_settle_191 (show Ob (am_wi h (up2 (sLeave (up2 S 10 3 ((S 10 3) + ((sFee S t) + 500))) t 1) 34 c 1)) 10 6 from hM.ob) rfl hM.r31 ?_
        refine wp_iload_n eX6_settle_194 rfl ?_
        refine wp_iload_n eX6_settle_195 rfl ?_
        refine wp_ias (t := c) (h' := am_wi h (up2 (up2 (sLeave (up2 S 10 3 ((S 10 3) + ((sFee S t) + 500))) t 1) 34 c 1) 33 c (nI t))) eX6_settle_196 (show Ar (am_wi h (up2 (sLeave (up2 S 10 3 ((S 10 3) + ((sFee S t) + 500))) t 1) 34 c 1)) 33 7 40 from hM.a33) (by omega) rfl (am_wi_set _ _ _ _ _ rfl rfl) ?_
        refine wp_iload eX6_settle_197 rfl ?_
        exact wp_iret eX6_settle_199 ⟨congrArg (fun z => some (Value.int z)) (by simp only [sSet, decide_eq_true_eq]; (repeat' split) <;> first | rfl | (exfalso; simp_all; done) | (exfalso; simp only [Int32.lt_iff_toInt_lt, Int32.le_iff_toInt_le, ← Int32.toInt_inj, Int32.reduceToInt] at *; omega)), by simp only [sSetS, decide_eq_true_eq]; (repeat' split) <;> first | rfl | (exfalso; simp_all; done) | (exfalso; simp only [Int32.lt_iff_toInt_lt, Int32.le_iff_toInt_le, ← Int32.toInt_inj, Int32.reduceToInt] at *; omega)⟩
      · refine wp_bipush (v := (-8)) eX6_settle_152 rfl ?_
        exact wp_iret eX6_settle_154 ⟨congrArg (fun z => some (Value.int z)) (by simp only [sSet, decide_eq_true_eq]; (repeat' split) <;> first | rfl | (exfalso; simp_all; done) | (exfalso; simp only [Int32.lt_iff_toInt_lt, Int32.le_iff_toInt_le, ← Int32.toInt_inj, Int32.reduceToInt] at *; omega)), by simp only [sSetS, decide_eq_true_eq]; (repeat' split) <;> first | rfl | (exfalso; simp_all; done) | (exfalso; simp only [Int32.lt_iff_toInt_lt, Int32.le_iff_toInt_le, ← Int32.toInt_inj, Int32.reduceToInt] at *; omega)⟩
    · refine wp_bipush (v := (-7)) eX6_settle_135 rfl ?_
      exact wp_iret eX6_settle_137 ⟨congrArg (fun z => some (Value.int z)) (by simp only [sSet, decide_eq_true_eq]; (repeat' split) <;> first | rfl | (exfalso; simp_all; done) | (exfalso; simp only [Int32.lt_iff_toInt_lt, Int32.le_iff_toInt_le, ← Int32.toInt_inj, Int32.reduceToInt] at *; omega)), by simp only [sSetS, decide_eq_true_eq]; (repeat' split) <;> first | rfl | (exfalso; simp_all; done) | (exfalso; simp only [Int32.lt_iff_toInt_lt, Int32.le_iff_toInt_le, ← Int32.toInt_inj, Int32.reduceToInt] at *; omega)⟩
  | succ n ih =>
    intro k  hn ha
    have h5 := hW.1.2
    have h11 := hW.2.1.2
    have h12 := hW.2.2.1.2
    have h29 := hW.2.2.2.2
    have hO2 := hO.2
    refine wp_iload eX6_settle_64 rfl ?_
    refine wp_aload_n eX6_settle_66 rfl ?_
    refine wp_getI (v := S 10 29) eX6_settle_67 (show Ob (am_wi h S) 10 6 from hM.ob) rfl rfl ?_
    refine wp_icmpF eX6_settle_70 (show ¬ ((S 10 29) ≤ (nI k)) from (lp_lt hW.2.2.2.1 (by omega) (by omega))) ?_
    refine wp_iload eX6_settle_73 rfl ?_
    refine wp_iload_n eX6_settle_75 rfl ?_
    refine wp_icmp eX6_settle_76 (fun (c_76 : (nI k) = (nI c)) => ?_) (fun (c_76 : ¬ ((nI k) = (nI c))) => ?_)
    · refine wp_iinc (v := nI (k + 1)) (ls' := [some (.ref 10), some (.int (nI c)), some (.int (sMeans S c (cT S))), some (.int (nI t)), some (.int (nI (k + 1)))]) eX6_settle_122 rfl (nI_1 k) rfl ?_
      refine wp_goto eX6_settle_125 ?_
      exact ih (k + 1)  (by omega) (by simp only [sCon, ha, Bool.false_or, decide_eq_false_iff_not]; intro z; first | exact z.1 ((nI_eq (by omega) (by omega)).mp c_76) | exact c_86 z.2.1 | exact absurd z.2.2.1 (Int32.not_le.mpr c_96) | exact c_106 z.2.2.2.1 | exact c_116 z.2.2.2.2)
    · refine wp_aload_n eX6_settle_79 rfl ?_
      refine wp_getR (v := 34) eX6_settle_80 (show Ob (am_wi h S) 10 6 from hM.ob) rfl hM.r32 ?_
      refine wp_iload eX6_settle_83 rfl ?_
      refine wp_zal (v := S 34 k) (t := k) eX6_settle_85 (show Ar (am_wi h S) 34 8 40 from hM.a34) (by omega) rfl rfl ?_
      refine wp_if eX6_settle_86 (fun (c_86 : ¬ (S 34 k) = 0) => ?_) (fun (c_86 : ¬ (¬ (S 34 k) = 0)) => ?_)
      · refine wp_iinc (v := nI (k + 1)) (ls' := [some (.ref 10), some (.int (nI c)), some (.int (sMeans S c (cT S))), some (.int (nI t)), some (.int (nI (k + 1)))]) eX6_settle_122 rfl (nI_1 k) rfl ?_
        refine wp_goto eX6_settle_125 ?_
        exact ih (k + 1)  (by omega) (by simp only [sCon, ha, Bool.false_or, decide_eq_false_iff_not]; intro z; first | exact z.1 ((nI_eq (by omega) (by omega)).mp c_76) | exact c_86 z.2.1 | exact absurd z.2.2.1 (Int32.not_le.mpr c_96) | exact c_106 z.2.2.2.1 | exact c_116 z.2.2.2.2)
      · refine wp_aload_n eX6_settle_89 rfl ?_
        refine wp_iload eX6_settle_90 rfl ?_
        refine wp_virt (rv := (some (.int (sTold S k 4)))) (h' := am_wi h S) (r := []) eX6_settle_92 [.int (nI k)] rfl rfl rfl (show Ob (am_wi h S) 10 6 from hM.ob) (rX6_manyTold _ hM _ _ (by omega)) ?_
        refine wp_iconst (v := 3) eX6_settle_95 rfl ?_
        refine wp_icmp eX6_settle_96 (fun (c_96 : (sTold S k 4) < 3) => ?_) (fun (c_96 : ¬ ((sTold S k 4) < 3)) => ?_)
        · refine wp_iinc (v := nI (k + 1)) (ls' := [some (.ref 10), some (.int (nI c)), some (.int (sMeans S c (cT S))), some (.int (nI t)), some (.int (nI (k + 1)))]) eX6_settle_122 rfl (nI_1 k) rfl ?_
          refine wp_goto eX6_settle_125 ?_
          exact ih (k + 1)  (by omega) (by simp only [sCon, ha, Bool.false_or, decide_eq_false_iff_not]; intro z; first | exact z.1 ((nI_eq (by omega) (by omega)).mp c_76) | exact c_86 z.2.1 | exact absurd z.2.2.1 (Int32.not_le.mpr c_96) | exact c_106 z.2.2.2.1 | exact c_116 z.2.2.2.2)
        · refine wp_aload_n eX6_settle_99 rfl ?_
          refine wp_iload eX6_settle_100 rfl ?_
          refine wp_virt (rv := (some (.int (sMeans S k (cT S))))) (h' := am_wi h S) (r := []) eX6_settle_102 [.int (nI k)] rfl rfl rfl (show Ob (am_wi h S) 10 6 from hM.ob) (rX6_means _ hM _ hW _ (by omega)) ?_
          refine wp_iconst (v := 1) eX6_settle_105 rfl ?_
          refine wp_icmp eX6_settle_106 (fun (c_106 : ¬ (sMeans S k (cT S)) = 1) => ?_) (fun (c_106 : ¬ (¬ (sMeans S k (cT S)) = 1)) => ?_)
          · refine wp_iinc (v := nI (k + 1)) (ls' := [some (.ref 10), some (.int (nI c)), some (.int (sMeans S c (cT S))), some (.int (nI t)), some (.int (nI (k + 1)))]) eX6_settle_122 rfl (nI_1 k) rfl ?_
            refine wp_goto eX6_settle_125 ?_
            exact ih (k + 1)  (by omega) (by simp only [sCon, ha, Bool.false_or, decide_eq_false_iff_not]; intro z; first | exact z.1 ((nI_eq (by omega) (by omega)).mp c_76) | exact c_86 z.2.1 | exact absurd z.2.2.1 (Int32.not_le.mpr c_96) | exact c_106 z.2.2.2.1 | exact c_116 z.2.2.2.2)
          · refine wp_aload_n eX6_settle_109 rfl ?_
            refine wp_iload eX6_settle_110 rfl ?_
            refine wp_virt (rv := (some (.int (sLast S k (cT S))))) (h' := am_wi h S) (r := []) eX6_settle_112 [.int (nI k)] rfl rfl rfl (show Ob (am_wi h S) 10 6 from hM.ob) (rX6_meant _ hM _ hW _ (by omega)) ?_
            refine wp_iload_n eX6_settle_115 rfl ?_
            refine wp_icmp eX6_settle_116 (fun (c_116 : ¬ (sLast S k (cT S)) = (nI t)) => ?_) (fun (c_116 : ¬ (¬ (sLast S k (cT S)) = (nI t))) => ?_)
            · refine wp_iinc (v := nI (k + 1)) (ls' := [some (.ref 10), some (.int (nI c)), some (.int (sMeans S c (cT S))), some (.int (nI t)), some (.int (nI (k + 1)))]) eX6_settle_122 rfl (nI_1 k) rfl ?_
              refine wp_goto eX6_settle_125 ?_
              exact ih (k + 1)  (by omega) (by simp only [sCon, ha, Bool.false_or, decide_eq_false_iff_not]; intro z; first | exact z.1 ((nI_eq (by omega) (by omega)).mp c_76) | exact c_86 z.2.1 | exact absurd z.2.2.1 (Int32.not_le.mpr c_96) | exact c_106 z.2.2.2.1 | exact c_116 z.2.2.2.2)
            · refine wp_bipush (v := (-6)) eX6_settle_119 rfl ?_
              exact wp_iret eX6_settle_121 ⟨congrArg (fun z => some (Value.int z)) (by have e2 : sCon S c (nI t) (cC S) = true := sCon_up (k := k + 1) (by omega) (by simp only [sCon, Bool.or_eq_true, decide_eq_true_eq]; exact Or.inr ⟨fun z => c_76 (by rw [z]), Decidable.not_not.mp c_86, Int32.not_lt.mp c_96, Decidable.not_not.mp c_106, Decidable.not_not.mp c_116⟩); simp only [sSet, e2, ↓reduceIte]), by have e2 : sCon S c (nI t) (cC S) = true := sCon_up (k := k + 1) (by omega) (by simp only [sCon, Bool.or_eq_true, decide_eq_true_eq]; exact Or.inr ⟨fun z => c_76 (by rw [z]), Decidable.not_not.mp c_86, Int32.not_lt.mp c_96, Decidable.not_not.mp c_106, Decidable.not_not.mp c_116⟩); simp only [sSetS, e2, ↓reduceIte]⟩

set_option maxRecDepth 4000 in
theorem rX6_settle_yes (d : Nat) {h : Hp} (hM : MOK h) (S : St) (hW : MW S) (c t : Nat) (hc : c < cC S) (ht : t < cT S) (h34 : S 34 c = 0) (h3 : 3 ≤ sTold S c 4) (h1 : sMeans S c (cT S) = 1) (hlast : sLast S c (cT S) = nI t) (hF : FW S t) (hle : sF S t ≤ sL S t + 1) (hO : OW S t) : Res (d + 4) nX6_settle [.ref 10, .int (nI c)] (am_wi h S) (some (.int (sSet S c t))) (am_wi h (sSetS S c t)) := by
  have h5 := hW.1.2
  have h11 := hW.2.1.2
  have h12 := hW.2.2.1.2
  have h29 := hW.2.2.2.2
  refine Res_intro (ls := [some (.ref 10), some (.int (nI c)), none, none, none]) aX6_settle rfl rfl rfl rfl ?_
  show WP kX6_settle _ _ _ _ _ _
  refine wp_aload_n eX6_settle_0 rfl ?_
  refine wp_iload_n eX6_settle_1 rfl ?_
  refine wp_virt (rv := (some (.int (sIn (nI c) 0 (S 10 29 - 1))))) (h' := am_wi h S) (r := []) eX6_settle_2 [.int (nI c)] rfl rfl rfl (show Ob (am_wi h S) 10 6 from hM.ob) (rX6_isClaim _ hM _ _) ?_
  refine wp_ifF eX6_settle_5 (show ¬ ((sIn (nI c) 0 (S 10 29 - 1)) = 0) from (by rw [sIn_in hW.2.2.2.1 hc (by omega)]; decide)) ?_
  refine wp_aload_n eX6_settle_8 rfl ?_
  refine wp_getR (v := 34) eX6_settle_9 (show Ob (am_wi h S) 10 6 from hM.ob) rfl hM.r32 ?_
  refine wp_iload_n eX6_settle_12 rfl ?_
  refine wp_zal (v := S 34 c) (t := c) eX6_settle_13 (show Ar (am_wi h S) 34 8 40 from hM.a34) (by omega) rfl rfl ?_
  refine wp_ifT eX6_settle_14 (show (S 34 c) = 0 from h34) ?_
  refine wp_aload_n eX6_settle_20 rfl ?_
  refine wp_iload_n eX6_settle_21 rfl ?_
  refine wp_virt (rv := (some (.int (sTold S c 4)))) (h' := am_wi h S) (r := []) eX6_settle_22 [.int (nI c)] rfl rfl rfl (show Ob (am_wi h S) 10 6 from hM.ob) (rX6_manyTold _ hM _ _ (by omega)) ?_
  refine wp_iconst (v := 3) eX6_settle_25 rfl ?_
  refine wp_icmpT eX6_settle_26 (show 3 ≤ (sTold S c 4) from h3) ?_
  refine wp_aload_n eX6_settle_32 rfl ?_
  refine wp_iload_n eX6_settle_33 rfl ?_
  refine wp_virt (rv := (some (.int (sMeans S c (cT S))))) (h' := am_wi h S) (r := []) eX6_settle_34 [.int (nI c)] rfl rfl rfl (show Ob (am_wi h S) 10 6 from hM.ob) (rX6_means _ hM _ hW _ (by omega)) ?_
  refine wp_istore_n (ls' := [some (.ref 10), some (.int (nI c)), some (.int (sMeans S c (cT S))), none, none]) eX6_settle_37 rfl rfl ?_
  refine wp_iload_n eX6_settle_38 rfl ?_
  refine wp_iconst (v := 1) eX6_settle_39 rfl ?_
  refine wp_icmpT eX6_settle_40 (show (sMeans S c (cT S)) = 1 from h1) ?_
  refine wp_aload_n eX6_settle_55 rfl ?_
  refine wp_iload_n eX6_settle_56 rfl ?_
  refine wp_virt (rv := (some (.int (sLast S c (cT S))))) (h' := am_wi h S) (r := []) eX6_settle_57 [.int (nI c)] rfl rfl rfl (show Ob (am_wi h S) 10 6 from hM.ob) (rX6_meant _ hM _ hW _ (by omega)) ?_
  refine wp_top (y := nI t) hlast ?_
  refine wp_istore_n (ls' := [some (.ref 10), some (.int (nI c)), some (.int (sMeans S c (cT S))), some (.int (nI t)), none]) eX6_settle_60 rfl rfl ?_
  refine wp_iconst (v := 0) eX6_settle_61 rfl ?_
  refine wp_istore (ls' := [some (.ref 10), some (.int (nI c)), some (.int (sMeans S c (cT S))), some (.int (nI t)), some (.int 0)]) eX6_settle_62 rfl rfl ?_
  exact lX6_settle d hM S hW c t hc ht h34 h3 h1 hlast hF hle hO (cC S) 0 (by omega) rfl

def kPut (s1 h1 m1 d1 : Int32) : Bool := decide (sIn s1 1 20 = 1 ∧ sIn h1 0 2 = 1 ∧ sIn m1 0 65535 = 1 ∧ sIn d1 0 100000 = 1)
def sPut1 (S : St) (s1 h1 c1 l1 m1 d1 : Int32) : St := up2 (up2 (up2 (up2 (up2 (up2 S 21 (cT S) s1) 22 (cT S) h1) 30 (cT S) c1) 31 (cT S) l1) 23 (cT S) m1) 24 (cT S) d1
def sBetter (S : St) (t n : Nat) (b : Int32) : Bool := decide (b < 0 ∨ sMis S t n < sMis S t b.toNatClampNeg ∨ (sMis S t n = sMis S t b.toNatClampNeg ∧ S 18 n < S 18 b.toNatClampNeg))
def sBest (S : St) (t : Nat) : Nat → Int32
  | 0 => -1
  | n + 1 => if sFits S t n = 0 then sBest S t n else if sBetter S t n (sBest S t n) then nI n else sBest S t n
theorem sBest_get {S : St} {t : Nat} : ∀ {n : Nat}, n ≤ 16 → ¬ sBest S t n < 0 → ∃ k, k < n ∧ sBest S t n = nI k := by
  intro n
  induction n with
  | zero => intro _ h; exact absurd (show (-1 : Int32) < 0 by decide) h
  | succ n ih =>
    intro hn h
    unfold sBest at h ⊢
    split
    · rename_i q; rw [if_pos q] at h; obtain ⟨k, h1, h2⟩ := ih (by omega) h; exact ⟨k, by omega, h2⟩
    · rename_i q
      rw [if_neg q] at h
      split
      · exact ⟨n, by omega, rfl⟩
      · rename_i q2; rw [if_neg q2] at h; obtain ⟨k, h1, h2⟩ := ih (by omega) h; exact ⟨k, by omega, h2⟩
def sPut2 (S : St) (t k : Nat) : St := up2 (up2 (up2 (up2 (up2 (up2 (up2 S 25 t (S 10 0)) 26 t 0) 27 t (nI k)) 28 t 0) 29 t (-1)) 10 12 (nI t + 1)) 10 4 (S 10 4 + 2 * S 18 k)
def sPutR (S : St) (t : Nat) : Int32 := if sBest S t (cS S) < 0 then -5 else sTick (nI t)
def sPutS (S : St) (t : Nat) : St := if sBest S t (cS S) < 0 then S else sPut2 S t (sBest S t (cS S)).toNatClampNeg

set_option maxRecDepth 4000 in
theorem lX6_put (d : Nat) {h : Hp} (hM : MOK h) (S : St) (hW : MW S) (u : Nat) (hu : u < 120) (hut : S 10 12 = nI u) (a1 a2 a3 a4 a5 a6 : Int32) : ∀ (n t : Nat) (a : Int32), t + n = cS S → (a = sBest S u t) → WP kX6_put (Res (d + 3)) (fun r1 h1 => r1 = some (.int (sPutR S u)) ∧ h1 = am_wi h (sPutS S u)) 129 [some (.ref 10), some (.int a1), some (.int a2), some (.int a3), some (.int a4), some (.int a5), some (.int a6), some (.int (nI u)), some (.int a), some (.int (nI t))] [] (am_wi h S) := by
  intro n
  induction n with
  | zero =>
    intro t a hn ha
    have h5 := hW.1.2
    have h11 := hW.2.1.2
    have h12 := hW.2.2.1.2
    have h29 := hW.2.2.2.2
    refine wp_iload eX6_put_129 rfl ?_
    refine wp_aload_n eX6_put_131 rfl ?_
    refine wp_getI (v := S 10 11) eX6_put_132 (show Ob (am_wi h S) 10 6 from hM.ob) rfl rfl ?_
    refine wp_icmpT eX6_put_135 (show (S 10 11) ≤ (nI t) from (lp_ge hW.2.1.1 (by omega) (by omega))) ?_
    have ea : a = sBest S u (cS S) := by rw [ha, show t = cS S by omega]
    rw [ea]
    refine wp_iload eX6_put_222 rfl ?_
    refine wp_if eX6_put_224 (fun (c_224 : 0 ≤ (sBest S u (cS S))) => ?_) (fun (c_224 : ¬ (0 ≤ (sBest S u (cS S)))) => ?_)
    · obtain ⟨k0, hk0, ek0⟩ := sBest_get (by omega) (Int32.not_lt.mpr c_224)
      have ec0 : (nI k0).toNatClampNeg = k0 := nI_clamp (by omega)
      rw [ek0]
      refine wp_aload_n eX6_put_230 rfl ?_
      refine wp_getR (v := 25) eX6_put_231 (show Ob (am_wi h S) 10 6 from hM.ob) rfl hM.r22 ?_
      refine wp_iload eX6_put_234 rfl ?_
      refine wp_aload_n eX6_put_236 rfl ?_
      refine wp_getI (v := S 10 0) eX6_put_237 (show Ob (am_wi h S) 10 6 from hM.ob) rfl rfl ?_
      refine wp_ias (t := u) (h' := am_wi h (up2 S 25 u (S 10 0))) eX6_put_240 (show Ar (am_wi h S) 25 7 120 from hM.a25) (by omega) rfl (am_wi_set _ _ _ _ _ rfl rfl) ?_
      refine wp_aload_n eX6_put_241 rfl ?_
      refine wp_getR (v := 26) eX6_put_242 (show Ob (am_wi h (up2 S 25 u (S 10 0))) 10 6 from hM.ob) rfl hM.r23 ?_
      refine wp_iload eX6_put_245 rfl ?_
      refine wp_iconst (v := 0) eX6_put_247 rfl ?_
      refine wp_ias (t := u) (h' := am_wi h (up2 (up2 S 25 u (S 10 0)) 26 u 0)) eX6_put_248 (show Ar (am_wi h (up2 S 25 u (S 10 0))) 26 7 120 from hM.a26) (by omega) rfl (am_wi_set _ _ _ _ _ rfl rfl) ?_
      refine wp_aload_n eX6_put_249 rfl ?_
      refine wp_getR (v := 27) eX6_put_250 (show Ob (am_wi h (up2 (up2 S 25 u (S 10 0)) 26 u 0)) 10 6 from hM.ob) rfl hM.r24 ?_
      refine wp_iload eX6_put_253 rfl ?_
      refine wp_iload eX6_put_255 rfl ?_
      refine wp_ias (t := u) (h' := am_wi h (up2 (up2 (up2 S 25 u (S 10 0)) 26 u 0) 27 u (nI k0))) eX6_put_257 (show Ar (am_wi h (up2 (up2 S 25 u (S 10 0)) 26 u 0)) 27 7 120 from hM.a27) (by omega) rfl (am_wi_set _ _ _ _ _ rfl rfl) ?_
      refine wp_aload_n eX6_put_258 rfl ?_
      refine wp_getR (v := 28) eX6_put_259 (show Ob (am_wi h (up2 (up2 (up2 S 25 u (S 10 0)) 26 u 0) 27 u (nI k0))) 10 6 from hM.ob) rfl hM.r25 ?_
      refine wp_iload eX6_put_262 rfl ?_
      refine wp_iconst (v := 0) eX6_put_264 rfl ?_
      refine wp_ias (t := u) (h' := am_wi h (up2 (up2 (up2 (up2 S 25 u (S 10 0)) 26 u 0) 27 u (nI k0)) 28 u 0)) eX6_put_265 (show Ar (am_wi h (up2 (up2 (up2 S 25 u (S 10 0)) 26 u 0) 27 u (nI k0))) 28 7 120 from hM.a28) (by omega) rfl (am_wi_set _ _ _ _ _ rfl rfl) ?_
      refine wp_aload_n eX6_put_266 rfl ?_
      refine wp_getR (v := 29) eX6_put_267 (show Ob (am_wi h (up2 (up2 (up2 (up2 S 25 u (S 10 0)) 26 u 0) 27 u (nI k0)) 28 u 0)) 10 6 from hM.ob) rfl hM.r26 ?_
      refine wp_iload eX6_put_270 rfl ?_
      refine wp_iconst (v := (-1)) eX6_put_272 rfl ?_
      refine wp_ias (t := u) (h' := am_wi h (up2 (up2 (up2 (up2 (up2 S 25 u (S 10 0)) 26 u 0) 27 u (nI k0)) 28 u 0) 29 u ((-1)))) eX6_put_273 (show Ar (am_wi h (up2 (up2 (up2 (up2 S 25 u (S 10 0)) 26 u 0) 27 u (nI k0)) 28 u 0)) 29 7 120 from hM.a29) (by omega) rfl (am_wi_set _ _ _ _ _ rfl rfl) ?_
      refine wp_aload_n eX6_put_274 rfl ?_
      refine wp_dup eX6_put_275 rfl ?_
      refine wp_getI (v := nI u) eX6_put_276 (show Ob (am_wi h (up2 (up2 (up2 (up2 (up2 S 25 u (S 10 0)) 26 u 0) 27 u (nI k0)) 28 u 0) 29 u ((-1)))) 10 6 from hM.ob) rfl hut ?_
      refine wp_iconst (v := 1) eX6_put_279 rfl ?_
      refine wp_iadd eX6_put_280 ?_
      refine wp_putI (h' := am_wi h (up2 (up2 (up2 (up2 (up2 (up2 S 25 u (S 10 0)) 26 u 0) 27 u (nI k0)) 28 u 0) 29 u ((-1))) 10 12 ((nI u) + 1))) eX6_put_281 (show Ob (am_wi h (up2 (up2 (up2 (up2 (up2 S 25 u (S 10 0)) 26 u 0) 27 u (nI k0)) 28 u 0) 29 u ((-1)))) 10 6 from hM.ob) rfl (am_wi_set _ _ _ _ _ rfl rfl) ?_
      refine wp_aload_n eX6_put_284 rfl ?_
      refine wp_dup eX6_put_285 rfl ?_
      refine wp_getI (v := S 10 4) eX6_put_286 (show Ob (am_wi h (up2 (up2 (up2 (up2 (up2 (up2 S 25 u (S 10 0)) 26 u 0) 27 u (nI k0)) 28 u 0) 29 u ((-1))) 10 12 ((nI u) + 1))) 10 6 from hM.ob) rfl rfl ?_
      refine wp_iconst (v := 2) eX6_put_289 rfl ?_
      refine wp_aload_n eX6_put_290 rfl ?_
      refine wp_getR (v := 18) eX6_put_291 (show Ob (am_wi h (up2 (up2 (up2 (up2 (up2 (up2 S 25 u (S 10 0)) 26 u 0) 27 u (nI k0)) 28 u 0) 29 u ((-1))) 10 12 ((nI u) + 1))) 10 6 from hM.ob) rfl hM.r15 ?_
      refine wp_iload eX6_put_294 rfl ?_
      refine wp_ial (v := S 18 k0) (t := k0) eX6_put_296 (show Ar (am_wi h (up2 (up2 (up2 (up2 (up2 (up2 S 25 u (S 10 0)) 26 u 0) 27 u (nI k0)) 28 u 0) 29 u ((-1))) 10 12 ((nI u) + 1))) 18 7 16 from hM.a18) (by omega) rfl rfl ?_
      refine wp_imul eX6_put_297 ?_
      refine wp_iadd eX6_put_298 ?_
      refine wp_putI (h' := am_wi h (up2 (up2 (up2 (up2 (up2 (up2 (up2 S 25 u (S 10 0)) 26 u 0) 27 u (nI k0)) 28 u 0) 29 u ((-1))) 10 12 ((nI u) + 1)) 10 4 ((S 10 4) + (2 * (S 18 k0))))) eX6_put_299 (show Ob (am_wi h (up2 (up2 (up2 (up2 (up2 (up2 S 25 u (S 10 0)) 26 u 0) 27 u (nI k0)) 28 u 0) 29 u ((-1))) 10 12 ((nI u) + 1))) 10 6 from hM.ob) rfl (am_wi_set _ _ _ _ _ rfl rfl) ?_
      refine wp_iload eX6_put_302 rfl ?_
      refine wp_stat (rv := (some (.int (sTick (nI u))))) (h' := am_wi h (up2 (up2 (up2 (up2 (up2 (up2 (up2 S 25 u (S 10 0)) 26 u 0) 27 u (nI k0)) 28 u 0) 29 u ((-1))) 10 12 ((nI u) + 1)) 10 4 ((S 10 4) + (2 * (S 18 k0))))) (r := []) eX6_put_304 [.int (nI u)] rfl rfl rfl rfl (rX6_ticketOf _ _ _) ?_
      exact wp_iret eX6_put_307 ⟨congrArg (fun z => some (Value.int z)) (by unfold sPutR; rw [ek0, if_neg (nI_pos (by omega))]), by unfold sPutS; rw [ek0, if_neg (nI_pos (by omega)), ec0]; rfl⟩
    · refine wp_bipush (v := (-5)) eX6_put_227 rfl ?_
      exact wp_iret eX6_put_229 ⟨congrArg (fun z => some (Value.int z)) (by unfold sPutR; rw [if_pos (Int32.not_le.mp c_224)]), by unfold sPutS; rw [if_pos (Int32.not_le.mp c_224)]⟩
  | succ n ih =>
    intro t a hn ha
    have h5 := hW.1.2
    have h11 := hW.2.1.2
    have h12 := hW.2.2.1.2
    have h29 := hW.2.2.2.2
    refine wp_iload eX6_put_129 rfl ?_
    refine wp_aload_n eX6_put_131 rfl ?_
    refine wp_getI (v := S 10 11) eX6_put_132 (show Ob (am_wi h S) 10 6 from hM.ob) rfl rfl ?_
    refine wp_icmpF eX6_put_135 (show ¬ ((S 10 11) ≤ (nI t)) from (lp_lt hW.2.1.1 (by omega) (by omega))) ?_
    refine wp_aload_n eX6_put_138 rfl ?_
    refine wp_iload eX6_put_139 rfl ?_
    refine wp_iload eX6_put_141 rfl ?_
    refine wp_virt (rv := (some (.int (sFits S u t)))) (h' := am_wi h S) (r := []) eX6_put_143 [.int (nI u), .int (nI t)] rfl rfl rfl (show Ob (am_wi h S) 10 6 from hM.ob) (rX6_fits _ hM _ hW _ _ (by omega) (by omega)) ?_
    refine wp_if eX6_put_146 (fun (c_146 : ¬ (sFits S u t) = 0) => ?_) (fun (c_146 : ¬ (¬ (sFits S u t) = 0)) => ?_)
    · refine wp_iload eX6_put_152 rfl ?_
      refine wp_if eX6_put_154 (fun (c_154 : a < 0) => ?_) (fun (c_154 : ¬ (a < 0)) => ?_)
      · refine wp_iload eX6_put_212 rfl ?_
        refine wp_istore (ls' := [some (.ref 10), some (.int a1), some (.int a2), some (.int a3), some (.int a4), some (.int a5), some (.int a6), some (.int (nI u)), some (.int (nI t)), some (.int (nI t))]) eX6_put_214 rfl rfl ?_
        refine wp_iinc (v := nI (t + 1)) (ls' := [some (.ref 10), some (.int a1), some (.int a2), some (.int a3), some (.int a4), some (.int a5), some (.int a6), some (.int (nI u)), some (.int (nI t)), some (.int (nI (t + 1)))]) eX6_put_216 rfl (nI_1 t) rfl ?_
        refine wp_goto eX6_put_219 ?_
        exact ih (t + 1) _ (by omega) (by simp only [sBest]; first | (rw [if_pos (Decidable.not_not.mp c_146)]; exact ha) | (rw [if_neg c_146, if_pos (by simp only [sBetter, decide_eq_true_eq]; rw [← ha]; exact Or.inl c_154)]; done) | (rw [if_neg c_146, if_pos (by simp only [sBetter, decide_eq_true_eq]; rw [ek0, ec0]; exact Or.inr (Or.inl c_173))]; done) | (rw [if_neg c_146, if_pos (by simp only [sBetter, decide_eq_true_eq]; rw [ek0, ec0]; exact Or.inr (Or.inr ⟨Decidable.not_not.mp c_192, Int32.not_le.mp c_209⟩))]; done) | (rw [if_neg c_146, if_neg (by simp only [sBetter, decide_eq_true_eq]; rw [ek0, ec0]; rintro (z | z | z); exact nI_pos (by omega) z; exact c_173 z; exact c_192 z.1)]; exact ek0.symm) | (rw [if_neg c_146, if_neg (by simp only [sBetter, decide_eq_true_eq]; rw [ek0, ec0]; rintro (z | z | z); exact nI_pos (by omega) z; exact c_173 z; exact absurd z.2 (Int32.not_lt.mpr c_209))]; exact ek0.symm))
      · obtain ⟨k0, hk0, ek0⟩ := sBest_get (S := S) (t := u) (n := t) (by omega) (by rw [← ha]; exact c_154)
        have ec0 : (nI k0).toNatClampNeg = k0 := nI_clamp (by omega)
        have ea : a = nI k0 := ha.trans ek0
        rw [ea]
        refine wp_aload_n eX6_put_157 rfl ?_
        refine wp_iload eX6_put_158 rfl ?_
        refine wp_iload eX6_put_160 rfl ?_
        refine wp_virt (rv := (some (.int (sMis S u t)))) (h' := am_wi h S) (r := []) eX6_put_162 [.int (nI u), .int (nI t)] rfl rfl rfl (show Ob (am_wi h S) 10 6 from hM.ob) (rX6_misfitOn _ hM _ _ _ (by omega) (by omega)) ?_
        refine wp_aload_n eX6_put_165 rfl ?_
        refine wp_iload eX6_put_166 rfl ?_
        refine wp_iload eX6_put_168 rfl ?_
        refine wp_virt (rv := (some (.int (sMis S u k0)))) (h' := am_wi h S) (r := [.int (sMis S u t)]) eX6_put_170 [.int (nI u), .int (nI k0)] rfl rfl rfl (show Ob (am_wi h S) 10 6 from hM.ob) (rX6_misfitOn _ hM _ _ _ (by omega) (by omega)) ?_
        refine wp_icmp eX6_put_173 (fun (c_173 : (sMis S u t) < (sMis S u k0)) => ?_) (fun (c_173 : ¬ ((sMis S u t) < (sMis S u k0))) => ?_)
        · refine wp_iload eX6_put_212 rfl ?_
          refine wp_istore (ls' := [some (.ref 10), some (.int a1), some (.int a2), some (.int a3), some (.int a4), some (.int a5), some (.int a6), some (.int (nI u)), some (.int (nI t)), some (.int (nI t))]) eX6_put_214 rfl rfl ?_
          refine wp_iinc (v := nI (t + 1)) (ls' := [some (.ref 10), some (.int a1), some (.int a2), some (.int a3), some (.int a4), some (.int a5), some (.int a6), some (.int (nI u)), some (.int (nI t)), some (.int (nI (t + 1)))]) eX6_put_216 rfl (nI_1 t) rfl ?_
          refine wp_goto eX6_put_219 ?_
          exact ih (t + 1) _ (by omega) (by simp only [sBest]; first | (rw [if_pos (Decidable.not_not.mp c_146)]; exact ha) | (rw [if_neg c_146, if_pos (by simp only [sBetter, decide_eq_true_eq]; rw [← ha]; exact Or.inl c_154)]; done) | (rw [if_neg c_146, if_pos (by simp only [sBetter, decide_eq_true_eq]; rw [ek0, ec0]; exact Or.inr (Or.inl c_173))]; done) | (rw [if_neg c_146, if_pos (by simp only [sBetter, decide_eq_true_eq]; rw [ek0, ec0]; exact Or.inr (Or.inr ⟨Decidable.not_not.mp c_192, Int32.not_le.mp c_209⟩))]; done) | (rw [if_neg c_146, if_neg (by simp only [sBetter, decide_eq_true_eq]; rw [ek0, ec0]; rintro (z | z | z); exact nI_pos (by omega) z; exact c_173 z; exact c_192 z.1)]; exact ek0.symm) | (rw [if_neg c_146, if_neg (by simp only [sBetter, decide_eq_true_eq]; rw [ek0, ec0]; rintro (z | z | z); exact nI_pos (by omega) z; exact c_173 z; exact absurd z.2 (Int32.not_lt.mpr c_209))]; exact ek0.symm))
        · refine wp_aload_n eX6_put_176 rfl ?_
          refine wp_iload eX6_put_177 rfl ?_
          refine wp_iload eX6_put_179 rfl ?_
          refine wp_virt (rv := (some (.int (sMis S u t)))) (h' := am_wi h S) (r := []) eX6_put_181 [.int (nI u), .int (nI t)] rfl rfl rfl (show Ob (am_wi h S) 10 6 from hM.ob) (rX6_misfitOn _ hM _ _ _ (by omega) (by omega)) ?_
          refine wp_aload_n eX6_put_184 rfl ?_
          refine wp_iload eX6_put_185 rfl ?_
          refine wp_iload eX6_put_187 rfl ?_
          refine wp_virt (rv := (some (.int (sMis S u k0)))) (h' := am_wi h S) (r := [.int (sMis S u t)]) eX6_put_189 [.int (nI u), .int (nI k0)] rfl rfl rfl (show Ob (am_wi h S) 10 6 from hM.ob) (rX6_misfitOn _ hM _ _ _ (by omega) (by omega)) ?_
          refine wp_icmp eX6_put_192 (fun (c_192 : ¬ (sMis S u t) = (sMis S u k0)) => ?_) (fun (c_192 : ¬ (¬ (sMis S u t) = (sMis S u k0))) => ?_)
          · refine wp_iinc (v := nI (t + 1)) (ls' := [some (.ref 10), some (.int a1), some (.int a2), some (.int a3), some (.int a4), some (.int a5), some (.int a6), some (.int (nI u)), some (.int (nI k0)), some (.int (nI (t + 1)))]) eX6_put_216 rfl (nI_1 t) rfl ?_
            refine wp_goto eX6_put_219 ?_
            exact ih (t + 1) _ (by omega) (by simp only [sBest]; first | (rw [if_pos (Decidable.not_not.mp c_146)]; exact ha) | (rw [if_neg c_146, if_pos (by simp only [sBetter, decide_eq_true_eq]; rw [← ha]; exact Or.inl c_154)]; done) | (rw [if_neg c_146, if_pos (by simp only [sBetter, decide_eq_true_eq]; rw [ek0, ec0]; exact Or.inr (Or.inl c_173))]; done) | (rw [if_neg c_146, if_pos (by simp only [sBetter, decide_eq_true_eq]; rw [ek0, ec0]; exact Or.inr (Or.inr ⟨Decidable.not_not.mp c_192, Int32.not_le.mp c_209⟩))]; done) | (rw [if_neg c_146, if_neg (by simp only [sBetter, decide_eq_true_eq]; rw [ek0, ec0]; rintro (z | z | z); exact nI_pos (by omega) z; exact c_173 z; exact c_192 z.1)]; exact ek0.symm) | (rw [if_neg c_146, if_neg (by simp only [sBetter, decide_eq_true_eq]; rw [ek0, ec0]; rintro (z | z | z); exact nI_pos (by omega) z; exact c_173 z; exact absurd z.2 (Int32.not_lt.mpr c_209))]; exact ek0.symm))
          · refine wp_aload_n eX6_put_195 rfl ?_
            refine wp_getR (v := 18) eX6_put_196 (show Ob (am_wi h S) 10 6 from hM.ob) rfl hM.r15 ?_
            refine wp_iload eX6_put_199 rfl ?_
            refine wp_ial (v := S 18 t) (t := t) eX6_put_201 (show Ar (am_wi h S) 18 7 16 from hM.a18) (by omega) rfl rfl ?_
            refine wp_aload_n eX6_put_202 rfl ?_
            refine wp_getR (v := 18) eX6_put_203 (show Ob (am_wi h S) 10 6 from hM.ob) rfl hM.r15 ?_
            refine wp_iload eX6_put_206 rfl ?_
            refine wp_ial (v := S 18 k0) (t := k0) eX6_put_208 (show Ar (am_wi h S) 18 7 16 from hM.a18) (by omega) rfl rfl ?_
            refine wp_icmp eX6_put_209 (fun (c_209 : (S 18 k0) ≤ (S 18 t)) => ?_) (fun (c_209 : ¬ ((S 18 k0) ≤ (S 18 t))) => ?_)
            · refine wp_iinc (v := nI (t + 1)) (ls' := [some (.ref 10), some (.int a1), some (.int a2), some (.int a3), some (.int a4), some (.int a5), some (.int a6), some (.int (nI u)), some (.int (nI k0)), some (.int (nI (t + 1)))]) eX6_put_216 rfl (nI_1 t) rfl ?_
              refine wp_goto eX6_put_219 ?_
              exact ih (t + 1) _ (by omega) (by simp only [sBest]; first | (rw [if_pos (Decidable.not_not.mp c_146)]; exact ha) | (rw [if_neg c_146, if_pos (by simp only [sBetter, decide_eq_true_eq]; rw [← ha]; exact Or.inl c_154)]; done) | (rw [if_neg c_146, if_pos (by simp only [sBetter, decide_eq_true_eq]; rw [ek0, ec0]; exact Or.inr (Or.inl c_173))]; done) | (rw [if_neg c_146, if_pos (by simp only [sBetter, decide_eq_true_eq]; rw [ek0, ec0]; exact Or.inr (Or.inr ⟨Decidable.not_not.mp c_192, Int32.not_le.mp c_209⟩))]; done) | (rw [if_neg c_146, if_neg (by simp only [sBetter, decide_eq_true_eq]; rw [ek0, ec0]; rintro (z | z | z); exact nI_pos (by omega) z; exact c_173 z; exact c_192 z.1)]; exact ek0.symm) | (rw [if_neg c_146, if_neg (by simp only [sBetter, decide_eq_true_eq]; rw [ek0, ec0]; rintro (z | z | z); exact nI_pos (by omega) z; exact c_173 z; exact absurd z.2 (Int32.not_lt.mpr c_209))]; exact ek0.symm))
            · refine wp_iload eX6_put_212 rfl ?_
              refine wp_istore (ls' := [some (.ref 10), some (.int a1), some (.int a2), some (.int a3), some (.int a4), some (.int a5), some (.int a6), some (.int (nI u)), some (.int (nI t)), some (.int (nI t))]) eX6_put_214 rfl rfl ?_
              refine wp_iinc (v := nI (t + 1)) (ls' := [some (.ref 10), some (.int a1), some (.int a2), some (.int a3), some (.int a4), some (.int a5), some (.int a6), some (.int (nI u)), some (.int (nI t)), some (.int (nI (t + 1)))]) eX6_put_216 rfl (nI_1 t) rfl ?_
              refine wp_goto eX6_put_219 ?_
              exact ih (t + 1) _ (by omega) (by simp only [sBest]; first | (rw [if_pos (Decidable.not_not.mp c_146)]; exact ha) | (rw [if_neg c_146, if_pos (by simp only [sBetter, decide_eq_true_eq]; rw [← ha]; exact Or.inl c_154)]; done) | (rw [if_neg c_146, if_pos (by simp only [sBetter, decide_eq_true_eq]; rw [ek0, ec0]; exact Or.inr (Or.inl c_173))]; done) | (rw [if_neg c_146, if_pos (by simp only [sBetter, decide_eq_true_eq]; rw [ek0, ec0]; exact Or.inr (Or.inr ⟨Decidable.not_not.mp c_192, Int32.not_le.mp c_209⟩))]; done) | (rw [if_neg c_146, if_neg (by simp only [sBetter, decide_eq_true_eq]; rw [ek0, ec0]; rintro (z | z | z); exact nI_pos (by omega) z; exact c_173 z; exact c_192 z.1)]; exact ek0.symm) | (rw [if_neg c_146, if_neg (by simp only [sBetter, decide_eq_true_eq]; rw [ek0, ec0]; rintro (z | z | z); exact nI_pos (by omega) z; exact c_173 z; exact absurd z.2 (Int32.not_lt.mpr c_209))]; exact ek0.symm))
    · refine wp_goto eX6_put_149 ?_
      refine wp_iinc (v := nI (t + 1)) (ls' := [some (.ref 10), some (.int a1), some (.int a2), some (.int a3), some (.int a4), some (.int a5), some (.int a6), some (.int (nI u)), some (.int a), some (.int (nI (t + 1)))]) eX6_put_216 rfl (nI_1 t) rfl ?_
      refine wp_goto eX6_put_219 ?_
      exact ih (t + 1) _ (by omega) (by simp only [sBest]; first | (rw [if_pos (Decidable.not_not.mp c_146)]; exact ha) | (rw [if_neg c_146, if_pos (by simp only [sBetter, decide_eq_true_eq]; rw [← ha]; exact Or.inl c_154)]; done) | (rw [if_neg c_146, if_pos (by simp only [sBetter, decide_eq_true_eq]; rw [ek0, ec0]; exact Or.inr (Or.inl c_173))]; done) | (rw [if_neg c_146, if_pos (by simp only [sBetter, decide_eq_true_eq]; rw [ek0, ec0]; exact Or.inr (Or.inr ⟨Decidable.not_not.mp c_192, Int32.not_le.mp c_209⟩))]; done) | (rw [if_neg c_146, if_neg (by simp only [sBetter, decide_eq_true_eq]; rw [ek0, ec0]; rintro (z | z | z); exact nI_pos (by omega) z; exact c_173 z; exact c_192 z.1)]; exact ek0.symm) | (rw [if_neg c_146, if_neg (by simp only [sBetter, decide_eq_true_eq]; rw [ek0, ec0]; rintro (z | z | z); exact nI_pos (by omega) z; exact c_173 z; exact absurd z.2 (Int32.not_lt.mpr c_209))]; exact ek0.symm))

def sPutA (S : St) (s1 h1 c1 l1 m1 d1 : Int32) : Int32 := if kPut s1 h1 m1 d1 = false then -2 else if sOpen S = 0 then -3 else if S 10 12 = 120 then -4 else sPutR (sPut1 S s1 h1 c1 l1 m1 d1) (cT S)
def sPutB (S : St) (s1 h1 c1 l1 m1 d1 : Int32) : St := if kPut s1 h1 m1 d1 = false then S else if sOpen S = 0 then S else if S 10 12 = 120 then S else sPutS (sPut1 S s1 h1 c1 l1 m1 d1) (cT S)

set_option maxRecDepth 4000 in
theorem rX6_put (d : Nat) {h : Hp} (hM : MOK h) (S : St) (hW : MW S) (s1 h1 c1 l1 m1 d1 : Int32) (hc1 : c1 = 0 ∨ c1 = 1) (hl1 : l1 = 0 ∨ l1 = 1) : Res (d + 4) nX6_put [.ref 10, .int s1, .int h1, .int c1, .int l1, .int m1, .int d1] (am_wi h S) (some (.int (sPutA S s1 h1 c1 l1 m1 d1))) (am_wi h (sPutB S s1 h1 c1 l1 m1 d1)) := by
  have h5 := hW.1.2
  have h11 := hW.2.1.2
  have h12 := hW.2.2.1.2
  have h29 := hW.2.2.2.2
  have z0 := sIn_01 s1 1 20
  have z1 := sIn_01 h1 0 2
  have z2 := sIn_01 m1 0 65535
  have z3 := sIn_01 d1 0 100000
  refine Res_intro (ls := [some (.ref 10), some (.int s1), some (.int h1), some (.int c1), some (.int l1), some (.int m1), some (.int d1), none, none, none]) aX6_put rfl rfl rfl rfl ?_
  show WP kX6_put _ _ _ _ _ _
  refine wp_iload_n eX6_put_0 rfl ?_
  refine wp_iconst (v := 1) eX6_put_1 rfl ?_
  refine wp_bipush (v := 20) eX6_put_2 rfl ?_
  refine wp_stat (rv := (some (.int (sIn s1 1 20)))) (h' := am_wi h S) (r := []) eX6_put_4 [.int s1, .int 1, .int 20] rfl rfl rfl rfl (rX6_in _ _ _ _ _) ?_
  refine wp_if eX6_put_7 (fun (c_7 : (sIn s1 1 20) = 0) => ?_) (fun (c_7 : ¬ ((sIn s1 1 20) = 0)) => ?_)
  · refine wp_bipush (v := (-2)) eX6_put_41 rfl ?_
    exact wp_iret eX6_put_43 ⟨congrArg (fun z => some (Value.int z)) (by unfold sPutA; rw [if_pos (by simp only [kPut, decide_eq_false_iff_not]; intro q; simp_all)]), by unfold sPutB; rw [if_pos (by simp only [kPut, decide_eq_false_iff_not]; intro q; simp_all)]⟩
  · refine wp_iload_n eX6_put_10 rfl ?_
    refine wp_iconst (v := 0) eX6_put_11 rfl ?_
    refine wp_iconst (v := 2) eX6_put_12 rfl ?_
    refine wp_stat (rv := (some (.int (sIn h1 0 2)))) (h' := am_wi h S) (r := []) eX6_put_13 [.int h1, .int 0, .int 2] rfl rfl rfl rfl (rX6_in _ _ _ _ _) ?_
    refine wp_if eX6_put_16 (fun (c_16 : (sIn h1 0 2) = 0) => ?_) (fun (c_16 : ¬ ((sIn h1 0 2) = 0)) => ?_)
    · refine wp_bipush (v := (-2)) eX6_put_41 rfl ?_
      exact wp_iret eX6_put_43 ⟨congrArg (fun z => some (Value.int z)) (by unfold sPutA; rw [if_pos (by simp only [kPut, decide_eq_false_iff_not]; intro q; simp_all)]), by unfold sPutB; rw [if_pos (by simp only [kPut, decide_eq_false_iff_not]; intro q; simp_all)]⟩
    · refine wp_iload eX6_put_19 rfl ?_
      refine wp_iconst (v := 0) eX6_put_21 rfl ?_
      refine wp_ldc (v := 65535) eX6_put_22 rfl ?_
      refine wp_stat (rv := (some (.int (sIn m1 0 65535)))) (h' := am_wi h S) (r := []) eX6_put_24 [.int m1, .int 0, .int 65535] rfl rfl rfl rfl (rX6_in _ _ _ _ _) ?_
      refine wp_if eX6_put_27 (fun (c_27 : (sIn m1 0 65535) = 0) => ?_) (fun (c_27 : ¬ ((sIn m1 0 65535) = 0)) => ?_)
      · refine wp_bipush (v := (-2)) eX6_put_41 rfl ?_
        exact wp_iret eX6_put_43 ⟨congrArg (fun z => some (Value.int z)) (by unfold sPutA; rw [if_pos (by simp only [kPut, decide_eq_false_iff_not]; intro q; simp_all)]), by unfold sPutB; rw [if_pos (by simp only [kPut, decide_eq_false_iff_not]; intro q; simp_all)]⟩
      · refine wp_iload eX6_put_30 rfl ?_
        refine wp_iconst (v := 0) eX6_put_32 rfl ?_
        refine wp_ldc (v := 100000) eX6_put_33 rfl ?_
        refine wp_stat (rv := (some (.int (sIn d1 0 100000)))) (h' := am_wi h S) (r := []) eX6_put_35 [.int d1, .int 0, .int 100000] rfl rfl rfl rfl (rX6_in _ _ _ _ _) ?_
        refine wp_if eX6_put_38 (fun (c_38 : ¬ (sIn d1 0 100000) = 0) => ?_) (fun (c_38 : ¬ (¬ (sIn d1 0 100000) = 0)) => ?_)
        · refine wp_aload_n eX6_put_44 rfl ?_
          refine wp_virt (rv := (some (.int (sOpen S)))) (h' := am_wi h S) (r := []) eX6_put_45 [] rfl rfl rfl (show Ob (am_wi h S) 10 6 from hM.ob) (rX6_isOpen _ hM _) ?_
          refine wp_if eX6_put_48 (fun (c_48 : ¬ (sOpen S) = 0) => ?_) (fun (c_48 : ¬ (¬ (sOpen S) = 0)) => ?_)
          · refine wp_aload_n eX6_put_54 rfl ?_
            refine wp_getI (v := S 10 12) eX6_put_55 (show Ob (am_wi h S) 10 6 from hM.ob) rfl rfl ?_
            refine wp_bipush (v := 120) eX6_put_58 rfl ?_
            refine wp_icmp eX6_put_60 (fun (c_60 : ¬ (S 10 12) = 120) => ?_) (fun (c_60 : ¬ (¬ (S 10 12) = 120)) => ?_)
            · have hlt := cnt_ne hW.2.2.1.1 (show (120 : Int32) = nI 120 from rfl) (by omega) c_60 hW.2.2.1.2
              refine wp_aload_n eX6_put_66 rfl ?_
              refine wp_getI (v := nI (cT S)) eX6_put_67 (show Ob (am_wi h S) 10 6 from hM.ob) rfl hW.2.2.1.1 ?_
              refine wp_istore (ls' := [some (.ref 10), some (.int s1), some (.int h1), some (.int c1), some (.int l1), some (.int m1), some (.int d1), some (.int (nI (cT S))), none, none]) eX6_put_70 rfl rfl ?_
              refine wp_aload_n eX6_put_72 rfl ?_
              refine wp_getR (v := 21) eX6_put_73 (show Ob (am_wi h S) 10 6 from hM.ob) rfl hM.r18 ?_
              refine wp_iload eX6_put_76 rfl ?_
              refine wp_iload_n eX6_put_78 rfl ?_
              refine wp_ias (t := cT S) (h' := am_wi h (up2 S 21 (cT S) s1)) eX6_put_79 (show Ar (am_wi h S) 21 7 120 from hM.a21) (by omega) rfl (am_wi_set _ _ _ _ _ rfl rfl) ?_
              refine wp_aload_n eX6_put_80 rfl ?_
              refine wp_getR (v := 22) eX6_put_81 (show Ob (am_wi h (up2 S 21 (cT S) s1)) 10 6 from hM.ob) rfl hM.r19 ?_
              refine wp_iload eX6_put_84 rfl ?_
              refine wp_iload_n eX6_put_86 rfl ?_
              refine wp_ias (t := cT S) (h' := am_wi h (up2 (up2 S 21 (cT S) s1) 22 (cT S) h1)) eX6_put_87 (show Ar (am_wi h (up2 S 21 (cT S) s1)) 22 7 120 from hM.a22) (by omega) rfl (am_wi_set _ _ _ _ _ rfl rfl) ?_
              refine wp_aload_n eX6_put_88 rfl ?_
              refine wp_getR (v := 30) eX6_put_89 (show Ob (am_wi h (up2 (up2 S 21 (cT S) s1) 22 (cT S) h1)) 10 6 from hM.ob) rfl hM.r27 ?_
              refine wp_iload eX6_put_92 rfl ?_
              refine wp_iload_n eX6_put_94 rfl ?_
              refine wp_zas (t := cT S) (h' := am_wi h (up2 (up2 (up2 S 21 (cT S) s1) 22 (cT S) h1) 30 (cT S) c1)) eX6_put_95 (show Ar (am_wi h (up2 (up2 S 21 (cT S) s1) 22 (cT S) h1)) 30 8 120 from hM.a30) (by omega) rfl hc1 (am_wi_set _ _ _ _ _ rfl rfl) ?_
              refine wp_aload_n eX6_put_96 rfl ?_
              refine wp_getR (v := 31) eX6_put_97 (show Ob (am_wi h (up2 (up2 (up2 S 21 (cT S) s1) 22 (cT S) h1) 30 (cT S) c1)) 10 6 from hM.ob) rfl hM.r28 ?_
              refine wp_iload eX6_put_100 rfl ?_
              refine wp_iload eX6_put_102 rfl ?_
              refine wp_zas (t := cT S) (h' := am_wi h (up2 (up2 (up2 (up2 S 21 (cT S) s1) 22 (cT S) h1) 30 (cT S) c1) 31 (cT S) l1)) eX6_put_104 (show Ar (am_wi h (up2 (up2 (up2 S 21 (cT S) s1) 22 (cT S) h1) 30 (cT S) c1)) 31 8 120 from hM.a31) (by omega) rfl hl1 (am_wi_set _ _ _ _ _ rfl rfl) ?_
              refine wp_aload_n eX6_put_105 rfl ?_
              refine wp_getR (v := 23) eX6_put_106 (show Ob (am_wi h (up2 (up2 (up2 (up2 S 21 (cT S) s1) 22 (cT S) h1) 30 (cT S) c1) 31 (cT S) l1)) 10 6 from hM.ob) rfl hM.r20 ?_
              refine wp_iload eX6_put_109 rfl ?_
              refine wp_iload eX6_put_111 rfl ?_
              refine wp_ias (t := cT S) (h' := am_wi h (up2 (up2 (up2 (up2 (up2 S 21 (cT S) s1) 22 (cT S) h1) 30 (cT S) c1) 31 (cT S) l1) 23 (cT S) m1)) eX6_put_113 (show Ar (am_wi h (up2 (up2 (up2 (up2 S 21 (cT S) s1) 22 (cT S) h1) 30 (cT S) c1) 31 (cT S) l1)) 23 7 120 from hM.a23) (by omega) rfl (am_wi_set _ _ _ _ _ rfl rfl) ?_
              refine wp_aload_n eX6_put_114 rfl ?_
              refine wp_getR (v := 24) eX6_put_115 (show Ob (am_wi h (up2 (up2 (up2 (up2 (up2 S 21 (cT S) s1) 22 (cT S) h1) 30 (cT S) c1) 31 (cT S) l1) 23 (cT S) m1)) 10 6 from hM.ob) rfl hM.r21 ?_
              refine wp_iload eX6_put_118 rfl ?_
              refine wp_iload eX6_put_120 rfl ?_
              refine wp_ias (t := cT S) (h' := am_wi h (up2 (up2 (up2 (up2 (up2 (up2 S 21 (cT S) s1) 22 (cT S) h1) 30 (cT S) c1) 31 (cT S) l1) 23 (cT S) m1) 24 (cT S) d1)) eX6_put_122 (show Ar (am_wi h (up2 (up2 (up2 (up2 (up2 S 21 (cT S) s1) 22 (cT S) h1) 30 (cT S) c1) 31 (cT S) l1) 23 (cT S) m1)) 24 7 120 from hM.a24) (by omega) rfl (am_wi_set _ _ _ _ _ rfl rfl) ?_
              refine wp_iconst (v := (-1)) eX6_put_123 rfl ?_
              refine wp_istore (ls' := [some (.ref 10), some (.int s1), some (.int h1), some (.int c1), some (.int l1), some (.int m1), some (.int d1), some (.int (nI (cT S))), some (.int ((-1))), none]) eX6_put_124 rfl rfl ?_
              refine wp_iconst (v := 0) eX6_put_126 rfl ?_
              refine wp_istore (ls' := [some (.ref 10), some (.int s1), some (.int h1), some (.int c1), some (.int l1), some (.int m1), some (.int d1), some (.int (nI (cT S))), some (.int ((-1))), some (.int 0)]) eX6_put_127 rfl rfl ?_
              have eA : sPutA S s1 h1 c1 l1 m1 d1 = sPutR (sPut1 S s1 h1 c1 l1 m1 d1) (cT S) := by unfold sPutA; rw [(show kPut s1 h1 m1 d1 = true by simp only [kPut, decide_eq_true_eq]; simp_all)]; simp [c_48, c_60]
              have eB : sPutB S s1 h1 c1 l1 m1 d1 = sPutS (sPut1 S s1 h1 c1 l1 m1 d1) (cT S) := by unfold sPutB; rw [(show kPut s1 h1 m1 d1 = true by simp only [kPut, decide_eq_true_eq]; simp_all)]; simp [c_48, c_60]
              rw [eA, eB]
              exact lX6_put d hM (sPut1 S s1 h1 c1 l1 m1 d1) hW (cT S) (by omega) hW.2.2.1.1 s1 h1 c1 l1 m1 d1 (cS S) 0 _ (by show 0 + cS S = cS S; omega) rfl
            · refine wp_bipush (v := (-4)) eX6_put_63 rfl ?_
              exact wp_iret eX6_put_65 ⟨congrArg (fun z => some (Value.int z)) (by unfold sPutA; rw [(show kPut s1 h1 m1 d1 = true by simp only [kPut, decide_eq_true_eq]; simp_all)]; simp [c_48, Decidable.not_not.mp c_60]), by unfold sPutB; rw [(show kPut s1 h1 m1 d1 = true by simp only [kPut, decide_eq_true_eq]; simp_all)]; simp [c_48, Decidable.not_not.mp c_60]⟩
          · refine wp_bipush (v := (-3)) eX6_put_51 rfl ?_
            exact wp_iret eX6_put_53 ⟨congrArg (fun z => some (Value.int z)) (by unfold sPutA; rw [(show kPut s1 h1 m1 d1 = true by simp only [kPut, decide_eq_true_eq]; simp_all)]; simp [Decidable.not_not.mp c_48]), by unfold sPutB; rw [(show kPut s1 h1 m1 d1 = true by simp only [kPut, decide_eq_true_eq]; simp_all)]; simp [Decidable.not_not.mp c_48]⟩
        · refine wp_bipush (v := (-2)) eX6_put_41 rfl ?_
          exact wp_iret eX6_put_43 ⟨congrArg (fun z => some (Value.int z)) (by unfold sPutA; rw [if_pos (by simp only [kPut, decide_eq_false_iff_not]; intro q; simp_all)]), by unfold sPutB; rw [if_pos (by simp only [kPut, decide_eq_false_iff_not]; intro q; simp_all)]⟩
