/-! THE REFERENCE: calls -/
theorem sIn_in {x : Int32} {n c : Nat} (hx : x = nI n) (hc : c < n) (hn : n < 100000) : sIn (nI c) 0 (x - 1) = 1 := by
  unfold sIn
  rw [if_pos]
  obtain ⟨j, hj⟩ : ∃ j, n = j + 1 := ⟨n - 1, by omega⟩
  rw [hx, hj, nI_pred]
  exact ⟨nI_pos' (by omega), nI_le (by omega) (by omega)⟩
theorem sIn_out {x v : Int32} {n : Nat} (hx : x = nI n) (h : ∀ c, c < n → ¬ v = nI c) (hn : n < 100000) : sIn v 0 (x - 1) = 0 := by
  unfold sIn
  rw [if_neg]
  rintro ⟨h1, h2⟩
  obtain ⟨k, hk, rfl⟩ := nI_of (x := v) (by simpa [Int32.not_lt] using h1)
  by_cases hkn : k < n
  · exact h k hkn rfl
  · rw [hx] at h2
    cases n with
    | zero => exact absurd (Int32.le_trans (nI_pos' hk) h2) (by decide)
    | succ n => rw [nI_pred] at h2; exact nI_ge (by omega) hk h2
def kHours (p q : Int32) : Bool := decide (sIn p 0 1440 = 1 ∧ sIn q 0 1440 = 1 ∧ p < q)
def sHours (S : St) (p q : Int32) : St := if kHours p q then up2 (up2 S 10 1 p) 10 2 q else S
def kPr (S : St) (day b1 a1 s1 c1 : Int32) : Bool := decide (¬ day < 0 ∧ ¬ S 10 5 = 12 ∧ ¬ (¬ S 10 5 ≤ 0 ∧ day ≤ S 11 (cR S - 1)) ∧ sIn b1 0 1000 = 1 ∧ sIn a1 0 1000 = 1 ∧ sIn s1 0 1000 = 1 ∧ sIn c1 0 1000 = 1)
def sPr (S : St) (day b1 a1 s1 c1 : Int32) : St := if kPr S day b1 a1 s1 c1 then up2 (up2 (up2 (up2 (up2 (up2 S 11 (cR S) day) 12 (cR S) b1) 13 (cR S) a1) 14 (cR S) s1) 15 (cR S) c1) 10 5 (nI (cR S) + 1) else S
def kSh (S : St) (r1 h1 d1 : Int32) : Bool := decide (sIn r1 1 60 = 1 ∧ sIn h1 0 2 = 1 ∧ sIn d1 1 99 = 1 ∧ ¬ S 10 11 = 16)
def sSh (S : St) (r1 h1 c1 d1 : Int32) : St := if kSh S r1 h1 d1 then up2 (up2 (up2 (up2 (up2 S 16 (cS S) r1) 17 (cS S) h1) 19 (cS S) c1) 18 (cS S) d1) 10 11 (nI (cS S) + 1) else S
def sLv (S : St) (t : Nat) (w : Int32) : St := up2 (up2 S 10 4 (S 10 4 + 2 * S 18 (S 27 t).toNatClampNeg)) 26 t w

set_option maxRecDepth 4000 in
theorem rX6_hours (d : Nat) {h : Hp} (hM : MOK h) (S : St) (p q : Int32) : Res (d + 2) nX6_hours [.ref 10, .int p, .int q] (am_wi h S) (some (.int (if kHours p q then 1 else 0))) (am_wi h (sHours S p q)) := by
  have z0 := sIn_01 p 0 1440
  have z1 := sIn_01 q 0 1440
  refine Res_intro (ls := [some (.ref 10), some (.int p), some (.int q)]) aX6_hours rfl rfl rfl rfl ?_
  show WP kX6_hours _ _ _ _ _ _
  refine wp_iload_n eX6_hours_0 rfl ?_
  refine wp_iconst (v := 0) eX6_hours_1 rfl ?_
  refine wp_sipush (v := 1440) eX6_hours_2 rfl ?_
  refine wp_stat (rv := (some (.int (sIn p 0 1440)))) (h' := am_wi h S) (r := []) eX6_hours_5 [.int p, .int 0, .int 1440] rfl rfl rfl rfl (rX6_in _ _ _ _ _) ?_
  refine wp_if eX6_hours_8 (fun (c_8 : (sIn p 0 1440) = 0) => ?_) (fun (c_8 : ¬ ((sIn p 0 1440) = 0)) => ?_)
  · refine wp_iconst (v := 0) eX6_hours_27 rfl ?_
    exact wp_zret eX6_hours_28 (by first | exact Or.inl rfl | exact Or.inr rfl | assumption) ⟨congrArg (fun z => some (Value.int z)) (by simp only [kHours, decide_eq_true_eq]; (repeat' split) <;> first | rfl | (exfalso; simp only [Int32.lt_iff_toInt_lt, Int32.le_iff_toInt_le, ← Int32.toInt_inj, Int32.reduceToInt] at *; omega)), by simp only [sHours, kHours, decide_eq_true_eq]; (repeat' split) <;> first | rfl | (exfalso; simp only [Int32.lt_iff_toInt_lt, Int32.le_iff_toInt_le, ← Int32.toInt_inj, Int32.reduceToInt] at *; omega)⟩
  · refine wp_iload_n eX6_hours_11 rfl ?_
    refine wp_iconst (v := 0) eX6_hours_12 rfl ?_
    refine wp_sipush (v := 1440) eX6_hours_13 rfl ?_
    refine wp_stat (rv := (some (.int (sIn q 0 1440)))) (h' := am_wi h S) (r := []) eX6_hours_16 [.int q, .int 0, .int 1440] rfl rfl rfl rfl (rX6_in _ _ _ _ _) ?_
    refine wp_if eX6_hours_19 (fun (c_19 : (sIn q 0 1440) = 0) => ?_) (fun (c_19 : ¬ ((sIn q 0 1440) = 0)) => ?_)
    · refine wp_iconst (v := 0) eX6_hours_27 rfl ?_
      exact wp_zret eX6_hours_28 (by first | exact Or.inl rfl | exact Or.inr rfl | assumption) ⟨congrArg (fun z => some (Value.int z)) (by simp only [kHours, decide_eq_true_eq]; (repeat' split) <;> first | rfl | (exfalso; simp only [Int32.lt_iff_toInt_lt, Int32.le_iff_toInt_le, ← Int32.toInt_inj, Int32.reduceToInt] at *; omega)), by simp only [sHours, kHours, decide_eq_true_eq]; (repeat' split) <;> first | rfl | (exfalso; simp only [Int32.lt_iff_toInt_lt, Int32.le_iff_toInt_le, ← Int32.toInt_inj, Int32.reduceToInt] at *; omega)⟩
    · refine wp_iload_n eX6_hours_22 rfl ?_
      refine wp_iload_n eX6_hours_23 rfl ?_
      refine wp_icmp eX6_hours_24 (fun (c_24 : p < q) => ?_) (fun (c_24 : ¬ (p < q)) => ?_)
      · refine wp_aload_n eX6_hours_29 rfl ?_
        refine wp_iload_n eX6_hours_30 rfl ?_
        refine wp_putI (h' := am_wi h (up2 S 10 1 p)) eX6_hours_31 (show Ob (am_wi h S) 10 6 from hM.ob) rfl (am_wi_set _ _ _ _ _ rfl rfl) ?_
        refine wp_aload_n eX6_hours_34 rfl ?_
        refine wp_iload_n eX6_hours_35 rfl ?_
        refine wp_putI (h' := am_wi h (up2 (up2 S 10 1 p) 10 2 q)) eX6_hours_36 (show Ob (am_wi h (up2 S 10 1 p)) 10 6 from hM.ob) rfl (am_wi_set _ _ _ _ _ rfl rfl) ?_
        refine wp_iconst (v := 1) eX6_hours_39 rfl ?_
        exact wp_zret eX6_hours_40 (by first | exact Or.inl rfl | exact Or.inr rfl | assumption) ⟨congrArg (fun z => some (Value.int z)) (by simp only [kHours, decide_eq_true_eq]; (repeat' split) <;> first | rfl | (exfalso; simp only [Int32.lt_iff_toInt_lt, Int32.le_iff_toInt_le, ← Int32.toInt_inj, Int32.reduceToInt] at *; omega)), by simp only [sHours, kHours, decide_eq_true_eq]; (repeat' split) <;> first | rfl | (exfalso; simp only [Int32.lt_iff_toInt_lt, Int32.le_iff_toInt_le, ← Int32.toInt_inj, Int32.reduceToInt] at *; omega)⟩
      · refine wp_iconst (v := 0) eX6_hours_27 rfl ?_
        exact wp_zret eX6_hours_28 (by first | exact Or.inl rfl | exact Or.inr rfl | assumption) ⟨congrArg (fun z => some (Value.int z)) (by simp only [kHours, decide_eq_true_eq]; (repeat' split) <;> first | rfl | (exfalso; simp only [Int32.lt_iff_toInt_lt, Int32.le_iff_toInt_le, ← Int32.toInt_inj, Int32.reduceToInt] at *; omega)), by simp only [sHours, kHours, decide_eq_true_eq]; (repeat' split) <;> first | rfl | (exfalso; simp only [Int32.lt_iff_toInt_lt, Int32.le_iff_toInt_le, ← Int32.toInt_inj, Int32.reduceToInt] at *; omega)⟩

theorem cnt_pred {x : Int32} {n : Nat} (hx : x = nI n) (h : ¬ x ≤ 0) (hn : n < 100000) : x - 1 = nI (n - 1) := by
  have h0 : 0 < n := by
    rcases Nat.eq_zero_or_pos n with z | z
    · subst z; rw [hx] at h; exact absurd (by decide) h
    · exact z
  obtain ⟨j, hj⟩ : ∃ j, n = j + 1 := ⟨n - 1, by omega⟩
  rw [hx, hj, nI_pred]; rfl
theorem cnt_ne {x : Int32} {n m : Nat} {y : Int32} (hx : x = nI n) (hy : y = nI m) (hm : m < 100000) (h : ¬ x = y) (hn : n ≤ m) : n < m := by
  rcases Nat.lt_or_ge n m with z | z
  · exact z
  · exact absurd (by rw [hx, hy, show n = m by omega]) h

set_option maxRecDepth 4000 in
theorem rX6_prices (d : Nat) {h : Hp} (hM : MOK h) (S : St) (hW : MW S) (day b1 a1 s1 c1 : Int32) : Res (d + 2) nX6_prices [.ref 10, .int day, .int b1, .int a1, .int s1, .int c1] (am_wi h S) (some (.int (if kPr S day b1 a1 s1 c1 then 1 else 0))) (am_wi h (sPr S day b1 a1 s1 c1)) := by
  have z0 := sIn_01 b1 0 1000
  have z1 := sIn_01 a1 0 1000
  have z2 := sIn_01 s1 0 1000
  have z3 := sIn_01 c1 0 1000
  have h5 := hW.1.2
  refine Res_intro (ls := [some (.ref 10), some (.int day), some (.int b1), some (.int a1), some (.int s1), some (.int c1)]) aX6_prices rfl rfl rfl rfl ?_
  show WP kX6_prices _ _ _ _ _ _
  refine wp_iload_n eX6_prices_0 rfl ?_
  refine wp_if eX6_prices_1 (fun (c_1 : day < 0) => ?_) (fun (c_1 : ¬ (day < 0)) => ?_)
  · refine wp_iconst (v := 0) eX6_prices_81 rfl ?_
    exact wp_zret eX6_prices_82 (by first | exact Or.inl rfl | exact Or.inr rfl | assumption) ⟨congrArg (fun z => some (Value.int z)) (by simp only [kPr, decide_eq_true_eq]; (repeat' split) <;> first | rfl | (exfalso; simp only [Int32.lt_iff_toInt_lt, Int32.le_iff_toInt_le, ← Int32.toInt_inj, Int32.reduceToInt] at *; omega)), by simp only [sPr, kPr, decide_eq_true_eq]; (repeat' split) <;> first | rfl | (exfalso; simp only [Int32.lt_iff_toInt_lt, Int32.le_iff_toInt_le, ← Int32.toInt_inj, Int32.reduceToInt] at *; omega)⟩
  · refine wp_aload_n eX6_prices_4 rfl ?_
    refine wp_getI (v := S 10 5) eX6_prices_5 (show Ob (am_wi h S) 10 6 from hM.ob) rfl rfl ?_
    refine wp_bipush (v := 12) eX6_prices_8 rfl ?_
    refine wp_icmp eX6_prices_10 (fun (c_10 : (S 10 5) = 12) => ?_) (fun (c_10 : ¬ ((S 10 5) = 12)) => ?_)
    · refine wp_iconst (v := 0) eX6_prices_81 rfl ?_
      exact wp_zret eX6_prices_82 (by first | exact Or.inl rfl | exact Or.inr rfl | assumption) ⟨congrArg (fun z => some (Value.int z)) (by simp only [kPr, decide_eq_true_eq]; (repeat' split) <;> first | rfl | (exfalso; simp only [Int32.lt_iff_toInt_lt, Int32.le_iff_toInt_le, ← Int32.toInt_inj, Int32.reduceToInt] at *; omega)), by simp only [sPr, kPr, decide_eq_true_eq]; (repeat' split) <;> first | rfl | (exfalso; simp only [Int32.lt_iff_toInt_lt, Int32.le_iff_toInt_le, ← Int32.toInt_inj, Int32.reduceToInt] at *; omega)⟩
    · refine wp_aload_n eX6_prices_13 rfl ?_
      refine wp_getI (v := S 10 5) eX6_prices_14 (show Ob (am_wi h S) 10 6 from hM.ob) rfl rfl ?_
      refine wp_if eX6_prices_17 (fun (c_17 : (S 10 5) ≤ 0) => ?_) (fun (c_17 : ¬ ((S 10 5) ≤ 0)) => ?_)
      · refine wp_iload_n eX6_prices_35 rfl ?_
        refine wp_iconst (v := 0) eX6_prices_36 rfl ?_
        refine wp_sipush (v := 1000) eX6_prices_37 rfl ?_
        refine wp_stat (rv := (some (.int (sIn b1 0 1000)))) (h' := am_wi h S) (r := []) eX6_prices_40 [.int b1, .int 0, .int 1000] rfl rfl rfl rfl (rX6_in _ _ _ _ _) ?_
        refine wp_if eX6_prices_43 (fun (c_43 : (sIn b1 0 1000) = 0) => ?_) (fun (c_43 : ¬ ((sIn b1 0 1000) = 0)) => ?_)
        · refine wp_iconst (v := 0) eX6_prices_81 rfl ?_
          exact wp_zret eX6_prices_82 (by first | exact Or.inl rfl | exact Or.inr rfl | assumption) ⟨congrArg (fun z => some (Value.int z)) (by simp only [kPr, decide_eq_true_eq]; (repeat' split) <;> first | rfl | (exfalso; simp only [Int32.lt_iff_toInt_lt, Int32.le_iff_toInt_le, ← Int32.toInt_inj, Int32.reduceToInt] at *; omega)), by simp only [sPr, kPr, decide_eq_true_eq]; (repeat' split) <;> first | rfl | (exfalso; simp only [Int32.lt_iff_toInt_lt, Int32.le_iff_toInt_le, ← Int32.toInt_inj, Int32.reduceToInt] at *; omega)⟩
        · refine wp_iload_n eX6_prices_46 rfl ?_
          refine wp_iconst (v := 0) eX6_prices_47 rfl ?_
          refine wp_sipush (v := 1000) eX6_prices_48 rfl ?_
          refine wp_stat (rv := (some (.int (sIn a1 0 1000)))) (h' := am_wi h S) (r := []) eX6_prices_51 [.int a1, .int 0, .int 1000] rfl rfl rfl rfl (rX6_in _ _ _ _ _) ?_
          refine wp_if eX6_prices_54 (fun (c_54 : (sIn a1 0 1000) = 0) => ?_) (fun (c_54 : ¬ ((sIn a1 0 1000) = 0)) => ?_)
          · refine wp_iconst (v := 0) eX6_prices_81 rfl ?_
            exact wp_zret eX6_prices_82 (by first | exact Or.inl rfl | exact Or.inr rfl | assumption) ⟨congrArg (fun z => some (Value.int z)) (by simp only [kPr, decide_eq_true_eq]; (repeat' split) <;> first | rfl | (exfalso; simp only [Int32.lt_iff_toInt_lt, Int32.le_iff_toInt_le, ← Int32.toInt_inj, Int32.reduceToInt] at *; omega)), by simp only [sPr, kPr, decide_eq_true_eq]; (repeat' split) <;> first | rfl | (exfalso; simp only [Int32.lt_iff_toInt_lt, Int32.le_iff_toInt_le, ← Int32.toInt_inj, Int32.reduceToInt] at *; omega)⟩
          · refine wp_iload eX6_prices_57 rfl ?_
            refine wp_iconst (v := 0) eX6_prices_59 rfl ?_
            refine wp_sipush (v := 1000) eX6_prices_60 rfl ?_
            refine wp_stat (rv := (some (.int (sIn s1 0 1000)))) (h' := am_wi h S) (r := []) eX6_prices_63 [.int s1, .int 0, .int 1000] rfl rfl rfl rfl (rX6_in _ _ _ _ _) ?_
            refine wp_if eX6_prices_66 (fun (c_66 : (sIn s1 0 1000) = 0) => ?_) (fun (c_66 : ¬ ((sIn s1 0 1000) = 0)) => ?_)
            · refine wp_iconst (v := 0) eX6_prices_81 rfl ?_
              exact wp_zret eX6_prices_82 (by first | exact Or.inl rfl | exact Or.inr rfl | assumption) ⟨congrArg (fun z => some (Value.int z)) (by simp only [kPr, decide_eq_true_eq]; (repeat' split) <;> first | rfl | (exfalso; simp only [Int32.lt_iff_toInt_lt, Int32.le_iff_toInt_le, ← Int32.toInt_inj, Int32.reduceToInt] at *; omega)), by simp only [sPr, kPr, decide_eq_true_eq]; (repeat' split) <;> first | rfl | (exfalso; simp only [Int32.lt_iff_toInt_lt, Int32.le_iff_toInt_le, ← Int32.toInt_inj, Int32.reduceToInt] at *; omega)⟩
            · refine wp_iload eX6_prices_69 rfl ?_
              refine wp_iconst (v := 0) eX6_prices_71 rfl ?_
              refine wp_sipush (v := 1000) eX6_prices_72 rfl ?_
              refine wp_stat (rv := (some (.int (sIn c1 0 1000)))) (h' := am_wi h S) (r := []) eX6_prices_75 [.int c1, .int 0, .int 1000] rfl rfl rfl rfl (rX6_in _ _ _ _ _) ?_
              refine wp_if eX6_prices_78 (fun (c_78 : ¬ (sIn c1 0 1000) = 0) => ?_) (fun (c_78 : ¬ (¬ (sIn c1 0 1000) = 0)) => ?_)
              · have hlt := cnt_ne hW.1.1 (show (12 : Int32) = nI 12 from rfl) (by omega) c_10 hW.1.2
                refine wp_aload_n eX6_prices_83 rfl ?_
                refine wp_getR (v := 11) eX6_prices_84 (show Ob (am_wi h S) 10 6 from hM.ob) rfl hM.r6 ?_
                refine wp_aload_n eX6_prices_87 rfl ?_
                refine wp_getI (v := nI (cR S)) eX6_prices_88 (show Ob (am_wi h S) 10 6 from hM.ob) rfl hW.1.1 ?_
                refine wp_iload_n eX6_prices_91 rfl ?_
                refine wp_ias (t := cR S) (h' := am_wi h (up2 S 11 (cR S) day)) eX6_prices_92 (show Ar (am_wi h S) 11 7 12 from hM.a11) (by omega) rfl (am_wi_set _ _ _ _ _ rfl rfl) ?_
                refine wp_aload_n eX6_prices_93 rfl ?_
                refine wp_getR (v := 12) eX6_prices_94 (show Ob (am_wi h (up2 S 11 (cR S) day)) 10 6 from hM.ob) rfl hM.r7 ?_
                refine wp_aload_n eX6_prices_97 rfl ?_
                refine wp_getI (v := nI (cR S)) eX6_prices_98 (show Ob (am_wi h (up2 S 11 (cR S) day)) 10 6 from hM.ob) rfl hW.1.1 ?_
                refine wp_iload_n eX6_prices_101 rfl ?_
                refine wp_ias (t := cR S) (h' := am_wi h (up2 (up2 S 11 (cR S) day) 12 (cR S) b1)) eX6_prices_102 (show Ar (am_wi h (up2 S 11 (cR S) day)) 12 7 12 from hM.a12) (by omega) rfl (am_wi_set _ _ _ _ _ rfl rfl) ?_
                refine wp_aload_n eX6_prices_103 rfl ?_
                refine wp_getR (v := 13) eX6_prices_104 (show Ob (am_wi h (up2 (up2 S 11 (cR S) day) 12 (cR S) b1)) 10 6 from hM.ob) rfl hM.r8 ?_
                refine wp_aload_n eX6_prices_107 rfl ?_
                refine wp_getI (v := nI (cR S)) eX6_prices_108 (show Ob (am_wi h (up2 (up2 S 11 (cR S) day) 12 (cR S) b1)) 10 6 from hM.ob) rfl hW.1.1 ?_
                refine wp_iload_n eX6_prices_111 rfl ?_
                refine wp_ias (t := cR S) (h' := am_wi h (up2 (up2 (up2 S 11 (cR S) day) 12 (cR S) b1) 13 (cR S) a1)) eX6_prices_112 (show Ar (am_wi h (up2 (up2 S 11 (cR S) day) 12 (cR S) b1)) 13 7 12 from hM.a13) (by omega) rfl (am_wi_set _ _ _ _ _ rfl rfl) ?_
                refine wp_aload_n eX6_prices_113 rfl ?_
                refine wp_getR (v := 14) eX6_prices_114 (show Ob (am_wi h (up2 (up2 (up2 S 11 (cR S) day) 12 (cR S) b1) 13 (cR S) a1)) 10 6 from hM.ob) rfl hM.r9 ?_
                refine wp_aload_n eX6_prices_117 rfl ?_
                refine wp_getI (v := nI (cR S)) eX6_prices_118 (show Ob (am_wi h (up2 (up2 (up2 S 11 (cR S) day) 12 (cR S) b1) 13 (cR S) a1)) 10 6 from hM.ob) rfl hW.1.1 ?_
                refine wp_iload eX6_prices_121 rfl ?_
                refine wp_ias (t := cR S) (h' := am_wi h (up2 (up2 (up2 (up2 S 11 (cR S) day) 12 (cR S) b1) 13 (cR S) a1) 14 (cR S) s1)) eX6_prices_123 (show Ar (am_wi h (up2 (up2 (up2 S 11 (cR S) day) 12 (cR S) b1) 13 (cR S) a1)) 14 7 12 from hM.a14) (by omega) rfl (am_wi_set _ _ _ _ _ rfl rfl) ?_
                refine wp_aload_n eX6_prices_124 rfl ?_
                refine wp_getR (v := 15) eX6_prices_125 (show Ob (am_wi h (up2 (up2 (up2 (up2 S 11 (cR S) day) 12 (cR S) b1) 13 (cR S) a1) 14 (cR S) s1)) 10 6 from hM.ob) rfl hM.r10 ?_
                refine wp_aload_n eX6_prices_128 rfl ?_
                refine wp_getI (v := nI (cR S)) eX6_prices_129 (show Ob (am_wi h (up2 (up2 (up2 (up2 S 11 (cR S) day) 12 (cR S) b1) 13 (cR S) a1) 14 (cR S) s1)) 10 6 from hM.ob) rfl hW.1.1 ?_
                refine wp_iload eX6_prices_132 rfl ?_
                refine wp_ias (t := cR S) (h' := am_wi h (up2 (up2 (up2 (up2 (up2 S 11 (cR S) day) 12 (cR S) b1) 13 (cR S) a1) 14 (cR S) s1) 15 (cR S) c1)) eX6_prices_134 (show Ar (am_wi h (up2 (up2 (up2 (up2 S 11 (cR S) day) 12 (cR S) b1) 13 (cR S) a1) 14 (cR S) s1)) 15 7 12 from hM.a15) (by omega) rfl (am_wi_set _ _ _ _ _ rfl rfl) ?_
                refine wp_aload_n eX6_prices_135 rfl ?_
                refine wp_dup eX6_prices_136 rfl ?_
                refine wp_getI (v := nI (cR S)) eX6_prices_137 (show Ob (am_wi h (up2 (up2 (up2 (up2 (up2 S 11 (cR S) day) 12 (cR S) b1) 13 (cR S) a1) 14 (cR S) s1) 15 (cR S) c1)) 10 6 from hM.ob) rfl hW.1.1 ?_
                refine wp_iconst (v := 1) eX6_prices_140 rfl ?_
                refine wp_iadd eX6_prices_141 ?_
                refine wp_putI (h' := am_wi h (up2 (up2 (up2 (up2 (up2 (up2 S 11 (cR S) day) 12 (cR S) b1) 13 (cR S) a1) 14 (cR S) s1) 15 (cR S) c1) 10 5 ((nI (cR S)) + 1))) eX6_prices_142 (show Ob (am_wi h (up2 (up2 (up2 (up2 (up2 S 11 (cR S) day) 12 (cR S) b1) 13 (cR S) a1) 14 (cR S) s1) 15 (cR S) c1)) 10 6 from hM.ob) rfl (am_wi_set _ _ _ _ _ rfl rfl) ?_
                refine wp_iconst (v := 1) eX6_prices_145 rfl ?_
                exact wp_zret eX6_prices_146 (by first | exact Or.inl rfl | exact Or.inr rfl | assumption) ⟨congrArg (fun z => some (Value.int z)) (by simp only [kPr, decide_eq_true_eq]; (repeat' split) <;> first | rfl | (exfalso; simp only [Int32.lt_iff_toInt_lt, Int32.le_iff_toInt_le, ← Int32.toInt_inj, Int32.reduceToInt] at *; omega)), by simp only [sPr, kPr, decide_eq_true_eq]; (repeat' split) <;> first | rfl | (exfalso; simp only [Int32.lt_iff_toInt_lt, Int32.le_iff_toInt_le, ← Int32.toInt_inj, Int32.reduceToInt] at *; omega)⟩
              · refine wp_iconst (v := 0) eX6_prices_81 rfl ?_
                exact wp_zret eX6_prices_82 (by first | exact Or.inl rfl | exact Or.inr rfl | assumption) ⟨congrArg (fun z => some (Value.int z)) (by simp only [kPr, decide_eq_true_eq]; (repeat' split) <;> first | rfl | (exfalso; simp only [Int32.lt_iff_toInt_lt, Int32.le_iff_toInt_le, ← Int32.toInt_inj, Int32.reduceToInt] at *; omega)), by simp only [sPr, kPr, decide_eq_true_eq]; (repeat' split) <;> first | rfl | (exfalso; simp only [Int32.lt_iff_toInt_lt, Int32.le_iff_toInt_le, ← Int32.toInt_inj, Int32.reduceToInt] at *; omega)⟩
      · refine wp_iload_n eX6_prices_20 rfl ?_
        refine wp_aload_n eX6_prices_21 rfl ?_
        refine wp_getR (v := 11) eX6_prices_22 (show Ob (am_wi h S) 10 6 from hM.ob) rfl hM.r6 ?_
        refine wp_aload_n eX6_prices_25 rfl ?_
        refine wp_getI (v := S 10 5) eX6_prices_26 (show Ob (am_wi h S) 10 6 from hM.ob) rfl rfl ?_
        refine wp_iconst (v := 1) eX6_prices_29 rfl ?_
        refine wp_isub eX6_prices_30 ?_
        refine wp_top (y := nI (cR S - 1)) (cnt_pred hW.1.1 c_17 (by omega)) ?_
        refine wp_ial (v := S 11 (cR S - 1)) (t := cR S - 1) eX6_prices_31 (show Ar (am_wi h S) 11 7 12 from hM.a11) (by have := hW.1.2; omega) rfl rfl ?_
        refine wp_icmp eX6_prices_32 (fun (c_32 : day ≤ (S 11 (cR S - 1))) => ?_) (fun (c_32 : ¬ (day ≤ (S 11 (cR S - 1)))) => ?_)
        · refine wp_iconst (v := 0) eX6_prices_81 rfl ?_
          exact wp_zret eX6_prices_82 (by first | exact Or.inl rfl | exact Or.inr rfl | assumption) ⟨congrArg (fun z => some (Value.int z)) (by simp only [kPr, decide_eq_true_eq]; (repeat' split) <;> first | rfl | (exfalso; simp only [Int32.lt_iff_toInt_lt, Int32.le_iff_toInt_le, ← Int32.toInt_inj, Int32.reduceToInt] at *; omega)), by simp only [sPr, kPr, decide_eq_true_eq]; (repeat' split) <;> first | rfl | (exfalso; simp only [Int32.lt_iff_toInt_lt, Int32.le_iff_toInt_le, ← Int32.toInt_inj, Int32.reduceToInt] at *; omega)⟩
        · refine wp_iload_n eX6_prices_35 rfl ?_
          refine wp_iconst (v := 0) eX6_prices_36 rfl ?_
          refine wp_sipush (v := 1000) eX6_prices_37 rfl ?_
          refine wp_stat (rv := (some (.int (sIn b1 0 1000)))) (h' := am_wi h S) (r := []) eX6_prices_40 [.int b1, .int 0, .int 1000] rfl rfl rfl rfl (rX6_in _ _ _ _ _) ?_
          refine wp_if eX6_prices_43 (fun (c_43 : (sIn b1 0 1000) = 0) => ?_) (fun (c_43 : ¬ ((sIn b1 0 1000) = 0)) => ?_)
          · refine wp_iconst (v := 0) eX6_prices_81 rfl ?_
            exact wp_zret eX6_prices_82 (by first | exact Or.inl rfl | exact Or.inr rfl | assumption) ⟨congrArg (fun z => some (Value.int z)) (by simp only [kPr, decide_eq_true_eq]; (repeat' split) <;> first | rfl | (exfalso; simp only [Int32.lt_iff_toInt_lt, Int32.le_iff_toInt_le, ← Int32.toInt_inj, Int32.reduceToInt] at *; omega)), by simp only [sPr, kPr, decide_eq_true_eq]; (repeat' split) <;> first | rfl | (exfalso; simp only [Int32.lt_iff_toInt_lt, Int32.le_iff_toInt_le, ← Int32.toInt_inj, Int32.reduceToInt] at *; omega)⟩
          · refine wp_iload_n eX6_prices_46 rfl ?_
            refine wp_iconst (v := 0) eX6_prices_47 rfl ?_
            refine wp_sipush (v := 1000) eX6_prices_48 rfl ?_
            refine wp_stat (rv := (some (.int (sIn a1 0 1000)))) (h' := am_wi h S) (r := []) eX6_prices_51 [.int a1, .int 0, .int 1000] rfl rfl rfl rfl (rX6_in _ _ _ _ _) ?_
            refine wp_if eX6_prices_54 (fun (c_54 : (sIn a1 0 1000) = 0) => ?_) (fun (c_54 : ¬ ((sIn a1 0 1000) = 0)) => ?_)
            · refine wp_iconst (v := 0) eX6_prices_81 rfl ?_
              exact wp_zret eX6_prices_82 (by first | exact Or.inl rfl | exact Or.inr rfl | assumption) ⟨congrArg (fun z => some (Value.int z)) (by simp only [kPr, decide_eq_true_eq]; (repeat' split) <;> first | rfl | (exfalso; simp only [Int32.lt_iff_toInt_lt, Int32.le_iff_toInt_le, ← Int32.toInt_inj, Int32.reduceToInt] at *; omega)), by simp only [sPr, kPr, decide_eq_true_eq]; (repeat' split) <;> first | rfl | (exfalso; simp only [Int32.lt_iff_toInt_lt, Int32.le_iff_toInt_le, ← Int32.toInt_inj, Int32.reduceToInt] at *; omega)⟩
            · refine wp_iload eX6_prices_57 rfl ?_
              refine wp_iconst (v := 0) eX6_prices_59 rfl ?_
              refine wp_sipush (v := 1000) eX6_prices_60 rfl ?_
              refine wp_stat (rv := (some (.int (sIn s1 0 1000)))) (h' := am_wi h S) (r := []) eX6_prices_63 [.int s1, .int 0, .int 1000] rfl rfl rfl rfl (rX6_in _ _ _ _ _) ?_
              refine wp_if eX6_prices_66 (fun (c_66 : (sIn s1 0 1000) = 0) => ?_) (fun (c_66 : ¬ ((sIn s1 0 1000) = 0)) => ?_)
              · refine wp_iconst (v := 0) eX6_prices_81 rfl ?_
                exact wp_zret eX6_prices_82 (by first | exact Or.inl rfl | exact Or.inr rfl | assumption) ⟨congrArg (fun z => some (Value.int z)) (by simp only [kPr, decide_eq_true_eq]; (repeat' split) <;> first | rfl | (exfalso; simp only [Int32.lt_iff_toInt_lt, Int32.le_iff_toInt_le, ← Int32.toInt_inj, Int32.reduceToInt] at *; omega)), by simp only [sPr, kPr, decide_eq_true_eq]; (repeat' split) <;> first | rfl | (exfalso; simp only [Int32.lt_iff_toInt_lt, Int32.le_iff_toInt_le, ← Int32.toInt_inj, Int32.reduceToInt] at *; omega)⟩
              · refine wp_iload eX6_prices_69 rfl ?_
                refine wp_iconst (v := 0) eX6_prices_71 rfl ?_
                refine wp_sipush (v := 1000) eX6_prices_72 rfl ?_
                refine wp_stat (rv := (some (.int (sIn c1 0 1000)))) (h' := am_wi h S) (r := []) eX6_prices_75 [.int c1, .int 0, .int 1000] rfl rfl rfl rfl (rX6_in _ _ _ _ _) ?_
                refine wp_if eX6_prices_78 (fun (c_78 : ¬ (sIn c1 0 1000) = 0) => ?_) (fun (c_78 : ¬ (¬ (sIn c1 0 1000) = 0)) => ?_)
                · have hlt := cnt_ne hW.1.1 (show (12 : Int32) = nI 12 from rfl) (by omega) c_10 hW.1.2
                  refine wp_aload_n eX6_prices_83 rfl ?_
                  refine wp_getR (v := 11) eX6_prices_84 (show Ob (am_wi h S) 10 6 from hM.ob) rfl hM.r6 ?_
                  refine wp_aload_n eX6_prices_87 rfl ?_
                  refine wp_getI (v := nI (cR S)) eX6_prices_88 (show Ob (am_wi h S) 10 6 from hM.ob) rfl hW.1.1 ?_
                  refine wp_iload_n eX6_prices_91 rfl ?_
                  refine wp_ias (t := cR S) (h' := am_wi h (up2 S 11 (cR S) day)) eX6_prices_92 (show Ar (am_wi h S) 11 7 12 from hM.a11) (by omega) rfl (am_wi_set _ _ _ _ _ rfl rfl) ?_
                  refine wp_aload_n eX6_prices_93 rfl ?_
                  refine wp_getR (v := 12) eX6_prices_94 (show Ob (am_wi h (up2 S 11 (cR S) day)) 10 6 from hM.ob) rfl hM.r7 ?_
                  refine wp_aload_n eX6_prices_97 rfl ?_
                  refine wp_getI (v := nI (cR S)) eX6_prices_98 (show Ob (am_wi h (up2 S 11 (cR S) day)) 10 6 from hM.ob) rfl hW.1.1 ?_
                  refine wp_iload_n eX6_prices_101 rfl ?_
                  refine wp_ias (t := cR S) (h' := am_wi h (up2 (up2 S 11 (cR S) day) 12 (cR S) b1)) eX6_prices_102 (show Ar (am_wi h (up2 S 11 (cR S) day)) 12 7 12 from hM.a12) (by omega) rfl (am_wi_set _ _ _ _ _ rfl rfl) ?_
                  refine wp_aload_n eX6_prices_103 rfl ?_
                  refine wp_getR (v := 13) eX6_prices_104 (show Ob (am_wi h (up2 (up2 S 11 (cR S) day) 12 (cR S) b1)) 10 6 from hM.ob) rfl hM.r8 ?_
                  refine wp_aload_n eX6_prices_107 rfl ?_
                  refine wp_getI (v := nI (cR S)) eX6_prices_108 (show Ob (am_wi h (up2 (up2 S 11 (cR S) day) 12 (cR S) b1)) 10 6 from hM.ob) rfl hW.1.1 ?_
                  refine wp_iload_n eX6_prices_111 rfl ?_
                  refine wp_ias (t := cR S) (h' := am_wi h (up2 (up2 (up2 S 11 (cR S) day) 12 (cR S) b1) 13 (cR S) a1)) eX6_prices_112 (show Ar (am_wi h (up2 (up2 S 11 (cR S) day) 12 (cR S) b1)) 13 7 12 from hM.a13) (by omega) rfl (am_wi_set _ _ _ _ _ rfl rfl) ?_
                  refine wp_aload_n eX6_prices_113 rfl ?_
                  refine wp_getR (v := 14) eX6_prices_114 (show Ob (am_wi h (up2 (up2 (up2 S 11 (cR S) day) 12 (cR S) b1) 13 (cR S) a1)) 10 6 from hM.ob) rfl hM.r9 ?_
                  refine wp_aload_n eX6_prices_117 rfl ?_
                  refine wp_getI (v := nI (cR S)) eX6_prices_118 (show Ob (am_wi h (up2 (up2 (up2 S 11 (cR S) day) 12 (cR S) b1) 13 (cR S) a1)) 10 6 from hM.ob) rfl hW.1.1 ?_
                  refine wp_iload eX6_prices_121 rfl ?_
                  refine wp_ias (t := cR S) (h' := am_wi h (up2 (up2 (up2 (up2 S 11 (cR S) day) 12 (cR S) b1) 13 (cR S) a1) 14 (cR S) s1)) eX6_prices_123 (show Ar (am_wi h (up2 (up2 (up2 S 11 (cR S) day) 12 (cR S) b1) 13 (cR S) a1)) 14 7 12 from hM.a14) (by omega) rfl (am_wi_set _ _ _ _ _ rfl rfl) ?_
                  refine wp_aload_n eX6_prices_124 rfl ?_
                  refine wp_getR (v := 15) eX6_prices_125 (show Ob (am_wi h (up2 (up2 (up2 (up2 S 11 (cR S) day) 12 (cR S) b1) 13 (cR S) a1) 14 (cR S) s1)) 10 6 from hM.ob) rfl hM.r10 ?_
                  refine wp_aload_n eX6_prices_128 rfl ?_
                  refine wp_getI (v := nI (cR S)) eX6_prices_129 (show Ob (am_wi h (up2 (up2 (up2 (up2 S 11 (cR S) day) 12 (cR S) b1) 13 (cR S) a1) 14 (cR S) s1)) 10 6 from hM.ob) rfl hW.1.1 ?_
                  refine wp_iload eX6_prices_132 rfl ?_
                  refine wp_ias (t := cR S) (h' := am_wi h (up2 (up2 (up2 (up2 (up2 S 11 (cR S) day) 12 (cR S) b1) 13 (cR S) a1) 14 (cR S) s1) 15 (cR S) c1)) eX6_prices_134 (show Ar (am_wi h (up2 (up2 (up2 (up2 S 11 (cR S) day) 12 (cR S) b1) 13 (cR S) a1) 14 (cR S) s1)) 15 7 12 from hM.a15) (by omega) rfl (am_wi_set _ _ _ _ _ rfl rfl) ?_
                  refine wp_aload_n eX6_prices_135 rfl ?_
                  refine wp_dup eX6_prices_136 rfl ?_
                  refine wp_getI (v := nI (cR S)) eX6_prices_137 (show Ob (am_wi h (up2 (up2 (up2 (up2 (up2 S 11 (cR S) day) 12 (cR S) b1) 13 (cR S) a1) 14 (cR S) s1) 15 (cR S) c1)) 10 6 from hM.ob) rfl hW.1.1 ?_
                  refine wp_iconst (v := 1) eX6_prices_140 rfl ?_
                  refine wp_iadd eX6_prices_141 ?_
                  refine wp_putI (h' := am_wi h (up2 (up2 (up2 (up2 (up2 (up2 S 11 (cR S) day) 12 (cR S) b1) 13 (cR S) a1) 14 (cR S) s1) 15 (cR S) c1) 10 5 ((nI (cR S)) + 1))) eX6_prices_142 (show Ob (am_wi h (up2 (up2 (up2 (up2 (up2 S 11 (cR S) day) 12 (cR S) b1) 13 (cR S) a1) 14 (cR S) s1) 15 (cR S) c1)) 10 6 from hM.ob) rfl (am_wi_set _ _ _ _ _ rfl rfl) ?_
                  refine wp_iconst (v := 1) eX6_prices_145 rfl ?_
                  exact wp_zret eX6_prices_146 (by first | exact Or.inl rfl | exact Or.inr rfl | assumption) ⟨congrArg (fun z => some (Value.int z)) (by simp only [kPr, decide_eq_true_eq]; (repeat' split) <;> first | rfl | (exfalso; simp only [Int32.lt_iff_toInt_lt, Int32.le_iff_toInt_le, ← Int32.toInt_inj, Int32.reduceToInt] at *; omega)), by simp only [sPr, kPr, decide_eq_true_eq]; (repeat' split) <;> first | rfl | (exfalso; simp only [Int32.lt_iff_toInt_lt, Int32.le_iff_toInt_le, ← Int32.toInt_inj, Int32.reduceToInt] at *; omega)⟩
                · refine wp_iconst (v := 0) eX6_prices_81 rfl ?_
                  exact wp_zret eX6_prices_82 (by first | exact Or.inl rfl | exact Or.inr rfl | assumption) ⟨congrArg (fun z => some (Value.int z)) (by simp only [kPr, decide_eq_true_eq]; (repeat' split) <;> first | rfl | (exfalso; simp only [Int32.lt_iff_toInt_lt, Int32.le_iff_toInt_le, ← Int32.toInt_inj, Int32.reduceToInt] at *; omega)), by simp only [sPr, kPr, decide_eq_true_eq]; (repeat' split) <;> first | rfl | (exfalso; simp only [Int32.lt_iff_toInt_lt, Int32.le_iff_toInt_le, ← Int32.toInt_inj, Int32.reduceToInt] at *; omega)⟩

theorem nI_succ_pred (n : Nat) : nI n + 1 - 1 = nI n := by rw [nI_1, nI_pred]

set_option maxRecDepth 4000 in
theorem rX6_shelf (d : Nat) {h : Hp} (hM : MOK h) (S : St) (hW : MW S) (r1 h1 c1 d1 : Int32) (hc1 : c1 = 0 ∨ c1 = 1) : Res (d + 2) nX6_shelf [.ref 10, .int r1, .int h1, .int c1, .int d1] (am_wi h S) (some (.int (if kSh S r1 h1 d1 then nI (cS S) else -1))) (am_wi h (sSh S r1 h1 c1 d1)) := by
  have z0 := sIn_01 r1 1 60
  have z1 := sIn_01 h1 0 2
  have z2 := sIn_01 d1 1 99
  have h11 := hW.2.1.2
  refine Res_intro (ls := [some (.ref 10), some (.int r1), some (.int h1), some (.int c1), some (.int d1)]) aX6_shelf rfl rfl rfl rfl ?_
  show WP kX6_shelf _ _ _ _ _ _
  refine wp_iload_n eX6_shelf_0 rfl ?_
  refine wp_iconst (v := 1) eX6_shelf_1 rfl ?_
  refine wp_bipush (v := 60) eX6_shelf_2 rfl ?_
  refine wp_stat (rv := (some (.int (sIn r1 1 60)))) (h' := am_wi h S) (r := []) eX6_shelf_4 [.int r1, .int 1, .int 60] rfl rfl rfl rfl (rX6_in _ _ _ _ _) ?_
  refine wp_if eX6_shelf_7 (fun (c_7 : (sIn r1 1 60) = 0) => ?_) (fun (c_7 : ¬ ((sIn r1 1 60) = 0)) => ?_)
  · refine wp_iconst (v := (-1)) eX6_shelf_39 rfl ?_
    exact wp_iret eX6_shelf_40 ⟨congrArg (fun z => some (Value.int z)) (by simp only [kSh, decide_eq_true_eq]; (repeat' split) <;> first | rfl | (exfalso; simp only [Int32.lt_iff_toInt_lt, Int32.le_iff_toInt_le, ← Int32.toInt_inj, Int32.reduceToInt] at *; omega)), by simp only [sSh, kSh, decide_eq_true_eq]; (repeat' split) <;> first | rfl | (exfalso; simp only [Int32.lt_iff_toInt_lt, Int32.le_iff_toInt_le, ← Int32.toInt_inj, Int32.reduceToInt] at *; omega)⟩
  · refine wp_iload_n eX6_shelf_10 rfl ?_
    refine wp_iconst (v := 0) eX6_shelf_11 rfl ?_
    refine wp_iconst (v := 2) eX6_shelf_12 rfl ?_
    refine wp_stat (rv := (some (.int (sIn h1 0 2)))) (h' := am_wi h S) (r := []) eX6_shelf_13 [.int h1, .int 0, .int 2] rfl rfl rfl rfl (rX6_in _ _ _ _ _) ?_
    refine wp_if eX6_shelf_16 (fun (c_16 : (sIn h1 0 2) = 0) => ?_) (fun (c_16 : ¬ ((sIn h1 0 2) = 0)) => ?_)
    · refine wp_iconst (v := (-1)) eX6_shelf_39 rfl ?_
      exact wp_iret eX6_shelf_40 ⟨congrArg (fun z => some (Value.int z)) (by simp only [kSh, decide_eq_true_eq]; (repeat' split) <;> first | rfl | (exfalso; simp only [Int32.lt_iff_toInt_lt, Int32.le_iff_toInt_le, ← Int32.toInt_inj, Int32.reduceToInt] at *; omega)), by simp only [sSh, kSh, decide_eq_true_eq]; (repeat' split) <;> first | rfl | (exfalso; simp only [Int32.lt_iff_toInt_lt, Int32.le_iff_toInt_le, ← Int32.toInt_inj, Int32.reduceToInt] at *; omega)⟩
    · refine wp_iload eX6_shelf_19 rfl ?_
      refine wp_iconst (v := 1) eX6_shelf_21 rfl ?_
      refine wp_bipush (v := 99) eX6_shelf_22 rfl ?_
      refine wp_stat (rv := (some (.int (sIn d1 1 99)))) (h' := am_wi h S) (r := []) eX6_shelf_24 [.int d1, .int 1, .int 99] rfl rfl rfl rfl (rX6_in _ _ _ _ _) ?_
      refine wp_if eX6_shelf_27 (fun (c_27 : (sIn d1 1 99) = 0) => ?_) (fun (c_27 : ¬ ((sIn d1 1 99) = 0)) => ?_)
      · refine wp_iconst (v := (-1)) eX6_shelf_39 rfl ?_
        exact wp_iret eX6_shelf_40 ⟨congrArg (fun z => some (Value.int z)) (by simp only [kSh, decide_eq_true_eq]; (repeat' split) <;> first | rfl | (exfalso; simp only [Int32.lt_iff_toInt_lt, Int32.le_iff_toInt_le, ← Int32.toInt_inj, Int32.reduceToInt] at *; omega)), by simp only [sSh, kSh, decide_eq_true_eq]; (repeat' split) <;> first | rfl | (exfalso; simp only [Int32.lt_iff_toInt_lt, Int32.le_iff_toInt_le, ← Int32.toInt_inj, Int32.reduceToInt] at *; omega)⟩
      · refine wp_aload_n eX6_shelf_30 rfl ?_
        refine wp_getI (v := S 10 11) eX6_shelf_31 (show Ob (am_wi h S) 10 6 from hM.ob) rfl rfl ?_
        refine wp_bipush (v := 16) eX6_shelf_34 rfl ?_
        refine wp_icmp eX6_shelf_36 (fun (c_36 : ¬ (S 10 11) = 16) => ?_) (fun (c_36 : ¬ (¬ (S 10 11) = 16)) => ?_)
        · have hlt := cnt_ne hW.2.1.1 (show (16 : Int32) = nI 16 from rfl) (by omega) c_36 hW.2.1.2
          refine wp_aload_n eX6_shelf_41 rfl ?_
          refine wp_getR (v := 16) eX6_shelf_42 (show Ob (am_wi h S) 10 6 from hM.ob) rfl hM.r13 ?_
          refine wp_aload_n eX6_shelf_45 rfl ?_
          refine wp_getI (v := nI (cS S)) eX6_shelf_46 (show Ob (am_wi h S) 10 6 from hM.ob) rfl hW.2.1.1 ?_
          refine wp_iload_n eX6_shelf_49 rfl ?_
          refine wp_ias (t := cS S) (h' := am_wi h (up2 S 16 (cS S) r1)) eX6_shelf_50 (show Ar (am_wi h S) 16 7 16 from hM.a16) (by omega) rfl (am_wi_set _ _ _ _ _ rfl rfl) ?_
          refine wp_aload_n eX6_shelf_51 rfl ?_
          refine wp_getR (v := 17) eX6_shelf_52 (show Ob (am_wi h (up2 S 16 (cS S) r1)) 10 6 from hM.ob) rfl hM.r14 ?_
          refine wp_aload_n eX6_shelf_55 rfl ?_
          refine wp_getI (v := nI (cS S)) eX6_shelf_56 (show Ob (am_wi h (up2 S 16 (cS S) r1)) 10 6 from hM.ob) rfl hW.2.1.1 ?_
          refine wp_iload_n eX6_shelf_59 rfl ?_
          refine wp_ias (t := cS S) (h' := am_wi h (up2 (up2 S 16 (cS S) r1) 17 (cS S) h1)) eX6_shelf_60 (show Ar (am_wi h (up2 S 16 (cS S) r1)) 17 7 16 from hM.a17) (by omega) rfl (am_wi_set _ _ _ _ _ rfl rfl) ?_
          refine wp_aload_n eX6_shelf_61 rfl ?_
          refine wp_getR (v := 19) eX6_shelf_62 (show Ob (am_wi h (up2 (up2 S 16 (cS S) r1) 17 (cS S) h1)) 10 6 from hM.ob) rfl hM.r16 ?_
          refine wp_aload_n eX6_shelf_65 rfl ?_
          refine wp_getI (v := nI (cS S)) eX6_shelf_66 (show Ob (am_wi h (up2 (up2 S 16 (cS S) r1) 17 (cS S) h1)) 10 6 from hM.ob) rfl hW.2.1.1 ?_
          refine wp_iload_n eX6_shelf_69 rfl ?_
          refine wp_zas (t := cS S) (h' := am_wi h (up2 (up2 (up2 S 16 (cS S) r1) 17 (cS S) h1) 19 (cS S) c1)) eX6_shelf_70 (show Ar (am_wi h (up2 (up2 S 16 (cS S) r1) 17 (cS S) h1)) 19 8 16 from hM.a19) (by omega) rfl hc1 (am_wi_set _ _ _ _ _ rfl rfl) ?_
          refine wp_aload_n eX6_shelf_71 rfl ?_
          refine wp_getR (v := 18) eX6_shelf_72 (show Ob (am_wi h (up2 (up2 (up2 S 16 (cS S) r1) 17 (cS S) h1) 19 (cS S) c1)) 10 6 from hM.ob) rfl hM.r15 ?_
          refine wp_aload_n eX6_shelf_75 rfl ?_
          refine wp_getI (v := nI (cS S)) eX6_shelf_76 (show Ob (am_wi h (up2 (up2 (up2 S 16 (cS S) r1) 17 (cS S) h1) 19 (cS S) c1)) 10 6 from hM.ob) rfl hW.2.1.1 ?_
          refine wp_iload eX6_shelf_79 rfl ?_
          refine wp_ias (t := cS S) (h' := am_wi h (up2 (up2 (up2 (up2 S 16 (cS S) r1) 17 (cS S) h1) 19 (cS S) c1) 18 (cS S) d1)) eX6_shelf_81 (show Ar (am_wi h (up2 (up2 (up2 S 16 (cS S) r1) 17 (cS S) h1) 19 (cS S) c1)) 18 7 16 from hM.a18) (by omega) rfl (am_wi_set _ _ _ _ _ rfl rfl) ?_
          refine wp_aload_n eX6_shelf_82 rfl ?_
          refine wp_dup eX6_shelf_83 rfl ?_
          refine wp_getI (v := nI (cS S)) eX6_shelf_84 (show Ob (am_wi h (up2 (up2 (up2 (up2 S 16 (cS S) r1) 17 (cS S) h1) 19 (cS S) c1) 18 (cS S) d1)) 10 6 from hM.ob) rfl hW.2.1.1 ?_
          refine wp_iconst (v := 1) eX6_shelf_87 rfl ?_
          refine wp_iadd eX6_shelf_88 ?_
          refine wp_putI (h' := am_wi h (up2 (up2 (up2 (up2 (up2 S 16 (cS S) r1) 17 (cS S) h1) 19 (cS S) c1) 18 (cS S) d1) 10 11 ((nI (cS S)) + 1))) eX6_shelf_89 (show Ob (am_wi h (up2 (up2 (up2 (up2 S 16 (cS S) r1) 17 (cS S) h1) 19 (cS S) c1) 18 (cS S) d1)) 10 6 from hM.ob) rfl (am_wi_set _ _ _ _ _ rfl rfl) ?_
          refine wp_aload_n eX6_shelf_92 rfl ?_
          refine wp_getI (v := (up2 (up2 (up2 (up2 (up2 S 16 (cS S) r1) 17 (cS S) h1) 19 (cS S) c1) 18 (cS S) d1) 10 11 ((nI (cS S)) + 1)) 10 11) eX6_shelf_93 (show Ob (am_wi h (up2 (up2 (up2 (up2 (up2 S 16 (cS S) r1) 17 (cS S) h1) 19 (cS S) c1) 18 (cS S) d1) 10 11 ((nI (cS S)) + 1))) 10 6 from hM.ob) rfl rfl ?_
          refine wp_iconst (v := 1) eX6_shelf_96 rfl ?_
          refine wp_isub eX6_shelf_97 ?_
          exact wp_iret eX6_shelf_98 ⟨congrArg (fun z => some (Value.int z)) (by simp only [kSh, decide_eq_true_eq]; split <;> first | exact nI_succ_pred _ | (exfalso; simp only [Int32.lt_iff_toInt_lt, Int32.le_iff_toInt_le, ← Int32.toInt_inj, Int32.reduceToInt] at *; omega)), by simp only [sSh, kSh, decide_eq_true_eq]; (repeat' split) <;> first | rfl | (exfalso; simp only [Int32.lt_iff_toInt_lt, Int32.le_iff_toInt_le, ← Int32.toInt_inj, Int32.reduceToInt] at *; omega)⟩
        · refine wp_iconst (v := (-1)) eX6_shelf_39 rfl ?_
          exact wp_iret eX6_shelf_40 ⟨congrArg (fun z => some (Value.int z)) (by simp only [kSh, decide_eq_true_eq]; (repeat' split) <;> first | rfl | (exfalso; simp only [Int32.lt_iff_toInt_lt, Int32.le_iff_toInt_le, ← Int32.toInt_inj, Int32.reduceToInt] at *; omega)), by simp only [sSh, kSh, decide_eq_true_eq]; (repeat' split) <;> first | rfl | (exfalso; simp only [Int32.lt_iff_toInt_lt, Int32.le_iff_toInt_le, ← Int32.toInt_inj, Int32.reduceToInt] at *; omega)⟩

def onN (S : St) (t : Nat) : Nat := (S 27 t).toNatClampNeg
/-- a thing's shelf is one -/
def OW (S : St) (t : Nat) : Prop := S 27 t = nI (onN S t) ∧ onN S t < cS S
def sFeeV (S : St) (t : Nat) : Int32 := if S 26 t = 0 ∨ S 26 t = 2 then sFee S t else -4
def sLeave (S : St) (t : Nat) (w : Int32) : St := up2 (up2 S 10 4 (S 10 4 + 2 * S 18 (onN S t))) 26 t w

set_option maxRecDepth 4000 in
theorem rX6_tear_in (d : Nat) {h : Hp} (hM : MOK h) (S : St) (hW : MW S) (s : Nat) (hs : s < cS S) : Res (d + 2) nX6_tear [.ref 10, .int (nI s)] (am_wi h S) (some (.int (if S 20 s = 0 then 1 else 0))) (am_wi h (if S 20 s = 0 then up2 S 20 s 1 else S)) := by
  have h5 := hW.1.2
  have h11 := hW.2.1.2
  have h12 := hW.2.2.1.2
  have h29 := hW.2.2.2.2
  refine Res_intro (ls := [some (.ref 10), some (.int (nI s))]) aX6_tear rfl rfl rfl rfl ?_
  show WP kX6_tear _ _ _ _ _ _
  refine wp_iload_n eX6_tear_0 rfl ?_
  refine wp_iconst (v := 0) eX6_tear_1 rfl ?_
  refine wp_aload_n eX6_tear_2 rfl ?_
  refine wp_getI (v := S 10 11) eX6_tear_3 (show Ob (am_wi h S) 10 6 from hM.ob) rfl rfl ?_
  refine wp_iconst (v := 1) eX6_tear_6 rfl ?_
  refine wp_isub eX6_tear_7 ?_
  refine wp_stat (rv := (some (.int (sIn (nI s) 0 ((S 10 11) - 1))))) (h' := am_wi h S) (r := []) eX6_tear_8 [.int (nI s), .int 0, .int ((S 10 11) - 1)] rfl rfl rfl rfl (rX6_in _ _ _ _ _) ?_
  refine wp_ifF eX6_tear_11 (show ¬ ((sIn (nI s) 0 ((S 10 11) - 1)) = 0) from (by rw [sIn_in hW.2.1.1 hs (by omega)]; decide)) ?_
  refine wp_aload_n eX6_tear_14 rfl ?_
  refine wp_getR (v := 20) eX6_tear_15 (show Ob (am_wi h S) 10 6 from hM.ob) rfl hM.r17 ?_
  refine wp_iload_n eX6_tear_18 rfl ?_
  refine wp_zal (v := S 20 s) (t := s) eX6_tear_19 (show Ar (am_wi h S) 20 8 16 from hM.a20) (by omega) rfl rfl ?_
  refine wp_if eX6_tear_20 (fun (c_20 : (S 20 s) = 0) => ?_) (fun (c_20 : ¬ ((S 20 s) = 0)) => ?_)
  · refine wp_aload_n eX6_tear_25 rfl ?_
    refine wp_getR (v := 20) eX6_tear_26 (show Ob (am_wi h S) 10 6 from hM.ob) rfl hM.r17 ?_
    refine wp_iload_n eX6_tear_29 rfl ?_
    refine wp_iconst (v := 1) eX6_tear_30 rfl ?_
    refine wp_zas (t := s) (h' := am_wi h (up2 S 20 s 1)) eX6_tear_31 (show Ar (am_wi h S) 20 8 16 from hM.a20) (by omega) rfl (by first | exact Or.inl rfl | exact Or.inr rfl | assumption) (am_wi_set _ _ _ _ _ rfl rfl) ?_
    refine wp_iconst (v := 1) eX6_tear_32 rfl ?_
    exact wp_zret eX6_tear_33 (by first | exact Or.inl rfl | exact Or.inr rfl | assumption) ⟨congrArg (fun z => some (Value.int z)) (by split <;> first | rfl | (exfalso; simp_all; done)), by split <;> first | rfl | (exfalso; simp_all; done)⟩
  · refine wp_iconst (v := 0) eX6_tear_23 rfl ?_
    exact wp_zret eX6_tear_24 (by first | exact Or.inl rfl | exact Or.inr rfl | assumption) ⟨congrArg (fun z => some (Value.int z)) (by split <;> first | rfl | (exfalso; simp_all; done)), by split <;> first | rfl | (exfalso; simp_all; done)⟩

set_option maxRecDepth 4000 in
theorem rX6_tear_out (d : Nat) {h : Hp} (hM : MOK h) (S : St) (hW : MW S) (x : Int32) (hx : ∀ c, c < cS S → ¬ x = nI c) : Res (d + 2) nX6_tear [.ref 10, .int x] (am_wi h S) (some (.int 0)) (am_wi h S) := by
  have h5 := hW.1.2
  have h11 := hW.2.1.2
  have h12 := hW.2.2.1.2
  have h29 := hW.2.2.2.2
  refine Res_intro (ls := [some (.ref 10), some (.int x)]) aX6_tear rfl rfl rfl rfl ?_
  show WP kX6_tear _ _ _ _ _ _
  refine wp_iload_n eX6_tear_0 rfl ?_
  refine wp_iconst (v := 0) eX6_tear_1 rfl ?_
  refine wp_aload_n eX6_tear_2 rfl ?_
  refine wp_getI (v := S 10 11) eX6_tear_3 (show Ob (am_wi h S) 10 6 from hM.ob) rfl rfl ?_
  refine wp_iconst (v := 1) eX6_tear_6 rfl ?_
  refine wp_isub eX6_tear_7 ?_
  refine wp_stat (rv := (some (.int (sIn x 0 ((S 10 11) - 1))))) (h' := am_wi h S) (r := []) eX6_tear_8 [.int x, .int 0, .int ((S 10 11) - 1)] rfl rfl rfl rfl (rX6_in _ _ _ _ _) ?_
  refine wp_ifT eX6_tear_11 (show (sIn x 0 ((S 10 11) - 1)) = 0 from (sIn_out hW.2.1.1 hx (by omega))) ?_
  refine wp_iconst (v := 0) eX6_tear_23 rfl ?_
  exact wp_zret eX6_tear_24 (by first | exact Or.inl rfl | exact Or.inr rfl | assumption) ⟨congrArg (fun z => some (Value.int z)) (rfl), rfl⟩

set_option maxRecDepth 4000 in
theorem rX6_mend_in (d : Nat) {h : Hp} (hM : MOK h) (S : St) (hW : MW S) (s : Nat) (hs : s < cS S) : Res (d + 2) nX6_mend [.ref 10, .int (nI s)] (am_wi h S) (some (.int (if ¬ S 20 s = 0 then 1 else 0))) (am_wi h (if ¬ S 20 s = 0 then up2 S 20 s 0 else S)) := by
  have h5 := hW.1.2
  have h11 := hW.2.1.2
  have h12 := hW.2.2.1.2
  have h29 := hW.2.2.2.2
  refine Res_intro (ls := [some (.ref 10), some (.int (nI s))]) aX6_mend rfl rfl rfl rfl ?_
  show WP kX6_mend _ _ _ _ _ _
  refine wp_iload_n eX6_mend_0 rfl ?_
  refine wp_iconst (v := 0) eX6_mend_1 rfl ?_
  refine wp_aload_n eX6_mend_2 rfl ?_
  refine wp_getI (v := S 10 11) eX6_mend_3 (show Ob (am_wi h S) 10 6 from hM.ob) rfl rfl ?_
  refine wp_iconst (v := 1) eX6_mend_6 rfl ?_
  refine wp_isub eX6_mend_7 ?_
  refine wp_stat (rv := (some (.int (sIn (nI s) 0 ((S 10 11) - 1))))) (h' := am_wi h S) (r := []) eX6_mend_8 [.int (nI s), .int 0, .int ((S 10 11) - 1)] rfl rfl rfl rfl (rX6_in _ _ _ _ _) ?_
  refine wp_ifF eX6_mend_11 (show ¬ ((sIn (nI s) 0 ((S 10 11) - 1)) = 0) from (by rw [sIn_in hW.2.1.1 hs (by omega)]; decide)) ?_
  refine wp_aload_n eX6_mend_14 rfl ?_
  refine wp_getR (v := 20) eX6_mend_15 (show Ob (am_wi h S) 10 6 from hM.ob) rfl hM.r17 ?_
  refine wp_iload_n eX6_mend_18 rfl ?_
  refine wp_zal (v := S 20 s) (t := s) eX6_mend_19 (show Ar (am_wi h S) 20 8 16 from hM.a20) (by omega) rfl rfl ?_
  refine wp_if eX6_mend_20 (fun (c_20 : ¬ (S 20 s) = 0) => ?_) (fun (c_20 : ¬ (¬ (S 20 s) = 0)) => ?_)
  · refine wp_aload_n eX6_mend_25 rfl ?_
    refine wp_getR (v := 20) eX6_mend_26 (show Ob (am_wi h S) 10 6 from hM.ob) rfl hM.r17 ?_
    refine wp_iload_n eX6_mend_29 rfl ?_
    refine wp_iconst (v := 0) eX6_mend_30 rfl ?_
    refine wp_zas (t := s) (h' := am_wi h (up2 S 20 s 0)) eX6_mend_31 (show Ar (am_wi h S) 20 8 16 from hM.a20) (by omega) rfl (by first | exact Or.inl rfl | exact Or.inr rfl | assumption) (am_wi_set _ _ _ _ _ rfl rfl) ?_
    refine wp_iconst (v := 1) eX6_mend_32 rfl ?_
    exact wp_zret eX6_mend_33 (by first | exact Or.inl rfl | exact Or.inr rfl | assumption) ⟨congrArg (fun z => some (Value.int z)) (by split <;> first | rfl | (exfalso; simp_all; done)), by split <;> first | rfl | (exfalso; simp_all; done)⟩
  · refine wp_iconst (v := 0) eX6_mend_23 rfl ?_
    exact wp_zret eX6_mend_24 (by first | exact Or.inl rfl | exact Or.inr rfl | assumption) ⟨congrArg (fun z => some (Value.int z)) (by split <;> first | rfl | (exfalso; simp_all; done)), by split <;> first | rfl | (exfalso; simp_all; done)⟩

set_option maxRecDepth 4000 in
theorem rX6_mend_out (d : Nat) {h : Hp} (hM : MOK h) (S : St) (hW : MW S) (x : Int32) (hx : ∀ c, c < cS S → ¬ x = nI c) : Res (d + 2) nX6_mend [.ref 10, .int x] (am_wi h S) (some (.int 0)) (am_wi h S) := by
  have h5 := hW.1.2
  have h11 := hW.2.1.2
  have h12 := hW.2.2.1.2
  have h29 := hW.2.2.2.2
  refine Res_intro (ls := [some (.ref 10), some (.int x)]) aX6_mend rfl rfl rfl rfl ?_
  show WP kX6_mend _ _ _ _ _ _
  refine wp_iload_n eX6_mend_0 rfl ?_
  refine wp_iconst (v := 0) eX6_mend_1 rfl ?_
  refine wp_aload_n eX6_mend_2 rfl ?_
  refine wp_getI (v := S 10 11) eX6_mend_3 (show Ob (am_wi h S) 10 6 from hM.ob) rfl rfl ?_
  refine wp_iconst (v := 1) eX6_mend_6 rfl ?_
  refine wp_isub eX6_mend_7 ?_
  refine wp_stat (rv := (some (.int (sIn x 0 ((S 10 11) - 1))))) (h' := am_wi h S) (r := []) eX6_mend_8 [.int x, .int 0, .int ((S 10 11) - 1)] rfl rfl rfl rfl (rX6_in _ _ _ _ _) ?_
  refine wp_ifT eX6_mend_11 (show (sIn x 0 ((S 10 11) - 1)) = 0 from (sIn_out hW.2.1.1 hx (by omega))) ?_
  refine wp_iconst (v := 0) eX6_mend_23 rfl ?_
  exact wp_zret eX6_mend_24 (by first | exact Or.inl rfl | exact Or.inr rfl | assumption) ⟨congrArg (fun z => some (Value.int z)) (rfl), rfl⟩

set_option maxRecDepth 4000 in
theorem rX6_leaves (d : Nat) {h : Hp} (hM : MOK h) (S : St) (hW : MW S) (t : Nat) (w : Int32) (ht : t < 120) (hO : OW S t) : Res (d + 1) nX6_leaves [.ref 10, .int (nI t), .int w] (am_wi h S) none (am_wi h (sLeave S t w)) := by
  have h11 := hW.2.1.2
  obtain ⟨hO, hO2⟩ := id hO
  have hO := (⟨hO, hO2⟩ : OW S t)
  refine Res_intro (ls := [some (.ref 10), some (.int (nI t)), some (.int w)]) aX6_leaves rfl rfl rfl rfl ?_
  show WP kX6_leaves _ _ _ _ _ _
  refine wp_aload_n eX6_leaves_0 rfl ?_
  refine wp_dup eX6_leaves_1 rfl ?_
  refine wp_getI (v := S 10 4) eX6_leaves_2 (show Ob (am_wi h S) 10 6 from hM.ob) rfl rfl ?_
  refine wp_iconst (v := 2) eX6_leaves_5 rfl ?_
  refine wp_aload_n eX6_leaves_6 rfl ?_
  refine wp_getR (v := 18) eX6_leaves_7 (show Ob (am_wi h S) 10 6 from hM.ob) rfl hM.r15 ?_
  refine wp_aload_n eX6_leaves_10 rfl ?_
  refine wp_getR (v := 27) eX6_leaves_11 (show Ob (am_wi h S) 10 6 from hM.ob) rfl hM.r24 ?_
  refine wp_iload_n eX6_leaves_14 rfl ?_
  refine wp_ial (v := nI (onN S t)) (t := t) eX6_leaves_15 (show Ar (am_wi h S) 27 7 120 from hM.a27) (by omega) rfl hO.1 ?_
  refine wp_ial (v := S 18 (onN S t)) (t := onN S t) eX6_leaves_16 (show Ar (am_wi h S) 18 7 16 from hM.a18) (by omega) rfl rfl ?_
  refine wp_imul eX6_leaves_17 ?_
  refine wp_iadd eX6_leaves_18 ?_
  refine wp_putI (h' := am_wi h (up2 S 10 4 ((S 10 4) + (2 * (S 18 (onN S t)))))) eX6_leaves_19 (show Ob (am_wi h S) 10 6 from hM.ob) rfl (am_wi_set _ _ _ _ _ rfl rfl) ?_
  refine wp_aload_n eX6_leaves_22 rfl ?_
  refine wp_getR (v := 26) eX6_leaves_23 (show Ob (am_wi h (up2 S 10 4 ((S 10 4) + (2 * (S 18 (onN S t)))))) 10 6 from hM.ob) rfl hM.r23 ?_
  refine wp_iload_n eX6_leaves_26 rfl ?_
  refine wp_iload_n eX6_leaves_27 rfl ?_
  refine wp_ias (t := t) (h' := am_wi h (up2 (up2 S 10 4 ((S 10 4) + (2 * (S 18 (onN S t))))) 26 t w)) eX6_leaves_28 (show Ar (am_wi h (up2 S 10 4 ((S 10 4) + (2 * (S 18 (onN S t)))))) 26 7 120 from hM.a26) (by omega) rfl (am_wi_set _ _ _ _ _ rfl rfl) ?_
  exact wp_vret eX6_leaves_29 ⟨rfl, rfl⟩

set_option maxRecDepth 4000 in
theorem rX6_fee_in (d : Nat) {h : Hp} (hM : MOK h) (S : St) (hW : MW S) (x : Int32) (t : Nat) (ht : t < cT S) (hx : sThOf S x = nI t) (hF : FW S t) (hle : sF S t ≤ sL S t + 1) : Res (d + 3) nX6_fee [.ref 10, .int x] (am_wi h S) (some (.int (sFeeV S t))) (am_wi h S) := by
  have h5 := hW.1.2
  have h11 := hW.2.1.2
  have h12 := hW.2.2.1.2
  have h29 := hW.2.2.2.2
  refine Res_intro (ls := [some (.ref 10), some (.int x), none]) aX6_fee rfl rfl rfl rfl ?_
  show WP kX6_fee _ _ _ _ _ _
  refine wp_aload_n eX6_fee_0 rfl ?_
  refine wp_iload_n eX6_fee_1 rfl ?_
  refine wp_virt (rv := (some (.int (sThOf S x)))) (h' := am_wi h S) (r := []) eX6_fee_2 [.int x] rfl rfl rfl (show Ob (am_wi h S) 10 6 from hM.ob) (rX6_thingOf _ hM _ _) ?_
  refine wp_top (y := nI t) hx ?_
  refine wp_istore_n (ls' := [some (.ref 10), some (.int x), some (.int (nI t))]) eX6_fee_5 rfl rfl ?_
  refine wp_iload_n eX6_fee_6 rfl ?_
  refine wp_ifT eX6_fee_7 (show 0 ≤ (nI t) from (nI_pos' (by omega))) ?_
  refine wp_aload_n eX6_fee_12 rfl ?_
  refine wp_getR (v := 26) eX6_fee_13 (show Ob (am_wi h S) 10 6 from hM.ob) rfl hM.r23 ?_
  refine wp_iload_n eX6_fee_16 rfl ?_
  refine wp_ial (v := S 26 t) (t := t) eX6_fee_17 (show Ar (am_wi h S) 26 7 120 from hM.a26) (by omega) rfl rfl ?_
  refine wp_if eX6_fee_18 (fun (c_18 : (S 26 t) = 0) => ?_) (fun (c_18 : ¬ ((S 26 t) = 0)) => ?_)
  · refine wp_aload_n eX6_fee_31 rfl ?_
    refine wp_iload_n eX6_fee_32 rfl ?_
    refine wp_virt (rv := (some (.int (sFee S t)))) (h' := am_wi h S) (r := []) eX6_fee_33 [.int (nI t)] rfl rfl rfl (show Ob (am_wi h S) 10 6 from hM.ob) (rX6_feeOf _ hM _ hW _ (by omega) hF hle) ?_
    refine wp_goto eX6_fee_36 ?_
    exact wp_iret eX6_fee_41 ⟨congrArg (fun z => some (Value.int z)) (by simp only [sFeeV]; (repeat' split) <;> first | rfl | (exfalso; simp_all; done) | (exfalso; simp only [Int32.lt_iff_toInt_lt, Int32.le_iff_toInt_le, ← Int32.toInt_inj, Int32.reduceToInt] at *; omega)), rfl⟩
  · refine wp_aload_n eX6_fee_21 rfl ?_
    refine wp_getR (v := 26) eX6_fee_22 (show Ob (am_wi h S) 10 6 from hM.ob) rfl hM.r23 ?_
    refine wp_iload_n eX6_fee_25 rfl ?_
    refine wp_ial (v := S 26 t) (t := t) eX6_fee_26 (show Ar (am_wi h S) 26 7 120 from hM.a26) (by omega) rfl rfl ?_
    refine wp_iconst (v := 2) eX6_fee_27 rfl ?_
    refine wp_icmp eX6_fee_28 (fun (c_28 : ¬ (S 26 t) = 2) => ?_) (fun (c_28 : ¬ (¬ (S 26 t) = 2)) => ?_)
    · refine wp_bipush (v := (-4)) eX6_fee_39 rfl ?_
      exact wp_iret eX6_fee_41 ⟨congrArg (fun z => some (Value.int z)) (by simp only [sFeeV]; (repeat' split) <;> first | rfl | (exfalso; simp_all; done) | (exfalso; simp only [Int32.lt_iff_toInt_lt, Int32.le_iff_toInt_le, ← Int32.toInt_inj, Int32.reduceToInt] at *; omega)), rfl⟩
    · refine wp_aload_n eX6_fee_31 rfl ?_
      refine wp_iload_n eX6_fee_32 rfl ?_
      refine wp_virt (rv := (some (.int (sFee S t)))) (h' := am_wi h S) (r := []) eX6_fee_33 [.int (nI t)] rfl rfl rfl (show Ob (am_wi h S) 10 6 from hM.ob) (rX6_feeOf _ hM _ hW _ (by omega) hF hle) ?_
      refine wp_goto eX6_fee_36 ?_
      exact wp_iret eX6_fee_41 ⟨congrArg (fun z => some (Value.int z)) (by simp only [sFeeV]; (repeat' split) <;> first | rfl | (exfalso; simp_all; done) | (exfalso; simp only [Int32.lt_iff_toInt_lt, Int32.le_iff_toInt_le, ← Int32.toInt_inj, Int32.reduceToInt] at *; omega)), rfl⟩

set_option maxRecDepth 4000 in
theorem rX6_fee_out (d : Nat) {h : Hp} (hM : MOK h) (S : St) (hW : MW S) (x : Int32) (hx : sThOf S x < 0) : Res (d + 3) nX6_fee [.ref 10, .int x] (am_wi h S) (some (.int (sThOf S x))) (am_wi h S) := by
  have h5 := hW.1.2
  have h11 := hW.2.1.2
  have h12 := hW.2.2.1.2
  have h29 := hW.2.2.2.2
  refine Res_intro (ls := [some (.ref 10), some (.int x), none]) aX6_fee rfl rfl rfl rfl ?_
  show WP kX6_fee _ _ _ _ _ _
  refine wp_aload_n eX6_fee_0 rfl ?_
  refine wp_iload_n eX6_fee_1 rfl ?_
  refine wp_virt (rv := (some (.int (sThOf S x)))) (h' := am_wi h S) (r := []) eX6_fee_2 [.int x] rfl rfl rfl (show Ob (am_wi h S) 10 6 from hM.ob) (rX6_thingOf _ hM _ _) ?_
  refine wp_istore_n (ls' := [some (.ref 10), some (.int x), some (.int (sThOf S x))]) eX6_fee_5 rfl rfl ?_
  refine wp_iload_n eX6_fee_6 rfl ?_
  refine wp_ifF eX6_fee_7 (show ¬ (0 ≤ (sThOf S x)) from (Int32.not_le.mpr hx)) ?_
  refine wp_iload_n eX6_fee_10 rfl ?_
  exact wp_iret eX6_fee_11 ⟨congrArg (fun z => some (Value.int z)) (rfl), rfl⟩
