/-! THE CLASS: prices, shelf, claim -/
def cN2 (h : Hp) (v0 v1 v2 v3 v4 : Int32) : Hp := am_setI (am_setI (am_setI (am_setI (am_setI (am_new h 2 0 5) (am_n h) 0 v0) (am_n h) 1 v1) (am_n h) 2 v2) (am_n h) 3 v3) (am_n h) 4 v4
def cN3 (h : Hp) (v0 v1 v2 v3 v4 : Int32) : Hp := am_setI (am_setI (am_setI (am_setI (am_setI (am_setI (am_new h 3 0 8) (am_n h) 0 v0) (am_n h) 1 v1) (am_n h) 2 v2) (am_n h) 3 v3) (am_n h) 4 v4) (am_n h) 5 v1
def cN4 (h : Hp) (v0 v1 v2 v3 v4 v5 v6 : Int32) : Hp := am_setI (am_setI (am_setI (am_setI (am_setI (am_setI (am_setI (am_setI (am_setI (am_new h 4 0 11) (am_n h) 0 v0) (am_n h) 1 v1) (am_n h) 2 v2) (am_n h) 3 v3) (am_n h) 4 v4) (am_n h) 5 v5) (am_n h) 6 v6) (am_n h) 7 0) (am_n h) 10 ((-1))
def cN1 (h : Hp) : Hp := am_setI (am_setI (am_setI (am_setI (am_setI (am_setR (am_new (am_new h 1 0 3) 7 4 4) (am_n h) 0 (some (am_n h + 1))) (am_n h + 1) 0 ((-1))) (am_n h + 1) 1 ((-1))) (am_n h + 1) 2 ((-1))) (am_n h + 1) 3 ((-1))) (am_n h) 2 (-1)
theorem cN2_ext (h : Hp) (v0 v1 v2 v3 v4 : Int32) : Ext h (cN2 h v0 v1 v2 v3 v4) := by unfold cN2; (repeat' refine Ext.setI ?_ (Nat.le_refl _)); exact Ext.new _ _ _ _
theorem cN3_ext (h : Hp) (v0 v1 v2 v3 v4 : Int32) : Ext h (cN3 h v0 v1 v2 v3 v4) := by unfold cN3; (repeat' refine Ext.setI ?_ (Nat.le_refl _)); exact Ext.new _ _ _ _
theorem cN4_ext (h : Hp) (v0 v1 v2 v3 v4 v5 v6 : Int32) : Ext h (cN4 h v0 v1 v2 v3 v4 v5 v6) := by unfold cN4; (repeat' refine Ext.setI ?_ (Nat.le_refl _)); exact Ext.new _ _ _ _
theorem cN1_ext (h : Hp) : Ext h (cN1 h) := by
  unfold cN1
  refine Ext.setI ?_ (Nat.le_refl _)
  (repeat' refine Ext.setI ?_ (Nat.le_succ _))
  refine Ext.setR ?_ (Nat.le_refl _)
  exact (Ext.new _ _ _ _).trans (Ext.new _ _ _ _)
theorem cN2_ob (h : Hp) (v0 v1 v2 v3 v4 : Int32) (h0 : 0 < am_n h) : Ob (cN2 h v0 v1 v2 v3 v4) (am_n h) 2 := by unfold cN2; exact Ob.fresh h 2 0 5 h0
theorem cN3_ob (h : Hp) (v0 v1 v2 v3 v4 : Int32) (h0 : 0 < am_n h) : Ob (cN3 h v0 v1 v2 v3 v4) (am_n h) 3 := Ob.fresh h 3 0 8 h0
theorem cN4_ob (h : Hp) (v0 v1 v2 v3 v4 v5 v6 : Int32) (h0 : 0 < am_n h) : Ob (cN4 h v0 v1 v2 v3 v4 v5 v6) (am_n h) 4 := Ob.fresh h 4 0 11 h0
theorem cN1_o1 (h : Hp) (h0 : 0 < am_n h) : Ob (am_new (am_new h 1 0 3) 7 4 4) (am_n h) 1 := (Ext.new _ _ _ _).gr.ob (Ob.fresh h 1 0 3 h0)
theorem cN1_o (h : Hp) (h0 : 0 < am_n h) : Ob (cN1 h) (am_n h) 1 := by unfold cN1; exact cN1_o1 h h0
theorem cN1_a (h : Hp) : Ar (am_new (am_new h 1 0 3) 7 4 4) (am_n h + 1) 7 4 := ⟨⟨Nat.succ_pos _, Nat.lt_succ_self _, if_pos rfl⟩, if_pos rfl⟩
theorem Ob.setR {h : Hp} {a k b j : Nat} {v : Option Nat} (o : Ob h a k) : Ob (am_setR h b j v) a k := o
theorem Ob.setI {h : Hp} {a k b j : Nat} {v : Int32} (o : Ob h a k) : Ob (am_setI h b j v) a k := o
theorem Ar.setR {h : Hp} {a k n b j : Nat} {v : Option Nat} (o : Ar h a k n) : Ar (am_setR h b j v) a k n := o
theorem Ar.setI {h : Hp} {a k n b j : Nat} {v : Int32} (o : Ar h a k n) : Ar (am_setI h b j v) a k n := o
theorem CR.n38 {S : St} {h : Hp} (hR : CR S h) : 9 < am_n h := hR.1.a9.1.2.1
theorem CR.pos {S : St} {h : Hp} (hR : CR S h) : 0 < am_n h := Nat.lt_trans (by decide) hR.n38

set_option maxRecDepth 4000 in
theorem rX1_init (d : Nat) {h : Hp} (h0 : 0 < am_n h) : Res (d + 1) nX1_init [.ref (am_n h)] (am_new h 1 0 3) none (cN1 h) := by
  refine Res_intro (ls := [some (.ref (am_n h)), none]) aX1_init rfl rfl rfl rfl ?_
  show WP kX1_init _ _ _ _ _ _
  refine wp_aload_n eX1_init_0 rfl ?_
  refine wp_obj eX1_init_1 rfl ?_
  refine wp_aload_n eX1_init_4 rfl ?_
  refine wp_iconst (v := 4) eX1_init_5 rfl ?_
  refine wp_newarray (N := 4) (a := am_n h + 1) (h' := am_new (am_new h 1 0 3) 7 4 4) eX1_init_6 (by decide) rfl (by decide) rfl rfl ?_
  refine wp_putR (h' := am_setR (am_new (am_new h 1 0 3) 7 4 4) (am_n h) 0 (some (am_n h + 1))) eX1_init_8 (show Ob (am_new (am_new h 1 0 3) 7 4 4) (am_n h) 1 from cN1_o1 h h0) rfl rfl ?_
  refine wp_iconst (v := 0) eX1_init_11 rfl ?_
  refine wp_istore_n (ls' := [some (.ref (am_n h)), some (.int 0)]) eX1_init_12 rfl rfl ?_
  refine wp_iload_n eX1_init_13 rfl ?_
  refine wp_iconst (v := 4) eX1_init_14 rfl ?_
  refine wp_icmpF eX1_init_15 (show ¬ (4 ≤ 0) from (by decide)) ?_
  refine wp_aload_n eX1_init_18 rfl ?_
  refine wp_getR (v := am_n h + 1) eX1_init_19 (show Ob (am_setR (am_new (am_new h 1 0 3) 7 4 4) (am_n h) 0 (some (am_n h + 1))) (am_n h) 1 from cN1_o1 h h0) rfl (by simp [am_setI, am_setR, am_r]) ?_
  refine wp_iload_n eX1_init_22 rfl ?_
  refine wp_iconst (v := (-1)) eX1_init_23 rfl ?_
  refine wp_ias (t := 0) (h' := am_setI (am_setR (am_new (am_new h 1 0 3) 7 4 4) (am_n h) 0 (some (am_n h + 1))) (am_n h + 1) 0 ((-1))) eX1_init_24 (show Ar (am_setR (am_new (am_new h 1 0 3) 7 4 4) (am_n h) 0 (some (am_n h + 1))) (am_n h + 1) 7 4 from cN1_a h) (by omega) rfl rfl ?_
  refine wp_iinc (v := 1) (ls' := [some (.ref (am_n h)), some (.int 1)]) eX1_init_25 rfl rfl rfl ?_
  refine wp_goto eX1_init_28 ?_
  refine wp_iload_n eX1_init_13 rfl ?_
  refine wp_iconst (v := 4) eX1_init_14 rfl ?_
  refine wp_icmpF eX1_init_15 (show ¬ (4 ≤ 1) from (by decide)) ?_
  refine wp_aload_n eX1_init_18 rfl ?_
  refine wp_getR (v := am_n h + 1) eX1_init_19 (show Ob (am_setI (am_setR (am_new (am_new h 1 0 3) 7 4 4) (am_n h) 0 (some (am_n h + 1))) (am_n h + 1) 0 ((-1))) (am_n h) 1 from cN1_o1 h h0) rfl (by simp [am_setI, am_setR, am_r]) ?_
  refine wp_iload_n eX1_init_22 rfl ?_
  refine wp_iconst (v := (-1)) eX1_init_23 rfl ?_
  refine wp_ias (t := 1) (h' := am_setI (am_setI (am_setR (am_new (am_new h 1 0 3) 7 4 4) (am_n h) 0 (some (am_n h + 1))) (am_n h + 1) 0 ((-1))) (am_n h + 1) 1 ((-1))) eX1_init_24 (show Ar (am_setI (am_setR (am_new (am_new h 1 0 3) 7 4 4) (am_n h) 0 (some (am_n h + 1))) (am_n h + 1) 0 ((-1))) (am_n h + 1) 7 4 from cN1_a h) (by omega) rfl rfl ?_
  refine wp_iinc (v := 2) (ls' := [some (.ref (am_n h)), some (.int 2)]) eX1_init_25 rfl rfl rfl ?_
  refine wp_goto eX1_init_28 ?_
  refine wp_iload_n eX1_init_13 rfl ?_
  refine wp_iconst (v := 4) eX1_init_14 rfl ?_
  refine wp_icmpF eX1_init_15 (show ¬ (4 ≤ 2) from (by decide)) ?_
  refine wp_aload_n eX1_init_18 rfl ?_
  refine wp_getR (v := am_n h + 1) eX1_init_19 (show Ob (am_setI (am_setI (am_setR (am_new (am_new h 1 0 3) 7 4 4) (am_n h) 0 (some (am_n h + 1))) (am_n h + 1) 0 ((-1))) (am_n h + 1) 1 ((-1))) (am_n h) 1 from cN1_o1 h h0) rfl (by simp [am_setI, am_setR, am_r]) ?_
  refine wp_iload_n eX1_init_22 rfl ?_
  refine wp_iconst (v := (-1)) eX1_init_23 rfl ?_
  refine wp_ias (t := 2) (h' := am_setI (am_setI (am_setI (am_setR (am_new (am_new h 1 0 3) 7 4 4) (am_n h) 0 (some (am_n h + 1))) (am_n h + 1) 0 ((-1))) (am_n h + 1) 1 ((-1))) (am_n h + 1) 2 ((-1))) eX1_init_24 (show Ar (am_setI (am_setI (am_setR (am_new (am_new h 1 0 3) 7 4 4) (am_n h) 0 (some (am_n h + 1))) (am_n h + 1) 0 ((-1))) (am_n h + 1) 1 ((-1))) (am_n h + 1) 7 4 from cN1_a h) (by omega) rfl rfl ?_
  refine wp_iinc (v := 3) (ls' := [some (.ref (am_n h)), some (.int 3)]) eX1_init_25 rfl rfl rfl ?_
  refine wp_goto eX1_init_28 ?_
  refine wp_iload_n eX1_init_13 rfl ?_
  refine wp_iconst (v := 4) eX1_init_14 rfl ?_
  refine wp_icmpF eX1_init_15 (show ¬ (4 ≤ 3) from (by decide)) ?_
  refine wp_aload_n eX1_init_18 rfl ?_
  refine wp_getR (v := am_n h + 1) eX1_init_19 (show Ob (am_setI (am_setI (am_setI (am_setR (am_new (am_new h 1 0 3) 7 4 4) (am_n h) 0 (some (am_n h + 1))) (am_n h + 1) 0 ((-1))) (am_n h + 1) 1 ((-1))) (am_n h + 1) 2 ((-1))) (am_n h) 1 from cN1_o1 h h0) rfl (by simp [am_setI, am_setR, am_r]) ?_
  refine wp_iload_n eX1_init_22 rfl ?_
  refine wp_iconst (v := (-1)) eX1_init_23 rfl ?_
  refine wp_ias (t := 3) (h' := am_setI (am_setI (am_setI (am_setI (am_setR (am_new (am_new h 1 0 3) 7 4 4) (am_n h) 0 (some (am_n h + 1))) (am_n h + 1) 0 ((-1))) (am_n h + 1) 1 ((-1))) (am_n h + 1) 2 ((-1))) (am_n h + 1) 3 ((-1))) eX1_init_24 (show Ar (am_setI (am_setI (am_setI (am_setR (am_new (am_new h 1 0 3) 7 4 4) (am_n h) 0 (some (am_n h + 1))) (am_n h + 1) 0 ((-1))) (am_n h + 1) 1 ((-1))) (am_n h + 1) 2 ((-1))) (am_n h + 1) 7 4 from cN1_a h) (by omega) rfl rfl ?_
  refine wp_iinc (v := 4) (ls' := [some (.ref (am_n h)), some (.int 4)]) eX1_init_25 rfl rfl rfl ?_
  refine wp_goto eX1_init_28 ?_
  refine wp_iload_n eX1_init_13 rfl ?_
  refine wp_iconst (v := 4) eX1_init_14 rfl ?_
  refine wp_icmpT eX1_init_15 (show 4 ≤ 4 from (by decide)) ?_
  refine wp_aload_n eX1_init_31 rfl ?_
  refine wp_iconst (v := (-1)) eX1_init_32 rfl ?_
  refine wp_putI (h' := am_setI (am_setI (am_setI (am_setI (am_setI (am_setR (am_new (am_new h 1 0 3) 7 4 4) (am_n h) 0 (some (am_n h + 1))) (am_n h + 1) 0 ((-1))) (am_n h + 1) 1 ((-1))) (am_n h + 1) 2 ((-1))) (am_n h + 1) 3 ((-1))) (am_n h) 2 ((-1))) eX1_init_33 (show Ob (am_setI (am_setI (am_setI (am_setI (am_setR (am_new (am_new h 1 0 3) 7 4 4) (am_n h) 0 (some (am_n h + 1))) (am_n h + 1) 0 ((-1))) (am_n h + 1) 1 ((-1))) (am_n h + 1) 2 ((-1))) (am_n h + 1) 3 ((-1))) (am_n h) 1 from cN1_o1 h h0) rfl rfl ?_
  exact wp_vret eX1_init_36 ⟨rfl, rfl⟩

theorem kPr_c {S : St} (hW : MW S) (day b1 a1 s1 c1 : Int32) : kPr S day b1 a1 s1 c1 = decide (sIn b1 0 1000 = 1 ∧ sIn a1 0 1000 = 1 ∧ sIn s1 0 1000 = 1 ∧ sIn c1 0 1000 = 1 ∧ ¬ 12 ≤ S 10 5 ∧ (if S 10 5 ≤ 0 then -1 else S 11 (cR S - 1)) < day ∧ ¬ day < 0) := by
  unfold kPr
  apply decide_eq_decide.mpr
  have h5 : S 10 5 = 12 ↔ (12 : Int32) ≤ S 10 5 := by
    obtain ⟨e, q⟩ := hW.1
    rw [e]
    constructor
    · intro z; rw [z]; decide
    · intro z
      rcases Nat.lt_or_ge (cR S) 12 with y | y
      · exact absurd z (nI_ge (a := cR S) (b := 12) y (by decide))
      · rw [show cR S = 12 by omega]; rfl
  rw [← h5]
  constructor
  · rintro ⟨a, b, c, e1, e2, e3, e4⟩
    refine ⟨e1, e2, e3, e4, b, ?_, a⟩
    by_cases q : S 10 5 ≤ 0
    · rw [if_pos q]
      simp only [Int32.lt_iff_toInt_lt, Int32.reduceToInt] at *
      omega
    · rw [if_neg q]
      exact Int32.not_le.mp (fun z => c ⟨q, z⟩)
  · rintro ⟨e1, e2, e3, e4, b, c, a⟩
    refine ⟨a, b, ?_, e1, e2, e3, e4⟩
    rintro ⟨q1, q2⟩
    rw [if_neg q1] at c
    exact absurd q2 (Int32.not_le.mpr c)

theorem kPr_d {S : St} {day : Int32} (hW : MW S) (h : (if S 10 5 ≤ 0 then -1 else S 11 (cR S - 1)) < day) (hrd : 0 < S 10 5 → -1 ≤ S 11 (cR S - 1)) : ¬ day < 0 := by
  intro z
  by_cases q : S 10 5 ≤ 0
  · rw [if_pos q] at h
    simp only [Int32.lt_iff_toInt_lt, Int32.reduceToInt] at *
    omega
  · rw [if_neg q] at h
    have := hrd (Int32.not_le.mp q)
    simp only [Int32.lt_iff_toInt_lt, Int32.le_iff_toInt_le, Int32.reduceToInt] at *
    omega

set_option maxRecDepth 4000 in
theorem bX5_prices (d : Nat) {h : Hp} {S : St} (hR : CR S h) (hW : MW S) (day b1 a1 s1 c1 : Int32) (hrd : 0 < S 10 5 → -1 ≤ S 11 (cR S - 1)) : Res (d + 3) nX5_prices [.ref 1, .int day, .int b1, .int a1, .int s1, .int c1] h (some (.int (if kPr S day b1 a1 s1 c1 = true then 1 else 0))) (if kPr S day b1 a1 s1 c1 = true then am_setI (am_setR (cN2 h day b1 a1 s1 c1) 5 (cR S) (some (am_n h))) 1 7 (nI (cR S) + 1) else h) := by
  have hC := hR.1
  have h5 := hW.1.2
  have h11 := hW.2.1.2
  have h12 := hW.2.2.1.2
  have h29 := hW.2.2.2.2
  have z1 := sIn_01 b1 0 1000
  have z2 := sIn_01 a1 0 1000
  have z3 := sIn_01 s1 0 1000
  have z4 := sIn_01 c1 0 1000
  have z5 := kPr_c hW day b1 a1 s1 c1
  refine Res_intro (ls := [some (.ref 1), some (.int day), some (.int b1), some (.int a1), some (.int s1), some (.int c1)]) aX5_prices rfl rfl rfl rfl ?_
  show WP kX5_prices _ _ _ _ _ _
  refine wp_iload_n eX5_prices_0 rfl ?_
  refine wp_stat (rv := (some (.int (sIn b1 0 1000)))) (h' := h) (r := []) eX5_prices_1 [.int b1] rfl rfl rfl rfl (rX5_isPrice _ _) ?_
  refine wp_if eX5_prices_4 (fun (c_4 : (sIn b1 0 1000) = 0) => ?_) (fun (c_4 : ¬ ((sIn b1 0 1000) = 0)) => ?_)
  · refine wp_iconst (v := 0) eX5_prices_30 rfl ?_
    exact wp_zret eX5_prices_31 (by first | exact Or.inl rfl | exact Or.inr rfl | assumption) ⟨congrArg (fun z => some (Value.int z)) (by rw [z5]; simp only [decide_eq_true_eq]; (repeat' split) <;> first | rfl | (exfalso; simp_all; done) | (exfalso; simp only [Int32.lt_iff_toInt_lt, Int32.le_iff_toInt_le, ← Int32.toInt_inj, Int32.reduceToInt] at *; omega)), by rw [z5]; simp only [decide_eq_true_eq]; (repeat' split) <;> first | rfl | (exfalso; simp_all; done) | (exfalso; simp only [Int32.lt_iff_toInt_lt, Int32.le_iff_toInt_le, ← Int32.toInt_inj, Int32.reduceToInt] at *; omega)⟩
  · refine wp_iload_n eX5_prices_7 rfl ?_
    refine wp_stat (rv := (some (.int (sIn a1 0 1000)))) (h' := h) (r := []) eX5_prices_8 [.int a1] rfl rfl rfl rfl (rX5_isPrice _ _) ?_
    refine wp_if eX5_prices_11 (fun (c_11 : (sIn a1 0 1000) = 0) => ?_) (fun (c_11 : ¬ ((sIn a1 0 1000) = 0)) => ?_)
    · refine wp_iconst (v := 0) eX5_prices_30 rfl ?_
      exact wp_zret eX5_prices_31 (by first | exact Or.inl rfl | exact Or.inr rfl | assumption) ⟨congrArg (fun z => some (Value.int z)) (by rw [z5]; simp only [decide_eq_true_eq]; (repeat' split) <;> first | rfl | (exfalso; simp_all; done) | (exfalso; simp only [Int32.lt_iff_toInt_lt, Int32.le_iff_toInt_le, ← Int32.toInt_inj, Int32.reduceToInt] at *; omega)), by rw [z5]; simp only [decide_eq_true_eq]; (repeat' split) <;> first | rfl | (exfalso; simp_all; done) | (exfalso; simp only [Int32.lt_iff_toInt_lt, Int32.le_iff_toInt_le, ← Int32.toInt_inj, Int32.reduceToInt] at *; omega)⟩
    · refine wp_iload eX5_prices_14 rfl ?_
      refine wp_stat (rv := (some (.int (sIn s1 0 1000)))) (h' := h) (r := []) eX5_prices_16 [.int s1] rfl rfl rfl rfl (rX5_isPrice _ _) ?_
      refine wp_if eX5_prices_19 (fun (c_19 : (sIn s1 0 1000) = 0) => ?_) (fun (c_19 : ¬ ((sIn s1 0 1000) = 0)) => ?_)
      · refine wp_iconst (v := 0) eX5_prices_30 rfl ?_
        exact wp_zret eX5_prices_31 (by first | exact Or.inl rfl | exact Or.inr rfl | assumption) ⟨congrArg (fun z => some (Value.int z)) (by rw [z5]; simp only [decide_eq_true_eq]; (repeat' split) <;> first | rfl | (exfalso; simp_all; done) | (exfalso; simp only [Int32.lt_iff_toInt_lt, Int32.le_iff_toInt_le, ← Int32.toInt_inj, Int32.reduceToInt] at *; omega)), by rw [z5]; simp only [decide_eq_true_eq]; (repeat' split) <;> first | rfl | (exfalso; simp_all; done) | (exfalso; simp only [Int32.lt_iff_toInt_lt, Int32.le_iff_toInt_le, ← Int32.toInt_inj, Int32.reduceToInt] at *; omega)⟩
      · refine wp_iload eX5_prices_22 rfl ?_
        refine wp_stat (rv := (some (.int (sIn c1 0 1000)))) (h' := h) (r := []) eX5_prices_24 [.int c1] rfl rfl rfl rfl (rX5_isPrice _ _) ?_
        refine wp_if eX5_prices_27 (fun (c_27 : ¬ (sIn c1 0 1000) = 0) => ?_) (fun (c_27 : ¬ (¬ (sIn c1 0 1000) = 0)) => ?_)
        · refine wp_aload_n eX5_prices_32 rfl ?_
          refine wp_getI (v := S 10 5) eX5_prices_33 (show Ob h 1 5 from hC.ob) rfl hR.c7 ?_
          refine wp_bipush (v := 12) eX5_prices_36 rfl ?_
          refine wp_icmp eX5_prices_38 (fun (c_38 : 12 ≤ (S 10 5)) => ?_) (fun (c_38 : ¬ (12 ≤ (S 10 5))) => ?_)
          · refine wp_iconst (v := 0) eX5_prices_49 rfl ?_
            exact wp_zret eX5_prices_50 (by first | exact Or.inl rfl | exact Or.inr rfl | assumption) ⟨congrArg (fun z => some (Value.int z)) (by rw [z5]; simp only [decide_eq_true_eq]; (repeat' split) <;> first | rfl | (exfalso; simp_all; done) | (exfalso; simp only [Int32.lt_iff_toInt_lt, Int32.le_iff_toInt_le, ← Int32.toInt_inj, Int32.reduceToInt] at *; omega)), by rw [z5]; simp only [decide_eq_true_eq]; (repeat' split) <;> first | rfl | (exfalso; simp_all; done) | (exfalso; simp only [Int32.lt_iff_toInt_lt, Int32.le_iff_toInt_le, ← Int32.toInt_inj, Int32.reduceToInt] at *; omega)⟩
          · refine wp_iload_n eX5_prices_41 rfl ?_
            refine wp_aload_n eX5_prices_42 rfl ?_
            refine wp_virt (rv := (some (.int (if S 10 5 ≤ 0 then -1 else S 11 (cR S - 1))))) (h' := h) (r := [.int day]) eX5_prices_43 [] rfl rfl rfl (show Ob h 1 5 from hC.ob) (bX5_lastRowDay _ hR hW) ?_
            refine wp_icmp eX5_prices_46 (fun (c_46 : (if S 10 5 ≤ 0 then -1 else S 11 (cR S - 1)) < day) => ?_) (fun (c_46 : ¬ ((if S 10 5 ≤ 0 then -1 else S 11 (cR S - 1)) < day)) => ?_)
            · have hr12 : cR S < 12 := cnt_ne hW.1.1 (show (12 : Int32) = nI 12 from rfl) (by decide) (fun z => c_38 (by rw [z]; decide)) h5
              have hd0 : ¬ day < 0 := kPr_d hW c_46 hrd
              refine wp_aload_n eX5_prices_51 rfl ?_
              refine wp_getR (v := 5) eX5_prices_52 (show Ob h 1 5 from hC.ob) rfl hC.r6 ?_
              refine wp_aload_n eX5_prices_55 rfl ?_
              refine wp_getI (v := S 10 5) eX5_prices_56 (show Ob h 1 5 from hC.ob) rfl hR.c7 ?_
              refine wp_top (y := nI (cR S)) hW.1.1 ?_
              refine wp_new (a := am_n h) (h' := am_new h 2 0 5) eX5_prices_59 rfl rfl ?_
              refine wp_dup eX5_prices_62 rfl ?_
              refine wp_iload_n eX5_prices_63 rfl ?_
              refine wp_iload_n eX5_prices_64 rfl ?_
              refine wp_iload_n eX5_prices_65 rfl ?_
              refine wp_iload eX5_prices_66 rfl ?_
              refine wp_iload eX5_prices_68 rfl ?_
              refine wp_spec (rv := none) (h' := cN2 h day b1 a1 s1 c1) (r := [.ref (am_n h), .int (nI (cR S)), .ref 5]) eX5_prices_70 [.int day, .int b1, .int a1, .int s1, .int c1] rfl rfl rfl rfl (show Res (_ + 1) nX2_init _ _ none (cN2 h day b1 a1 s1 c1) from rX2_init (h := am_new h 2 0 5) _ (am_n h) (Ob.fresh h 2 0 5 hR.pos) _ _ _ _ _) ?_
              have X := cN2_ext h day b1 a1 s1 c1
              have O := cN2_ob h day b1 a1 s1 c1 hR.pos
              have A := X.gr.ar hC.a5
              generalize cN2 h day b1 a1 s1 c1 = g at X O A ⊢
              refine wp_aas (t := cR S) (h' := am_setR g 5 (cR S) (some (am_n h))) eX5_prices_73 A rfl rfl O (by omega) rfl rfl ?_
              refine wp_aload_n eX5_prices_74 rfl ?_
              refine wp_dup eX5_prices_75 rfl ?_
              refine wp_getI (v := nI (cR S)) eX5_prices_76 (show Ob (am_setR g 5 (cR S) (some (am_n h))) 1 5 from (X.gr.ob hC.ob).setR) rfl (by rw [am_i_setR, (X.2 1 hC.ob.2.1).2.2.1, hR.c7]; exact hW.1.1) ?_
              refine wp_iconst (v := 1) eX5_prices_79 rfl ?_
              refine wp_iadd eX5_prices_80 ?_
              refine wp_putI (h' := am_setI (am_setR g 5 (cR S) (some (am_n h))) 1 7 ((nI (cR S)) + 1)) eX5_prices_81 (show Ob (am_setR g 5 (cR S) (some (am_n h))) 1 5 from (X.gr.ob hC.ob).setR) rfl rfl ?_
              refine wp_iconst (v := 1) eX5_prices_84 rfl ?_
              exact wp_zret eX5_prices_85 (by first | exact Or.inl rfl | exact Or.inr rfl | assumption) ⟨congrArg (fun z => some (Value.int z)) (by rw [z5]; simp only [decide_eq_true_eq]; (repeat' split) <;> first | rfl | (exfalso; simp_all; done) | (exfalso; simp only [Int32.lt_iff_toInt_lt, Int32.le_iff_toInt_le, ← Int32.toInt_inj, Int32.reduceToInt] at *; omega)), by rw [z5]; simp only [decide_eq_true_eq]; (repeat' split) <;> first | rfl | (exfalso; simp_all; done) | (exfalso; simp only [Int32.lt_iff_toInt_lt, Int32.le_iff_toInt_le, ← Int32.toInt_inj, Int32.reduceToInt] at *; omega)⟩
            · refine wp_iconst (v := 0) eX5_prices_49 rfl ?_
              exact wp_zret eX5_prices_50 (by first | exact Or.inl rfl | exact Or.inr rfl | assumption) ⟨congrArg (fun z => some (Value.int z)) (by rw [z5]; simp only [decide_eq_true_eq]; (repeat' split) <;> first | rfl | (exfalso; simp_all; done) | (exfalso; simp only [Int32.lt_iff_toInt_lt, Int32.le_iff_toInt_le, ← Int32.toInt_inj, Int32.reduceToInt] at *; omega)), by rw [z5]; simp only [decide_eq_true_eq]; (repeat' split) <;> first | rfl | (exfalso; simp_all; done) | (exfalso; simp only [Int32.lt_iff_toInt_lt, Int32.le_iff_toInt_le, ← Int32.toInt_inj, Int32.reduceToInt] at *; omega)⟩
        · refine wp_iconst (v := 0) eX5_prices_30 rfl ?_
          exact wp_zret eX5_prices_31 (by first | exact Or.inl rfl | exact Or.inr rfl | assumption) ⟨congrArg (fun z => some (Value.int z)) (by rw [z5]; simp only [decide_eq_true_eq]; (repeat' split) <;> first | rfl | (exfalso; simp_all; done) | (exfalso; simp only [Int32.lt_iff_toInt_lt, Int32.le_iff_toInt_le, ← Int32.toInt_inj, Int32.reduceToInt] at *; omega)), by rw [z5]; simp only [decide_eq_true_eq]; (repeat' split) <;> first | rfl | (exfalso; simp_all; done) | (exfalso; simp only [Int32.lt_iff_toInt_lt, Int32.le_iff_toInt_le, ← Int32.toInt_inj, Int32.reduceToInt] at *; omega)⟩

theorem kSh_c {S : St} (hW : MW S) (r1 h1 d1 : Int32) : kSh S r1 h1 d1 = decide (sIn r1 1 60 = 1 ∧ sIn h1 0 2 = 1 ∧ sIn d1 1 99 = 1 ∧ S 10 11 < 16) := by
  unfold kSh
  apply decide_eq_decide.mpr
  have h5 : ¬ S 10 11 = 16 ↔ S 10 11 < 16 := by
    obtain ⟨e, q⟩ := hW.2.1
    rw [e]
    constructor
    · intro z
      rcases Nat.lt_or_ge (cS S) 16 with y | y
      · exact nI_lt (b := 16) y (by decide)
      · exact absurd (show nI (cS S) = 16 by rw [show cS S = 16 by omega]; rfl) z
    · intro z y; rw [y] at z; exact absurd z (by decide)
  rw [h5]

set_option maxRecDepth 4000 in
theorem bX5_shelf (d : Nat) {h : Hp} {S : St} (hR : CR S h) (hW : MW S) (r1 h1 c1 d1 : Int32) (hc1 : c1 = 0 ∨ c1 = 1) : Res (d + 2) nX5_shelf [.ref 1, .int r1, .int h1, .int c1, .int d1] h (some (.int (if kSh S r1 h1 d1 = true then nI (cS S) else -1))) (if kSh S r1 h1 d1 = true then am_setI (am_setR (cN3 h (nI (cS S)) r1 h1 c1 d1) 2 (cS S) (some (am_n h))) 1 1 (nI (cS S) + 1) else h) := by
  have hC := hR.1
  have h5 := hW.1.2
  have h11 := hW.2.1.2
  have h12 := hW.2.2.1.2
  have h29 := hW.2.2.2.2
  have z1 := sIn_01 r1 1 60
  have z2 := sIn_01 h1 0 2
  have z3 := sIn_01 d1 1 99
  have z5 := kSh_c hW r1 h1 d1
  refine Res_intro (ls := [some (.ref 1), some (.int r1), some (.int h1), some (.int c1), some (.int d1), none]) aX5_shelf rfl rfl rfl rfl ?_
  show WP kX5_shelf _ _ _ _ _ _
  refine wp_iload_n eX5_shelf_0 rfl ?_
  refine wp_iconst (v := 1) eX5_shelf_1 rfl ?_
  refine wp_bipush (v := 60) eX5_shelf_2 rfl ?_
  refine wp_stat (rv := (some (.int (sIn r1 1 60)))) (h' := h) (r := []) eX5_shelf_4 [.int r1, .int 1, .int 60] rfl rfl rfl rfl (rX5_isWithin _ _ _ _) ?_
  refine wp_if eX5_shelf_7 (fun (c_7 : (sIn r1 1 60) = 0) => ?_) (fun (c_7 : ¬ ((sIn r1 1 60) = 0)) => ?_)
  · refine wp_iconst (v := (-1)) eX5_shelf_39 rfl ?_
    exact wp_iret eX5_shelf_40 ⟨congrArg (fun z => some (Value.int z)) (by rw [z5]; simp only [decide_eq_true_eq]; (repeat' split) <;> first | rfl | (exfalso; simp_all; done) | (exfalso; simp only [Int32.lt_iff_toInt_lt, Int32.le_iff_toInt_le, ← Int32.toInt_inj, Int32.reduceToInt] at *; omega)), by rw [z5]; simp only [decide_eq_true_eq]; (repeat' split) <;> first | rfl | (exfalso; simp_all; done) | (exfalso; simp only [Int32.lt_iff_toInt_lt, Int32.le_iff_toInt_le, ← Int32.toInt_inj, Int32.reduceToInt] at *; omega)⟩
  · refine wp_iload_n eX5_shelf_10 rfl ?_
    refine wp_iconst (v := 0) eX5_shelf_11 rfl ?_
    refine wp_iconst (v := 2) eX5_shelf_12 rfl ?_
    refine wp_stat (rv := (some (.int (sIn h1 0 2)))) (h' := h) (r := []) eX5_shelf_13 [.int h1, .int 0, .int 2] rfl rfl rfl rfl (rX5_isWithin _ _ _ _) ?_
    refine wp_if eX5_shelf_16 (fun (c_16 : (sIn h1 0 2) = 0) => ?_) (fun (c_16 : ¬ ((sIn h1 0 2) = 0)) => ?_)
    · refine wp_iconst (v := (-1)) eX5_shelf_39 rfl ?_
      exact wp_iret eX5_shelf_40 ⟨congrArg (fun z => some (Value.int z)) (by rw [z5]; simp only [decide_eq_true_eq]; (repeat' split) <;> first | rfl | (exfalso; simp_all; done) | (exfalso; simp only [Int32.lt_iff_toInt_lt, Int32.le_iff_toInt_le, ← Int32.toInt_inj, Int32.reduceToInt] at *; omega)), by rw [z5]; simp only [decide_eq_true_eq]; (repeat' split) <;> first | rfl | (exfalso; simp_all; done) | (exfalso; simp only [Int32.lt_iff_toInt_lt, Int32.le_iff_toInt_le, ← Int32.toInt_inj, Int32.reduceToInt] at *; omega)⟩
    · refine wp_iload eX5_shelf_19 rfl ?_
      refine wp_iconst (v := 1) eX5_shelf_21 rfl ?_
      refine wp_bipush (v := 99) eX5_shelf_22 rfl ?_
      refine wp_stat (rv := (some (.int (sIn d1 1 99)))) (h' := h) (r := []) eX5_shelf_24 [.int d1, .int 1, .int 99] rfl rfl rfl rfl (rX5_isWithin _ _ _ _) ?_
      refine wp_if eX5_shelf_27 (fun (c_27 : (sIn d1 1 99) = 0) => ?_) (fun (c_27 : ¬ ((sIn d1 1 99) = 0)) => ?_)
      · refine wp_iconst (v := (-1)) eX5_shelf_39 rfl ?_
        exact wp_iret eX5_shelf_40 ⟨congrArg (fun z => some (Value.int z)) (by rw [z5]; simp only [decide_eq_true_eq]; (repeat' split) <;> first | rfl | (exfalso; simp_all; done) | (exfalso; simp only [Int32.lt_iff_toInt_lt, Int32.le_iff_toInt_le, ← Int32.toInt_inj, Int32.reduceToInt] at *; omega)), by rw [z5]; simp only [decide_eq_true_eq]; (repeat' split) <;> first | rfl | (exfalso; simp_all; done) | (exfalso; simp only [Int32.lt_iff_toInt_lt, Int32.le_iff_toInt_le, ← Int32.toInt_inj, Int32.reduceToInt] at *; omega)⟩
      · refine wp_aload_n eX5_shelf_30 rfl ?_
        refine wp_getI (v := S 10 11) eX5_shelf_31 (show Ob h 1 5 from hC.ob) rfl hR.c1 ?_
        refine wp_bipush (v := 16) eX5_shelf_34 rfl ?_
        refine wp_icmp eX5_shelf_36 (fun (c_36 : (S 10 11) < 16) => ?_) (fun (c_36 : ¬ ((S 10 11) < 16)) => ?_)
        · have hs16 : cS S < 16 := cnt_ne hW.2.1.1 (show (16 : Int32) = nI 16 from rfl) (by decide) (fun z => by rw [z] at c_36; exact absurd c_36 (by decide)) h11
          refine wp_aload_n eX5_shelf_41 rfl ?_
          refine wp_getI (v := S 10 11) eX5_shelf_42 (show Ob h 1 5 from hC.ob) rfl hR.c1 ?_
          refine wp_top (y := nI (cS S)) hW.2.1.1 ?_
          refine wp_istore (ls' := [some (.ref 1), some (.int r1), some (.int h1), some (.int c1), some (.int d1), some (.int (nI (cS S)))]) eX5_shelf_45 rfl rfl ?_
          refine wp_aload_n eX5_shelf_47 rfl ?_
          refine wp_getR (v := 2) eX5_shelf_48 (show Ob h 1 5 from hC.ob) rfl hC.r0 ?_
          refine wp_iload eX5_shelf_51 rfl ?_
          refine wp_new (a := am_n h) (h' := am_new h 3 0 8) eX5_shelf_53 rfl rfl ?_
          refine wp_dup eX5_shelf_56 rfl ?_
          refine wp_iload eX5_shelf_57 rfl ?_
          refine wp_iload_n eX5_shelf_59 rfl ?_
          refine wp_iload_n eX5_shelf_60 rfl ?_
          refine wp_iload_n eX5_shelf_61 rfl ?_
          refine wp_iload eX5_shelf_62 rfl ?_
          refine wp_spec (rv := none) (h' := cN3 h (nI (cS S)) r1 h1 c1 d1) (r := [.ref (am_n h), .int (nI (cS S)), .ref 2]) eX5_shelf_64 [.int (nI (cS S)), .int r1, .int h1, .int c1, .int d1] rfl rfl rfl rfl (show Res (_ + 1) nX3_init _ _ none (cN3 h (nI (cS S)) r1 h1 c1 d1) from rX3_init (h := am_new h 3 0 8) _ (am_n h) (Ob.fresh h 3 0 8 hR.pos) _ _ _ _ _ hc1) ?_
          have X := cN3_ext h (nI (cS S)) r1 h1 c1 d1
          have O := cN3_ob h (nI (cS S)) r1 h1 c1 d1 hR.pos
          have A := X.gr.ar hC.a2
          generalize cN3 h (nI (cS S)) r1 h1 c1 d1 = g at X O A ⊢
          refine wp_aas (t := cS S) (h' := am_setR g 2 (cS S) (some (am_n h))) eX5_shelf_67 A rfl rfl O (by omega) rfl rfl ?_
          refine wp_aload_n eX5_shelf_68 rfl ?_
          refine wp_dup eX5_shelf_69 rfl ?_
          refine wp_getI (v := nI (cS S)) eX5_shelf_70 (show Ob (am_setR g 2 (cS S) (some (am_n h))) 1 5 from (X.gr.ob hC.ob).setR) rfl (by rw [am_i_setR, (X.2 1 hC.ob.2.1).2.2.1, hR.c1]; exact hW.2.1.1) ?_
          refine wp_iconst (v := 1) eX5_shelf_73 rfl ?_
          refine wp_iadd eX5_shelf_74 ?_
          refine wp_putI (h' := am_setI (am_setR g 2 (cS S) (some (am_n h))) 1 1 ((nI (cS S)) + 1)) eX5_shelf_75 (show Ob (am_setR g 2 (cS S) (some (am_n h))) 1 5 from (X.gr.ob hC.ob).setR) rfl rfl ?_
          refine wp_iload eX5_shelf_78 rfl ?_
          exact wp_iret eX5_shelf_80 ⟨congrArg (fun z => some (Value.int z)) (by rw [z5]; simp only [decide_eq_true_eq]; (repeat' split) <;> first | rfl | (exfalso; simp_all; done) | (exfalso; simp only [Int32.lt_iff_toInt_lt, Int32.le_iff_toInt_le, ← Int32.toInt_inj, Int32.reduceToInt] at *; omega)), by rw [z5]; simp only [decide_eq_true_eq]; (repeat' split) <;> first | rfl | (exfalso; simp_all; done) | (exfalso; simp only [Int32.lt_iff_toInt_lt, Int32.le_iff_toInt_le, ← Int32.toInt_inj, Int32.reduceToInt] at *; omega)⟩
        · refine wp_iconst (v := (-1)) eX5_shelf_39 rfl ?_
          exact wp_iret eX5_shelf_40 ⟨congrArg (fun z => some (Value.int z)) (by rw [z5]; simp only [decide_eq_true_eq]; (repeat' split) <;> first | rfl | (exfalso; simp_all; done) | (exfalso; simp only [Int32.lt_iff_toInt_lt, Int32.le_iff_toInt_le, ← Int32.toInt_inj, Int32.reduceToInt] at *; omega)), by rw [z5]; simp only [decide_eq_true_eq]; (repeat' split) <;> first | rfl | (exfalso; simp_all; done) | (exfalso; simp only [Int32.lt_iff_toInt_lt, Int32.le_iff_toInt_le, ← Int32.toInt_inj, Int32.reduceToInt] at *; omega)⟩

set_option maxRecDepth 4000 in
theorem bX5_claim (d : Nat) {h : Hp} {S : St} (hR : CR S h) (hW : MW S)  : Res (d + 2) nX5_claim [.ref 1] h (some (.int (if S 10 29 < 40 then nI (cC S) else -1))) (if S 10 29 < 40 then am_setI (am_setR (cN1 h) 4 (cC S) (some (am_n h))) 1 5 (nI (cC S) + 1) else h) := by
  have hC := hR.1
  have h5 := hW.1.2
  have h11 := hW.2.1.2
  have h12 := hW.2.2.1.2
  have h29 := hW.2.2.2.2
  refine Res_intro (ls := [some (.ref 1), none]) aX5_claim rfl rfl rfl rfl ?_
  show WP kX5_claim _ _ _ _ _ _
  refine wp_aload_n eX5_claim_0 rfl ?_
  refine wp_getI (v := S 10 29) eX5_claim_1 (show Ob h 1 5 from hC.ob) rfl hR.c5 ?_
  refine wp_bipush (v := 40) eX5_claim_4 rfl ?_
  refine wp_icmp eX5_claim_6 (fun (c_6 : (S 10 29) < 40) => ?_) (fun (c_6 : ¬ ((S 10 29) < 40)) => ?_)
  · have hs40 : cC S < 40 := cnt_ne hW.2.2.2.1 (show (40 : Int32) = nI 40 from rfl) (by decide) (fun z => by rw [z] at c_6; exact absurd c_6 (by decide)) h29
    refine wp_aload_n eX5_claim_11 rfl ?_
    refine wp_getI (v := S 10 29) eX5_claim_12 (show Ob h 1 5 from hC.ob) rfl hR.c5 ?_
    refine wp_top (y := nI (cC S)) hW.2.2.2.1 ?_
    refine wp_istore_n (ls' := [some (.ref 1), some (.int (nI (cC S)))]) eX5_claim_15 rfl rfl ?_
    refine wp_aload_n eX5_claim_16 rfl ?_
    refine wp_getR (v := 4) eX5_claim_17 (show Ob h 1 5 from hC.ob) rfl hC.r4 ?_
    refine wp_iload_n eX5_claim_20 rfl ?_
    refine wp_new (a := am_n h) (h' := am_new h 1 0 3) eX5_claim_21 rfl rfl ?_
    refine wp_dup eX5_claim_24 rfl ?_
    refine wp_spec (rv := none) (h' := cN1 h) (r := [.ref (am_n h), .int (nI (cC S)), .ref 4]) eX5_claim_25 [] rfl rfl rfl rfl (show Res (_ + 1) nX1_init _ _ none (cN1 h) from rX1_init _ hR.pos) ?_
    have X := cN1_ext h
    have O := cN1_o h hR.pos
    have A := X.gr.ar hC.a4
    generalize cN1 h = g at X O A ⊢
    refine wp_aas (t := cC S) (h' := am_setR g 4 (cC S) (some (am_n h))) eX5_claim_28 A rfl rfl O (by omega) rfl rfl ?_
    refine wp_aload_n eX5_claim_29 rfl ?_
    refine wp_dup eX5_claim_30 rfl ?_
    refine wp_getI (v := nI (cC S)) eX5_claim_31 (show Ob (am_setR g 4 (cC S) (some (am_n h))) 1 5 from (X.gr.ob hC.ob).setR) rfl (by rw [am_i_setR, (X.2 1 hC.ob.2.1).2.2.1, hR.c5]; exact hW.2.2.2.1) ?_
    refine wp_iconst (v := 1) eX5_claim_34 rfl ?_
    refine wp_iadd eX5_claim_35 ?_
    refine wp_putI (h' := am_setI (am_setR g 4 (cC S) (some (am_n h))) 1 5 ((nI (cC S)) + 1)) eX5_claim_36 (show Ob (am_setR g 4 (cC S) (some (am_n h))) 1 5 from (X.gr.ob hC.ob).setR) rfl rfl ?_
    refine wp_iload_n eX5_claim_39 rfl ?_
    exact wp_iret eX5_claim_40 ⟨congrArg (fun z => some (Value.int z)) (by (repeat' split) <;> first | rfl | (exfalso; simp_all; done) | (exfalso; simp only [Int32.lt_iff_toInt_lt, Int32.le_iff_toInt_le, ← Int32.toInt_inj, Int32.reduceToInt] at *; omega)), by (repeat' split) <;> first | rfl | (exfalso; simp_all; done) | (exfalso; simp only [Int32.lt_iff_toInt_lt, Int32.le_iff_toInt_le, ← Int32.toInt_inj, Int32.reduceToInt] at *; omega)⟩
  · refine wp_iconst (v := (-1)) eX5_claim_9 rfl ?_
    exact wp_iret eX5_claim_10 ⟨congrArg (fun z => some (Value.int z)) (by (repeat' split) <;> first | rfl | (exfalso; simp_all; done) | (exfalso; simp only [Int32.lt_iff_toInt_lt, Int32.le_iff_toInt_le, ← Int32.toInt_inj, Int32.reduceToInt] at *; omega)), by (repeat' split) <;> first | rfl | (exfalso; simp_all; done) | (exfalso; simp only [Int32.lt_iff_toInt_lt, Int32.le_iff_toInt_le, ← Int32.toInt_inj, Int32.reduceToInt] at *; omega)⟩
