/-! THE CLASS: calls that write, over the heap -/
def cRel (h : Hp) (s a : Nat) : Hp := am_setR (am_setI (am_setI h s 5 (am_i h s 5 + am_i h a 0)) s 6 (am_i h s 6 - 1)) a 8 none
def cTak (h : Hp) (s a : Nat) : Hp := am_setR (am_setI (am_setI h s 5 (am_i h s 5 - am_i h a 0)) s 6 (am_i h s 6 + 1)) a 8 (some s)
/-- the heap when a thing has left its shelf -/
def cLv (h : Hp) (a s : Nat) (w : Int32) : Hp := am_setI (cRel (am_setI h 1 14 (am_i h 1 14 + 2 * am_i h s 4)) s a) a 7 w
theorem kHours_eq (p q : Int32) : kHours p q = decide (¬ p < 0 ∧ ¬ 1440 < q ∧ p < q) := by
  unfold kHours sIn
  apply decide_eq_decide.mpr
  constructor
  · rintro ⟨h1, h2, h3⟩
    split at h1
    · split at h2
      · rename_i z1 z2
        exact ⟨Int32.not_lt.mpr z1.1, Int32.not_lt.mpr z2.2, h3⟩
      · exact absurd h2 (by decide)
    · exact absurd h1 (by decide)
  · rintro ⟨h1, h2, h3⟩
    have a1 := Int32.not_lt.mp h1
    have a2 := Int32.not_lt.mp h2
    rw [if_pos ⟨a1, Int32.le_trans (Int32.le_of_lt h3) a2⟩, if_pos ⟨Int32.le_trans a1 (Int32.le_of_lt h3), a2⟩]
    exact ⟨rfl, rfl, h3⟩

set_option maxRecDepth 4000 in
theorem bX5_hours (d : Nat) {h : Hp} {S : St} (hR : CR S h) (hW : MW S) (p q : Int32) : Res (d + 1) nX5_hours [.ref 1, .int p, .int q] h (some (.int (if kHours p q = true then 1 else 0))) (if kHours p q = true then am_setI (am_setI h 1 11 p) 1 12 q else h) := by
  have hC := hR.1
  have h5 := hW.1.2
  have h11 := hW.2.1.2
  have h12 := hW.2.2.1.2
  have h29 := hW.2.2.2.2
  refine Res_intro (ls := [some (.ref 1), some (.int p), some (.int q)]) aX5_hours rfl rfl rfl rfl ?_
  show WP kX5_hours _ _ _ _ _ _
  refine wp_iload_n eX5_hours_0 rfl ?_
  refine wp_if eX5_hours_1 (fun (c_1 : p < 0) => ?_) (fun (c_1 : ¬ (p < 0)) => ?_)
  · refine wp_iconst (v := 0) eX5_hours_16 rfl ?_
    exact wp_zret eX5_hours_17 (by first | exact Or.inl rfl | exact Or.inr rfl | assumption) ⟨congrArg (fun z => some (Value.int z)) (by rw [kHours_eq]; simp only [decide_eq_true_eq]; split <;> first | rfl | (exfalso; simp_all; done) | (exfalso; simp only [Int32.lt_iff_toInt_lt, Int32.le_iff_toInt_le, ← Int32.toInt_inj, Int32.reduceToInt] at *; omega)), by rw [kHours_eq]; simp only [decide_eq_true_eq]; split <;> first | rfl | (exfalso; simp_all; done) | (exfalso; simp only [Int32.lt_iff_toInt_lt, Int32.le_iff_toInt_le, ← Int32.toInt_inj, Int32.reduceToInt] at *; omega)⟩
  · refine wp_iload_n eX5_hours_4 rfl ?_
    refine wp_sipush (v := 1440) eX5_hours_5 rfl ?_
    refine wp_icmp eX5_hours_8 (fun (c_8 : 1440 < q) => ?_) (fun (c_8 : ¬ (1440 < q)) => ?_)
    · refine wp_iconst (v := 0) eX5_hours_16 rfl ?_
      exact wp_zret eX5_hours_17 (by first | exact Or.inl rfl | exact Or.inr rfl | assumption) ⟨congrArg (fun z => some (Value.int z)) (by rw [kHours_eq]; simp only [decide_eq_true_eq]; split <;> first | rfl | (exfalso; simp_all; done) | (exfalso; simp only [Int32.lt_iff_toInt_lt, Int32.le_iff_toInt_le, ← Int32.toInt_inj, Int32.reduceToInt] at *; omega)), by rw [kHours_eq]; simp only [decide_eq_true_eq]; split <;> first | rfl | (exfalso; simp_all; done) | (exfalso; simp only [Int32.lt_iff_toInt_lt, Int32.le_iff_toInt_le, ← Int32.toInt_inj, Int32.reduceToInt] at *; omega)⟩
    · refine wp_iload_n eX5_hours_11 rfl ?_
      refine wp_iload_n eX5_hours_12 rfl ?_
      refine wp_icmp eX5_hours_13 (fun (c_13 : p < q) => ?_) (fun (c_13 : ¬ (p < q)) => ?_)
      · refine wp_aload_n eX5_hours_18 rfl ?_
        refine wp_iload_n eX5_hours_19 rfl ?_
        refine wp_putI (h' := am_setI h 1 11 p) eX5_hours_20 (show Ob h 1 5 from hC.ob) rfl rfl ?_
        refine wp_aload_n eX5_hours_23 rfl ?_
        refine wp_iload_n eX5_hours_24 rfl ?_
        refine wp_putI (h' := am_setI (am_setI h 1 11 p) 1 12 q) eX5_hours_25 (show Ob (am_setI h 1 11 p) 1 5 from hC.ob) rfl rfl ?_
        refine wp_iconst (v := 1) eX5_hours_28 rfl ?_
        exact wp_zret eX5_hours_29 (by first | exact Or.inl rfl | exact Or.inr rfl | assumption) ⟨congrArg (fun z => some (Value.int z)) (by rw [kHours_eq]; simp only [decide_eq_true_eq]; split <;> first | rfl | (exfalso; simp_all; done) | (exfalso; simp only [Int32.lt_iff_toInt_lt, Int32.le_iff_toInt_le, ← Int32.toInt_inj, Int32.reduceToInt] at *; omega)), by rw [kHours_eq]; simp only [decide_eq_true_eq]; split <;> first | rfl | (exfalso; simp_all; done) | (exfalso; simp only [Int32.lt_iff_toInt_lt, Int32.le_iff_toInt_le, ← Int32.toInt_inj, Int32.reduceToInt] at *; omega)⟩
      · refine wp_iconst (v := 0) eX5_hours_16 rfl ?_
        exact wp_zret eX5_hours_17 (by first | exact Or.inl rfl | exact Or.inr rfl | assumption) ⟨congrArg (fun z => some (Value.int z)) (by rw [kHours_eq]; simp only [decide_eq_true_eq]; split <;> first | rfl | (exfalso; simp_all; done) | (exfalso; simp only [Int32.lt_iff_toInt_lt, Int32.le_iff_toInt_le, ← Int32.toInt_inj, Int32.reduceToInt] at *; omega)), by rw [kHours_eq]; simp only [decide_eq_true_eq]; split <;> first | rfl | (exfalso; simp_all; done) | (exfalso; simp only [Int32.lt_iff_toInt_lt, Int32.le_iff_toInt_le, ← Int32.toInt_inj, Int32.reduceToInt] at *; omega)⟩

set_option maxRecDepth 4000 in
theorem bX5_tear (d : Nat) {h : Hp} {S : St} (hR : CR S h) (hW : MW S) (s : Nat) (hs : s < cS S) : Res (d + 3) nX5_tear [.ref 1, .int (nI s)] h (some (.int (if S 20 s = 0 then 1 else 0))) (if S 20 s = 0 then am_setI h (shA h s) 7 1 else h) := by
  have hC := hR.1
  have h5 := hW.1.2
  have h11 := hW.2.1.2
  have h12 := hW.2.2.1.2
  have h29 := hW.2.2.2.2
  refine Res_intro (ls := [some (.ref 1), some (.int (nI s)), none]) aX5_tear rfl rfl rfl rfl ?_
  show WP kX5_tear _ _ _ _ _ _
  refine wp_aload_n eX5_tear_0 rfl ?_
  refine wp_iload_n eX5_tear_1 rfl ?_
  refine wp_virt (rv := (some (.ref (shA h s)))) (h' := h) (r := []) eX5_tear_2 [.int (nI s)] rfl rfl rfl (show Ob h 1 5 from hC.ob) (bX5_shelfAt _ hR hW _ (by omega)) ?_
  refine wp_astore_n (ls' := [some (.ref 1), some (.int (nI s)), some (.ref (shA h s))]) eX5_tear_5 rfl rfl ?_
  refine wp_aload_n eX5_tear_6 rfl ?_
  refine wp_ifnullF eX5_tear_7 ?_
  refine wp_aload_n eX5_tear_10 rfl ?_
  refine wp_getI (v := S 20 s) eX5_tear_11 (show Ob h (shA h s) 3 from hR.sh_ob s (by omega)) rfl (hR.sh7 s (by omega)) ?_
  refine wp_if eX5_tear_14 (fun (c_14 : (S 20 s) = 0) => ?_) (fun (c_14 : ¬ ((S 20 s) = 0)) => ?_)
  · refine wp_aload_n eX5_tear_19 rfl ?_
    refine wp_iconst (v := 1) eX5_tear_20 rfl ?_
    refine wp_putZ (h' := am_setI h (shA h s) 7 1) eX5_tear_21 (show Ob h (shA h s) 3 from hR.sh_ob s (by omega)) rfl (by first | exact Or.inl rfl | exact Or.inr rfl | assumption) rfl ?_
    refine wp_iconst (v := 1) eX5_tear_24 rfl ?_
    exact wp_zret eX5_tear_25 (by first | exact Or.inl rfl | exact Or.inr rfl | assumption) ⟨congrArg (fun z => some (Value.int z)) (by split <;> first | rfl | (exfalso; simp_all; done)), by split <;> first | rfl | (exfalso; simp_all; done)⟩
  · refine wp_iconst (v := 0) eX5_tear_17 rfl ?_
    exact wp_zret eX5_tear_18 (by first | exact Or.inl rfl | exact Or.inr rfl | assumption) ⟨congrArg (fun z => some (Value.int z)) (by split <;> first | rfl | (exfalso; simp_all; done)), by split <;> first | rfl | (exfalso; simp_all; done)⟩

set_option maxRecDepth 4000 in
theorem bX5_tear_out (d : Nat) {h : Hp} {S : St} (hR : CR S h) (hW : MW S) (x : Int32) (hx : ∀ c, c < cS S → ¬ x = nI c) : Res (d + 3) nX5_tear [.ref 1, .int x] h (some (.int 0)) h := by
  have hC := hR.1
  have h5 := hW.1.2
  have h11 := hW.2.1.2
  have h12 := hW.2.2.1.2
  have h29 := hW.2.2.2.2
  refine Res_intro (ls := [some (.ref 1), some (.int x), none]) aX5_tear rfl rfl rfl rfl ?_
  show WP kX5_tear _ _ _ _ _ _
  refine wp_aload_n eX5_tear_0 rfl ?_
  refine wp_iload_n eX5_tear_1 rfl ?_
  refine wp_virt (rv := (some (va_rf none))) (h' := h) (r := []) eX5_tear_2 [.int x] rfl rfl rfl (show Ob h 1 5 from hC.ob) (bX5_shelfAtN _ hR hW _ hx) ?_
  refine wp_astore_nO (ls' := [some (.ref 1), some (.int x), some (va_rf none)]) eX5_tear_5 rfl rfl ?_
  refine wp_aload_nO eX5_tear_6 rfl ?_
  refine wp_ifnullT eX5_tear_7 ?_
  refine wp_iconst (v := 0) eX5_tear_17 rfl ?_
  exact wp_zret eX5_tear_18 (by first | exact Or.inl rfl | exact Or.inr rfl | assumption) ⟨congrArg (fun z => some (Value.int z)) (rfl), rfl⟩

set_option maxRecDepth 4000 in
theorem bX5_mend (d : Nat) {h : Hp} {S : St} (hR : CR S h) (hW : MW S) (s : Nat) (hs : s < cS S) : Res (d + 3) nX5_mend [.ref 1, .int (nI s)] h (some (.int (if ¬ S 20 s = 0 then 1 else 0))) (if ¬ S 20 s = 0 then am_setI h (shA h s) 7 0 else h) := by
  have hC := hR.1
  have h5 := hW.1.2
  have h11 := hW.2.1.2
  have h12 := hW.2.2.1.2
  have h29 := hW.2.2.2.2
  refine Res_intro (ls := [some (.ref 1), some (.int (nI s)), none]) aX5_mend rfl rfl rfl rfl ?_
  show WP kX5_mend _ _ _ _ _ _
  refine wp_aload_n eX5_mend_0 rfl ?_
  refine wp_iload_n eX5_mend_1 rfl ?_
  refine wp_virt (rv := (some (.ref (shA h s)))) (h' := h) (r := []) eX5_mend_2 [.int (nI s)] rfl rfl rfl (show Ob h 1 5 from hC.ob) (bX5_shelfAt _ hR hW _ (by omega)) ?_
  refine wp_astore_n (ls' := [some (.ref 1), some (.int (nI s)), some (.ref (shA h s))]) eX5_mend_5 rfl rfl ?_
  refine wp_aload_n eX5_mend_6 rfl ?_
  refine wp_ifnullF eX5_mend_7 ?_
  refine wp_aload_n eX5_mend_10 rfl ?_
  refine wp_getI (v := S 20 s) eX5_mend_11 (show Ob h (shA h s) 3 from hR.sh_ob s (by omega)) rfl (hR.sh7 s (by omega)) ?_
  refine wp_if eX5_mend_14 (fun (c_14 : ¬ (S 20 s) = 0) => ?_) (fun (c_14 : ¬ (¬ (S 20 s) = 0)) => ?_)
  · refine wp_aload_n eX5_mend_19 rfl ?_
    refine wp_iconst (v := 0) eX5_mend_20 rfl ?_
    refine wp_putZ (h' := am_setI h (shA h s) 7 0) eX5_mend_21 (show Ob h (shA h s) 3 from hR.sh_ob s (by omega)) rfl (by first | exact Or.inl rfl | exact Or.inr rfl | assumption) rfl ?_
    refine wp_iconst (v := 1) eX5_mend_24 rfl ?_
    exact wp_zret eX5_mend_25 (by first | exact Or.inl rfl | exact Or.inr rfl | assumption) ⟨congrArg (fun z => some (Value.int z)) (by split <;> first | rfl | (exfalso; simp_all; done)), by split <;> first | rfl | (exfalso; simp_all; done)⟩
  · refine wp_iconst (v := 0) eX5_mend_17 rfl ?_
    exact wp_zret eX5_mend_18 (by first | exact Or.inl rfl | exact Or.inr rfl | assumption) ⟨congrArg (fun z => some (Value.int z)) (by split <;> first | rfl | (exfalso; simp_all; done)), by split <;> first | rfl | (exfalso; simp_all; done)⟩

set_option maxRecDepth 4000 in
theorem bX5_mend_out (d : Nat) {h : Hp} {S : St} (hR : CR S h) (hW : MW S) (x : Int32) (hx : ∀ c, c < cS S → ¬ x = nI c) : Res (d + 3) nX5_mend [.ref 1, .int x] h (some (.int 0)) h := by
  have hC := hR.1
  have h5 := hW.1.2
  have h11 := hW.2.1.2
  have h12 := hW.2.2.1.2
  have h29 := hW.2.2.2.2
  refine Res_intro (ls := [some (.ref 1), some (.int x), none]) aX5_mend rfl rfl rfl rfl ?_
  show WP kX5_mend _ _ _ _ _ _
  refine wp_aload_n eX5_mend_0 rfl ?_
  refine wp_iload_n eX5_mend_1 rfl ?_
  refine wp_virt (rv := (some (va_rf none))) (h' := h) (r := []) eX5_mend_2 [.int x] rfl rfl rfl (show Ob h 1 5 from hC.ob) (bX5_shelfAtN _ hR hW _ hx) ?_
  refine wp_astore_nO (ls' := [some (.ref 1), some (.int x), some (va_rf none)]) eX5_mend_5 rfl rfl ?_
  refine wp_aload_nO eX5_mend_6 rfl ?_
  refine wp_ifnullT eX5_mend_7 ?_
  refine wp_iconst (v := 0) eX5_mend_17 rfl ?_
  exact wp_zret eX5_mend_18 (by first | exact Or.inl rfl | exact Or.inr rfl | assumption) ⟨congrArg (fun z => some (Value.int z)) (rfl), rfl⟩

set_option maxRecDepth 4000 in
theorem rX5_takeAway (d : Nat) {h : Hp} (h1 : Ob h 1 5) (a : Nat) (hA : Ob h a 4) (s : Nat) (hS : Ob h s 3) (hp : am_r h a 8 = some s) (w : Int32) : Res (d + 2) nX5_takeAway [.ref 1, .ref a, .int w] h none (cLv h a s w) := by
  refine Res_intro (ls := [some (.ref 1), some (.ref a), some (.int w), none]) aX5_takeAway rfl rfl rfl rfl ?_
  show WP kX5_takeAway _ _ _ _ _ _
  refine wp_aload_n eX5_takeAway_0 rfl ?_
  refine wp_getR (v := s) eX5_takeAway_1 (show Ob h a 4 from hA) rfl hp ?_
  refine wp_astore_n (ls' := [some (.ref 1), some (.ref a), some (.int w), some (.ref s)]) eX5_takeAway_4 rfl rfl ?_
  refine wp_aload_n eX5_takeAway_5 rfl ?_
  refine wp_ifnullF eX5_takeAway_6 ?_
  refine wp_aload_n eX5_takeAway_9 rfl ?_
  refine wp_dup eX5_takeAway_10 rfl ?_
  refine wp_getI (v := am_i h 1 14) eX5_takeAway_11 (show Ob h 1 5 from h1) rfl rfl ?_
  refine wp_iconst (v := 2) eX5_takeAway_14 rfl ?_
  refine wp_aload_n eX5_takeAway_15 rfl ?_
  refine wp_getI (v := am_i h s 4) eX5_takeAway_16 (show Ob h s 3 from hS) rfl rfl ?_
  refine wp_imul eX5_takeAway_19 ?_
  refine wp_iadd eX5_takeAway_20 ?_
  refine wp_putI (h' := am_setI h 1 14 ((am_i h 1 14) + (2 * (am_i h s 4)))) eX5_takeAway_21 (show Ob h 1 5 from h1) rfl rfl ?_
  refine wp_aload_n eX5_takeAway_24 rfl ?_
  refine wp_aload_n eX5_takeAway_25 rfl ?_
  refine wp_virt (rv := none) (h' := cRel (am_setI h 1 14 (am_i h 1 14 + 2 * am_i h s 4)) s a) (r := []) eX5_takeAway_26 [.ref a] rfl rfl rfl (show Ob (am_setI h 1 14 ((am_i h 1 14) + (2 * (am_i h s 4)))) s 3 from hS) (show Res (d + 1) nX3_release _ (am_setI h 1 14 (am_i h 1 14 + 2 * am_i h s 4)) none (cRel (am_setI h 1 14 (am_i h 1 14 + 2 * am_i h s 4)) s a) from rX3_release (h := am_setI h 1 14 (am_i h 1 14 + 2 * am_i h s 4)) d a hA s hS) ?_
  refine wp_aload_n eX5_takeAway_29 rfl ?_
  refine wp_iload_n eX5_takeAway_30 rfl ?_
  refine wp_putI (h' := am_setI (cRel (am_setI h 1 14 (am_i h 1 14 + 2 * am_i h s 4)) s a) a 7 w) eX5_takeAway_31 (show Ob (cRel (am_setI h 1 14 (am_i h 1 14 + 2 * am_i h s 4)) s a) a 4 from hA) rfl rfl ?_
  exact wp_vret eX5_takeAway_34 ⟨rfl, rfl⟩

set_option maxRecDepth 4000 in
theorem bX5_give (d : Nat) {h : Hp} {S : St} (hR : CR S h) (hW : MW S) (x : Int32) (t : Nat) (ht : t < cT S) (hx : sThOf S x = nI t) (hF : FW S t) (hle : sF S t ≤ sL S t + 1) (hn1 : S 29 t < 0 → S 29 t = -1) (hO : S 26 t = 0 → OW S t) : Res (d + 5) nX5_give [.ref 1, .int x] h (some (.int (sGive S t))) (if kGive S t = true then am_setI (cLv h (thA h t) (shA h (onN S t)) 1) 1 13 (am_i (cLv h (thA h t) (shA h (onN S t)) 1) 1 13 + sFeeV S t) else h) := by
  have hC := hR.1
  have h5 := hW.1.2
  have h11 := hW.2.1.2
  have h12 := hW.2.2.1.2
  have h29 := hW.2.2.2.2
  obtain ⟨t1, t2⟩ := sThOf_in (by omega) hx
  refine Res_intro (ls := [some (.ref 1), some (.int x), none, none]) aX5_give rfl rfl rfl rfl ?_
  show WP kX5_give _ _ _ _ _ _
  refine wp_aload_n eX5_give_0 rfl ?_
  refine wp_iload_n eX5_give_1 rfl ?_
  refine wp_virt (rv := (some (.int (sFeeV S t)))) (h' := h) (r := []) eX5_give_2 [.int x] rfl rfl rfl (show Ob h 1 5 from hC.ob) (bX5_fee _ hR hW _ _ ht hx hF hle hn1) ?_
  refine wp_istore_n (ls' := [some (.ref 1), some (.int x), some (.int (sFeeV S t)), none]) eX5_give_5 rfl rfl ?_
  refine wp_aload_n eX5_give_6 rfl ?_
  refine wp_iload_n eX5_give_7 rfl ?_
  refine wp_bipush (v := 100) eX5_give_8 rfl ?_
  refine wp_idiv eX5_give_10 (by decide) ?_
  refine wp_top (y := nI t) t2 ?_
  refine wp_virt (rv := (some (.ref (thA h t)))) (h' := h) (r := []) eX5_give_11 [.int (nI t)] rfl rfl rfl (show Ob h 1 5 from hC.ob) (bX5_thingAt _ hR hW _ (by omega)) ?_
  refine wp_astore_n (ls' := [some (.ref 1), some (.int x), some (.int (sFeeV S t)), some (.ref (thA h t))]) eX5_give_14 rfl rfl ?_
  refine wp_iload_n eX5_give_15 rfl ?_
  refine wp_if eX5_give_16 (fun (c_16 : (sFeeV S t) < 0) => ?_) (fun (c_16 : ¬ ((sFeeV S t) < 0)) => ?_)
  · refine wp_iload_n eX5_give_23 rfl ?_
    exact wp_iret eX5_give_24 ⟨congrArg (fun z => some (Value.int z)) (by simp only [sGive, decide_eq_true_eq]; (repeat' split) <;> first | rfl | (exfalso; simp_all; done) | (exfalso; simp only [Int32.lt_iff_toInt_lt, Int32.le_iff_toInt_le, ← Int32.toInt_inj, Int32.reduceToInt] at *; omega)), by simp only [kGive, decide_eq_true_eq]; (repeat' split) <;> first | rfl | (exfalso; simp_all; done) | (exfalso; simp only [Int32.lt_iff_toInt_lt, Int32.le_iff_toInt_le, ← Int32.toInt_inj, Int32.reduceToInt] at *; omega)⟩
  · refine wp_aload_n eX5_give_19 rfl ?_
    refine wp_ifnonnullT eX5_give_20 ?_
    refine wp_aload_n eX5_give_25 rfl ?_
    refine wp_getI (v := S 26 t) eX5_give_26 (show Ob h (thA h t) 4 from hR.th_ob t (by omega)) rfl (hR.th7 t (by omega)) ?_
    refine wp_iconst (v := 2) eX5_give_29 rfl ?_
    refine wp_icmp eX5_give_30 (fun (c_30 : ¬ (S 26 t) = 2) => ?_) (fun (c_30 : ¬ (¬ (S 26 t) = 2)) => ?_)
    · refine wp_aload_n eX5_give_36 rfl ?_
      refine wp_virt (rv := (some (.int (sOpen S)))) (h' := h) (r := []) eX5_give_37 [] rfl rfl rfl (show Ob h 1 5 from hC.ob) (bX5_isOpen _ hR hW) ?_
      refine wp_if eX5_give_40 (fun (c_40 : ¬ (sOpen S) = 0) => ?_) (fun (c_40 : ¬ (¬ (sOpen S) = 0)) => ?_)
      · have h26 : S 26 t = 0 := by rcases sFeeV_in c_16 with z | z; exact z; exact absurd z c_30
        have hO := hO h26
        have hpl : am_r h (thA h t) 8 = some (shA h (onN S t)) := by rw [hR.th_p t ht, if_pos h26]
        refine wp_aload_n eX5_give_46 rfl ?_
        refine wp_virt (rv := (some (.int (if S 20 (onN S t) = 0 then 0 else 1)))) (h' := h) (r := []) eX5_give_47 [] rfl rfl rfl (show Ob h (thA h t) 4 from hR.th_ob t (by omega)) (bX4_isStuck _ hR ht h26 hO) ?_
        refine wp_if eX5_give_50 (fun (c_50 : (if S 20 (onN S t) = 0 then 0 else 1) = 0) => ?_) (fun (c_50 : ¬ ((if S 20 (onN S t) = 0 then 0 else 1) = 0)) => ?_)
        · refine wp_aload_n eX5_give_56 rfl ?_
          refine wp_aload_n eX5_give_57 rfl ?_
          refine wp_iconst (v := 1) eX5_give_58 rfl ?_
          refine wp_virt (rv := none) (h' := cLv h (thA h t) (shA h (onN S t)) 1) (r := []) eX5_give_59 [.ref (thA h t), .int 1] rfl rfl rfl (show Ob h 1 5 from hC.ob) (rX5_takeAway (h := h) _ hC.ob _ (hR.th_ob t ht) _ (hR.sh_ob _ hO.2) (show am_r h (thA h t) 8 = some (shA h (onN S t)) by first | exact hpl | (simp only [am_setI, am_r]; exact hpl)) _) ?_
          refine wp_aload_n eX5_give_62 rfl ?_
          refine wp_dup eX5_give_63 rfl ?_
          refine wp_getI (v := am_i (cLv h (thA h t) (shA h (onN S t)) 1) 1 13) eX5_give_64 (show Ob (cLv h (thA h t) (shA h (onN S t)) 1) 1 5 from hC.ob) rfl rfl ?_
          refine wp_iload_n eX5_give_67 rfl ?_
          refine wp_iadd eX5_give_68 ?_
          refine wp_putI (h' := am_setI (cLv h (thA h t) (shA h (onN S t)) 1) 1 13 ((am_i (cLv h (thA h t) (shA h (onN S t)) 1) 1 13) + (sFeeV S t))) eX5_give_69 (show Ob (cLv h (thA h t) (shA h (onN S t)) 1) 1 5 from hC.ob) rfl rfl ?_
          refine wp_iload_n eX5_give_72 rfl ?_
          exact wp_iret eX5_give_73 ⟨congrArg (fun z => some (Value.int z)) (by simp only [sGive, decide_eq_true_eq]; (repeat' split) <;> first | rfl | (exfalso; simp_all; done) | (exfalso; simp only [Int32.lt_iff_toInt_lt, Int32.le_iff_toInt_le, ← Int32.toInt_inj, Int32.reduceToInt] at *; omega)), by simp only [kGive, decide_eq_true_eq]; (repeat' split) <;> first | rfl | (exfalso; simp_all; done) | (exfalso; simp only [Int32.lt_iff_toInt_lt, Int32.le_iff_toInt_le, ← Int32.toInt_inj, Int32.reduceToInt] at *; omega)⟩
        · refine wp_bipush (v := (-7)) eX5_give_53 rfl ?_
          exact wp_iret eX5_give_55 ⟨congrArg (fun z => some (Value.int z)) (by simp only [sGive, decide_eq_true_eq]; (repeat' split) <;> first | rfl | (exfalso; simp_all; done) | (exfalso; simp only [Int32.lt_iff_toInt_lt, Int32.le_iff_toInt_le, ← Int32.toInt_inj, Int32.reduceToInt] at *; omega)), by simp only [kGive, decide_eq_true_eq]; (repeat' split) <;> first | rfl | (exfalso; simp_all; done) | (exfalso; simp only [Int32.lt_iff_toInt_lt, Int32.le_iff_toInt_le, ← Int32.toInt_inj, Int32.reduceToInt] at *; omega)⟩
      · refine wp_bipush (v := (-6)) eX5_give_43 rfl ?_
        exact wp_iret eX5_give_45 ⟨congrArg (fun z => some (Value.int z)) (by simp only [sGive, decide_eq_true_eq]; (repeat' split) <;> first | rfl | (exfalso; simp_all; done) | (exfalso; simp only [Int32.lt_iff_toInt_lt, Int32.le_iff_toInt_le, ← Int32.toInt_inj, Int32.reduceToInt] at *; omega)), by simp only [kGive, decide_eq_true_eq]; (repeat' split) <;> first | rfl | (exfalso; simp_all; done) | (exfalso; simp only [Int32.lt_iff_toInt_lt, Int32.le_iff_toInt_le, ← Int32.toInt_inj, Int32.reduceToInt] at *; omega)⟩
    · refine wp_bipush (v := (-5)) eX5_give_33 rfl ?_
      exact wp_iret eX5_give_35 ⟨congrArg (fun z => some (Value.int z)) (by simp only [sGive, decide_eq_true_eq]; (repeat' split) <;> first | rfl | (exfalso; simp_all; done) | (exfalso; simp only [Int32.lt_iff_toInt_lt, Int32.le_iff_toInt_le, ← Int32.toInt_inj, Int32.reduceToInt] at *; omega)), by simp only [kGive, decide_eq_true_eq]; (repeat' split) <;> first | rfl | (exfalso; simp_all; done) | (exfalso; simp only [Int32.lt_iff_toInt_lt, Int32.le_iff_toInt_le, ← Int32.toInt_inj, Int32.reduceToInt] at *; omega)⟩
