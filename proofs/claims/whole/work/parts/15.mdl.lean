/-! THE REFERENCE: its small methods -/
set_option maxRecDepth 4000 in
theorem rX6_in (d : Nat) (h : Hp) (v l m : Int32) : Res (d + 1) nX6_in [.int v, .int l, .int m] h (some (.int (sIn v l m))) h := by
  refine Res_intro (ls := [some (.int v), some (.int l), some (.int m)]) aX6_in rfl rfl rfl rfl ?_
  show WP kX6_in _ _ _ _ _ _
  refine wp_iload_n eX6_in_0 rfl ?_
  refine wp_iload_n eX6_in_1 rfl ?_
  refine wp_icmp eX6_in_2 (fun (c_2 : v < l) => ?_) (fun (c_2 : ¬ (v < l)) => ?_)
  · refine wp_iconst (v := 0) eX6_in_14 rfl ?_
    exact wp_zret eX6_in_15 (by first | exact Or.inl rfl | exact Or.inr rfl | assumption) ⟨congrArg (fun z => some (Value.int z)) (by unfold sIn; (repeat' split) <;> first | rfl | (exfalso; simp_all; done) | (exfalso; simp only [Int32.lt_iff_toInt_lt, Int32.le_iff_toInt_le, ← Int32.toInt_inj, Int32.reduceToInt] at *; omega)), rfl⟩
  · refine wp_iload_n eX6_in_5 rfl ?_
    refine wp_iload_n eX6_in_6 rfl ?_
    refine wp_icmp eX6_in_7 (fun (c_7 : m < v) => ?_) (fun (c_7 : ¬ (m < v)) => ?_)
    · refine wp_iconst (v := 0) eX6_in_14 rfl ?_
      exact wp_zret eX6_in_15 (by first | exact Or.inl rfl | exact Or.inr rfl | assumption) ⟨congrArg (fun z => some (Value.int z)) (by unfold sIn; (repeat' split) <;> first | rfl | (exfalso; simp_all; done) | (exfalso; simp only [Int32.lt_iff_toInt_lt, Int32.le_iff_toInt_le, ← Int32.toInt_inj, Int32.reduceToInt] at *; omega)), rfl⟩
    · refine wp_iconst (v := 1) eX6_in_10 rfl ?_
      refine wp_goto eX6_in_11 ?_
      exact wp_zret eX6_in_15 (by first | exact Or.inl rfl | exact Or.inr rfl | assumption) ⟨congrArg (fun z => some (Value.int z)) (by unfold sIn; (repeat' split) <;> first | rfl | (exfalso; simp_all; done) | (exfalso; simp only [Int32.lt_iff_toInt_lt, Int32.le_iff_toInt_le, ← Int32.toInt_inj, Int32.reduceToInt] at *; omega)), rfl⟩

set_option maxRecDepth 4000 in
theorem rX6_gap (d : Nat) (h : Hp) (a b : Int32) : Res (d + 1) nX6_gap [.int a, .int b] h (some (.int (sGap a b))) h := by
  refine Res_intro (ls := [some (.int a), some (.int b)]) aX6_gap rfl rfl rfl rfl ?_
  show WP kX6_gap _ _ _ _ _ _
  refine wp_iload_n eX6_gap_0 rfl ?_
  refine wp_iload_n eX6_gap_1 rfl ?_
  refine wp_icmp eX6_gap_2 (fun (c_2 : a ≤ b) => ?_) (fun (c_2 : ¬ (a ≤ b)) => ?_)
  · refine wp_iload_n eX6_gap_11 rfl ?_
    refine wp_iload_n eX6_gap_12 rfl ?_
    refine wp_isub eX6_gap_13 ?_
    exact wp_iret eX6_gap_14 ⟨congrArg (fun z => some (Value.int z)) (by unfold sGap; (repeat' split) <;> first | rfl | (exfalso; simp_all; done) | (exfalso; simp only [Int32.lt_iff_toInt_lt, Int32.le_iff_toInt_le, ← Int32.toInt_inj, Int32.reduceToInt] at *; omega)), rfl⟩
  · refine wp_iload_n eX6_gap_5 rfl ?_
    refine wp_iload_n eX6_gap_6 rfl ?_
    refine wp_isub eX6_gap_7 ?_
    refine wp_goto eX6_gap_8 ?_
    exact wp_iret eX6_gap_14 ⟨congrArg (fun z => some (Value.int z)) (by unfold sGap; (repeat' split) <;> first | rfl | (exfalso; simp_all; done) | (exfalso; simp only [Int32.lt_iff_toInt_lt, Int32.le_iff_toInt_le, ← Int32.toInt_inj, Int32.reduceToInt] at *; omega)), rfl⟩

set_option maxRecDepth 4000 in
theorem rX6_isOpen (d : Nat) {h : Hp} (hM : MOK h) (S : St) : Res (d + 1) nX6_isOpen [.ref 10] (am_wi h S) (some (.int (sOpen S))) (am_wi h S) := by
  refine Res_intro (ls := [some (.ref 10)]) aX6_isOpen rfl rfl rfl rfl ?_
  show WP kX6_isOpen _ _ _ _ _ _
  refine wp_aload_n eX6_isOpen_0 rfl ?_
  refine wp_getI (v := S 10 0) eX6_isOpen_1 (show Ob (am_wi h S) 10 6 from hM.ob) rfl rfl ?_
  refine wp_sipush (v := 1440) eX6_isOpen_4 rfl ?_
  refine wp_irem eX6_isOpen_7 (by decide) ?_
  refine wp_aload_n eX6_isOpen_8 rfl ?_
  refine wp_getI (v := S 10 1) eX6_isOpen_9 (show Ob (am_wi h S) 10 6 from hM.ob) rfl rfl ?_
  refine wp_icmp eX6_isOpen_12 (fun (c_12 : (md (S 10 0) 1440) < (S 10 1)) => ?_) (fun (c_12 : ¬ ((md (S 10 0) 1440) < (S 10 1))) => ?_)
  · refine wp_iconst (v := 0) eX6_isOpen_34 rfl ?_
    exact wp_zret eX6_isOpen_35 (by first | exact Or.inl rfl | exact Or.inr rfl | assumption) ⟨congrArg (fun z => some (Value.int z)) (by unfold sOpen; (repeat' split) <;> first | rfl | (exfalso; simp_all; done) | (exfalso; simp only [Int32.lt_iff_toInt_lt, Int32.le_iff_toInt_le, ← Int32.toInt_inj, Int32.reduceToInt] at *; omega)), rfl⟩
  · refine wp_aload_n eX6_isOpen_15 rfl ?_
    refine wp_getI (v := S 10 0) eX6_isOpen_16 (show Ob (am_wi h S) 10 6 from hM.ob) rfl rfl ?_
    refine wp_sipush (v := 1440) eX6_isOpen_19 rfl ?_
    refine wp_irem eX6_isOpen_22 (by decide) ?_
    refine wp_aload_n eX6_isOpen_23 rfl ?_
    refine wp_getI (v := S 10 2) eX6_isOpen_24 (show Ob (am_wi h S) 10 6 from hM.ob) rfl rfl ?_
    refine wp_icmp eX6_isOpen_27 (fun (c_27 : (S 10 2) ≤ (md (S 10 0) 1440)) => ?_) (fun (c_27 : ¬ ((S 10 2) ≤ (md (S 10 0) 1440))) => ?_)
    · refine wp_iconst (v := 0) eX6_isOpen_34 rfl ?_
      exact wp_zret eX6_isOpen_35 (by first | exact Or.inl rfl | exact Or.inr rfl | assumption) ⟨congrArg (fun z => some (Value.int z)) (by unfold sOpen; (repeat' split) <;> first | rfl | (exfalso; simp_all; done) | (exfalso; simp only [Int32.lt_iff_toInt_lt, Int32.le_iff_toInt_le, ← Int32.toInt_inj, Int32.reduceToInt] at *; omega)), rfl⟩
    · refine wp_iconst (v := 1) eX6_isOpen_30 rfl ?_
      refine wp_goto eX6_isOpen_31 ?_
      exact wp_zret eX6_isOpen_35 (by first | exact Or.inl rfl | exact Or.inr rfl | assumption) ⟨congrArg (fun z => some (Value.int z)) (by unfold sOpen; (repeat' split) <;> first | rfl | (exfalso; simp_all; done) | (exfalso; simp only [Int32.lt_iff_toInt_lt, Int32.le_iff_toInt_le, ← Int32.toInt_inj, Int32.reduceToInt] at *; omega)), rfl⟩

set_option maxRecDepth 4000 in
theorem rX6_suits (d : Nat) {h : Hp} (hM : MOK h) (S : St) (t s : Nat) (ht : t < 120) (hs : s < 16) : Res (d + 1) nX6_suits [.ref 10, .int (nI t), .int (nI s)] (am_wi h S) (some (.int (sSuit S t s))) (am_wi h S) := by
  refine Res_intro (ls := [some (.ref 10), some (.int (nI t)), some (.int (nI s))]) aX6_suits rfl rfl rfl rfl ?_
  show WP kX6_suits _ _ _ _ _ _
  refine wp_aload_n eX6_suits_0 rfl ?_
  refine wp_getR (v := 20) eX6_suits_1 (show Ob (am_wi h S) 10 6 from hM.ob) rfl hM.r17 ?_
  refine wp_iload_n eX6_suits_4 rfl ?_
  refine wp_zal (v := S 20 s) (t := s) eX6_suits_5 (show Ar (am_wi h S) 20 8 16 from hM.a20) (by omega) rfl rfl ?_
  refine wp_if eX6_suits_6 (fun (c_6 : ¬ (S 20 s) = 0) => ?_) (fun (c_6 : ¬ (¬ (S 20 s) = 0)) => ?_)
  · refine wp_iconst (v := 0) eX6_suits_43 rfl ?_
    exact wp_zret eX6_suits_44 (by first | exact Or.inl rfl | exact Or.inr rfl | assumption) ⟨congrArg (fun z => some (Value.int z)) (by unfold sSuit; (repeat' split) <;> first | rfl | (exfalso; simp_all; done) | (exfalso; simp only [Int32.lt_iff_toInt_lt, Int32.le_iff_toInt_le, ← Int32.toInt_inj, Int32.reduceToInt] at *; omega)), rfl⟩
  · refine wp_aload_n eX6_suits_9 rfl ?_
    refine wp_getR (v := 17) eX6_suits_10 (show Ob (am_wi h S) 10 6 from hM.ob) rfl hM.r14 ?_
    refine wp_iload_n eX6_suits_13 rfl ?_
    refine wp_ial (v := S 17 s) (t := s) eX6_suits_14 (show Ar (am_wi h S) 17 7 16 from hM.a17) (by omega) rfl rfl ?_
    refine wp_aload_n eX6_suits_15 rfl ?_
    refine wp_getR (v := 22) eX6_suits_16 (show Ob (am_wi h S) 10 6 from hM.ob) rfl hM.r19 ?_
    refine wp_iload_n eX6_suits_19 rfl ?_
    refine wp_ial (v := S 22 t) (t := t) eX6_suits_20 (show Ar (am_wi h S) 22 7 120 from hM.a22) (by omega) rfl rfl ?_
    refine wp_icmp eX6_suits_21 (fun (c_21 : (S 17 s) < (S 22 t)) => ?_) (fun (c_21 : ¬ ((S 17 s) < (S 22 t))) => ?_)
    · refine wp_iconst (v := 0) eX6_suits_43 rfl ?_
      exact wp_zret eX6_suits_44 (by first | exact Or.inl rfl | exact Or.inr rfl | assumption) ⟨congrArg (fun z => some (Value.int z)) (by unfold sSuit; (repeat' split) <;> first | rfl | (exfalso; simp_all; done) | (exfalso; simp only [Int32.lt_iff_toInt_lt, Int32.le_iff_toInt_le, ← Int32.toInt_inj, Int32.reduceToInt] at *; omega)), rfl⟩
    · refine wp_aload_n eX6_suits_24 rfl ?_
      refine wp_getR (v := 19) eX6_suits_25 (show Ob (am_wi h S) 10 6 from hM.ob) rfl hM.r16 ?_
      refine wp_iload_n eX6_suits_28 rfl ?_
      refine wp_zal (v := S 19 s) (t := s) eX6_suits_29 (show Ar (am_wi h S) 19 8 16 from hM.a19) (by omega) rfl rfl ?_
      refine wp_aload_n eX6_suits_30 rfl ?_
      refine wp_getR (v := 30) eX6_suits_31 (show Ob (am_wi h S) 10 6 from hM.ob) rfl hM.r27 ?_
      refine wp_iload_n eX6_suits_34 rfl ?_
      refine wp_zal (v := S 30 t) (t := t) eX6_suits_35 (show Ar (am_wi h S) 30 8 120 from hM.a30) (by omega) rfl rfl ?_
      refine wp_icmp eX6_suits_36 (fun (c_36 : ¬ (S 19 s) = (S 30 t)) => ?_) (fun (c_36 : ¬ (¬ (S 19 s) = (S 30 t))) => ?_)
      · refine wp_iconst (v := 0) eX6_suits_43 rfl ?_
        exact wp_zret eX6_suits_44 (by first | exact Or.inl rfl | exact Or.inr rfl | assumption) ⟨congrArg (fun z => some (Value.int z)) (by unfold sSuit; (repeat' split) <;> first | rfl | (exfalso; simp_all; done) | (exfalso; simp only [Int32.lt_iff_toInt_lt, Int32.le_iff_toInt_le, ← Int32.toInt_inj, Int32.reduceToInt] at *; omega)), rfl⟩
      · refine wp_iconst (v := 1) eX6_suits_39 rfl ?_
        refine wp_goto eX6_suits_40 ?_
        exact wp_zret eX6_suits_44 (by first | exact Or.inl rfl | exact Or.inr rfl | assumption) ⟨congrArg (fun z => some (Value.int z)) (by unfold sSuit; (repeat' split) <;> first | rfl | (exfalso; simp_all; done) | (exfalso; simp only [Int32.lt_iff_toInt_lt, Int32.le_iff_toInt_le, ← Int32.toInt_inj, Int32.reduceToInt] at *; omega)), rfl⟩

set_option maxRecDepth 4000 in
theorem rX6_wanted (d : Nat) {h : Hp} (hM : MOK h) (S : St) (t : Nat) (ht : t < 120) : Res (d + 1) nX6_wanted [.ref 10, .int (nI t)] (am_wi h S) (some (.int (sWant S t))) (am_wi h S) := by
  refine Res_intro (ls := [some (.ref 10), some (.int (nI t)), none]) aX6_wanted rfl rfl rfl rfl ?_
  show WP kX6_wanted _ _ _ _ _ _
  refine wp_aload_n eX6_wanted_0 rfl ?_
  refine wp_getR (v := 24) eX6_wanted_1 (show Ob (am_wi h S) 10 6 from hM.ob) rfl hM.r21 ?_
  refine wp_iload_n eX6_wanted_4 rfl ?_
  refine wp_ial (v := S 24 t) (t := t) eX6_wanted_5 (show Ar (am_wi h S) 24 7 120 from hM.a24) (by omega) rfl rfl ?_
  refine wp_aload_n eX6_wanted_6 rfl ?_
  refine wp_getI (v := S 10 0) eX6_wanted_7 (show Ob (am_wi h S) 10 6 from hM.ob) rfl rfl ?_
  refine wp_icmp eX6_wanted_10 (fun (c_10 : (S 24 t) ≤ (S 10 0)) => ?_) (fun (c_10 : ¬ ((S 24 t) ≤ (S 10 0))) => ?_)
  · refine wp_iconst (v := 0) eX6_wanted_30 rfl ?_
    refine wp_istore_n (ls' := [some (.ref 10), some (.int (nI t)), some (.int 0)]) eX6_wanted_31 rfl rfl ?_
    refine wp_iload_n eX6_wanted_32 rfl ?_
    refine wp_bipush (v := 98) eX6_wanted_33 rfl ?_
    refine wp_icmpT eX6_wanted_35 (show 0 ≤ 98 from (by decide)) ?_
    refine wp_iconst (v := 1) eX6_wanted_43 rfl ?_
    refine wp_iload_n eX6_wanted_44 rfl ?_
    refine wp_iadd eX6_wanted_45 ?_
    exact wp_iret eX6_wanted_46 ⟨congrArg (fun z => some (Value.int z)) (by unfold sWant sHrs; (repeat' split) <;> first | rfl | (exfalso; simp_all; done) | (exfalso; simp only [Int32.lt_iff_toInt_lt, Int32.le_iff_toInt_le, ← Int32.toInt_inj, Int32.reduceToInt] at *; omega)), rfl⟩
  · refine wp_aload_n eX6_wanted_13 rfl ?_
    refine wp_getR (v := 24) eX6_wanted_14 (show Ob (am_wi h S) 10 6 from hM.ob) rfl hM.r21 ?_
    refine wp_iload_n eX6_wanted_17 rfl ?_
    refine wp_ial (v := S 24 t) (t := t) eX6_wanted_18 (show Ar (am_wi h S) 24 7 120 from hM.a24) (by omega) rfl rfl ?_
    refine wp_aload_n eX6_wanted_19 rfl ?_
    refine wp_getI (v := S 10 0) eX6_wanted_20 (show Ob (am_wi h S) 10 6 from hM.ob) rfl rfl ?_
    refine wp_isub eX6_wanted_23 ?_
    refine wp_bipush (v := 60) eX6_wanted_24 rfl ?_
    refine wp_idiv eX6_wanted_26 (by decide) ?_
    refine wp_goto eX6_wanted_27 ?_
    refine wp_istore_n (ls' := [some (.ref 10), some (.int (nI t)), some (.int (((S 24 t) - (S 10 0)) / 60))]) eX6_wanted_31 rfl rfl ?_
    refine wp_iload_n eX6_wanted_32 rfl ?_
    refine wp_bipush (v := 98) eX6_wanted_33 rfl ?_
    refine wp_icmp eX6_wanted_35 (fun (c_35 : (((S 24 t) - (S 10 0)) / 60) ≤ 98) => ?_) (fun (c_35 : ¬ ((((S 24 t) - (S 10 0)) / 60) ≤ 98)) => ?_)
    · refine wp_iconst (v := 1) eX6_wanted_43 rfl ?_
      refine wp_iload_n eX6_wanted_44 rfl ?_
      refine wp_iadd eX6_wanted_45 ?_
      exact wp_iret eX6_wanted_46 ⟨congrArg (fun z => some (Value.int z)) (by unfold sWant sHrs; (repeat' split) <;> first | rfl | (exfalso; simp_all; done) | (exfalso; simp only [Int32.lt_iff_toInt_lt, Int32.le_iff_toInt_le, ← Int32.toInt_inj, Int32.reduceToInt] at *; omega)), rfl⟩
    · refine wp_bipush (v := 99) eX6_wanted_38 rfl ?_
      refine wp_goto eX6_wanted_40 ?_
      exact wp_iret eX6_wanted_46 ⟨congrArg (fun z => some (Value.int z)) (by unfold sWant sHrs; (repeat' split) <;> first | rfl | (exfalso; simp_all; done) | (exfalso; simp only [Int32.lt_iff_toInt_lt, Int32.le_iff_toInt_le, ← Int32.toInt_inj, Int32.reduceToInt] at *; omega)), rfl⟩

set_option maxRecDepth 4000 in
theorem rX6_misfitOn (d : Nat) {h : Hp} (hM : MOK h) (S : St) (t s : Nat) (ht : t < 120) (hs : s < 16) : Res (d + 2) nX6_misfitOn [.ref 10, .int (nI t), .int (nI s)] (am_wi h S) (some (.int (sMis S t s))) (am_wi h S) := by
  refine Res_intro (ls := [some (.ref 10), some (.int (nI t)), some (.int (nI s))]) aX6_misfitOn rfl rfl rfl rfl ?_
  show WP kX6_misfitOn _ _ _ _ _ _
  refine wp_aload_n eX6_misfitOn_0 rfl ?_
  refine wp_getR (v := 18) eX6_misfitOn_1 (show Ob (am_wi h S) 10 6 from hM.ob) rfl hM.r15 ?_
  refine wp_iload_n eX6_misfitOn_4 rfl ?_
  refine wp_ial (v := S 18 s) (t := s) eX6_misfitOn_5 (show Ar (am_wi h S) 18 7 16 from hM.a18) (by omega) rfl rfl ?_
  refine wp_aload_n eX6_misfitOn_6 rfl ?_
  refine wp_iload_n eX6_misfitOn_7 rfl ?_
  refine wp_virt (rv := (some (.int (sWant S t)))) (h' := am_wi h S) (r := [.int (S 18 s)]) eX6_misfitOn_8 [.int (nI t)] rfl rfl rfl (show Ob (am_wi h S) 10 6 from hM.ob) (rX6_wanted _ hM _ _ (by omega)) ?_
  refine wp_stat (rv := (some (.int (sGap (S 18 s) (sWant S t))))) (h' := am_wi h S) (r := []) eX6_misfitOn_11 [.int (S 18 s), .int (sWant S t)] rfl rfl rfl rfl (rX6_gap _ _ _ _) ?_
  exact wp_iret eX6_misfitOn_14 ⟨congrArg (fun z => some (Value.int z)) (rfl), rfl⟩

set_option maxRecDepth 4000 in
theorem rX6_ticketOf (d : Nat) (h : Hp) (x : Int32) : Res (d + 1) nX6_ticketOf [.int x] h (some (.int (sTick x))) h := by
  refine Res_intro (ls := [some (.int x)]) aX6_ticketOf rfl rfl rfl rfl ?_
  show WP kX6_ticketOf _ _ _ _ _ _
  refine wp_bipush (v := 100) eX6_ticketOf_0 rfl ?_
  refine wp_iload_n eX6_ticketOf_2 rfl ?_
  refine wp_imul eX6_ticketOf_3 ?_
  refine wp_bipush (v := 37) eX6_ticketOf_4 rfl ?_
  refine wp_iload_n eX6_ticketOf_6 rfl ?_
  refine wp_imul eX6_ticketOf_7 ?_
  refine wp_bipush (v := 11) eX6_ticketOf_8 rfl ?_
  refine wp_iadd eX6_ticketOf_10 ?_
  refine wp_bipush (v := 97) eX6_ticketOf_11 rfl ?_
  refine wp_irem eX6_ticketOf_13 (by decide) ?_
  refine wp_iadd eX6_ticketOf_14 ?_
  exact wp_iret eX6_ticketOf_15 ⟨congrArg (fun z => some (Value.int z)) (rfl), rfl⟩

set_option maxRecDepth 4000 in
theorem rX6_markOf (d : Nat) (h : Hp) (m k : Int32) : Res (d + 1) nX6_markOf [.int m, .int k] h (some (.int (sMk m k))) h := by
  refine Res_intro (ls := [some (.int m), some (.int k)]) aX6_markOf rfl rfl rfl rfl ?_
  show WP kX6_markOf _ _ _ _ _ _
  refine wp_iload_n eX6_markOf_0 rfl ?_
  refine wp_iconst (v := 4) eX6_markOf_1 rfl ?_
  refine wp_iload_n eX6_markOf_2 rfl ?_
  refine wp_imul eX6_markOf_3 ?_
  refine wp_ishr eX6_markOf_4 ?_
  refine wp_bipush (v := 15) eX6_markOf_5 rfl ?_
  refine wp_iand eX6_markOf_7 ?_
  exact wp_iret eX6_markOf_8 ⟨congrArg (fun z => some (Value.int z)) (rfl), rfl⟩

set_option maxRecDepth 4000 in
theorem rX6_thingOf (d : Nat) {h : Hp} (hM : MOK h) (S : St) (x : Int32) : Res (d + 1) nX6_thingOf [.ref 10, .int x] (am_wi h S) (some (.int (sThOf S x))) (am_wi h S) := by
  refine Res_intro (ls := [some (.ref 10), some (.int x)]) aX6_thingOf rfl rfl rfl rfl ?_
  show WP kX6_thingOf _ _ _ _ _ _
  refine wp_iload_n eX6_thingOf_0 rfl ?_
  refine wp_if eX6_thingOf_1 (fun (c_1 : x < 0) => ?_) (fun (c_1 : ¬ (x < 0)) => ?_)
  · refine wp_bipush (v := (-2)) eX6_thingOf_24 rfl ?_
    exact wp_iret eX6_thingOf_26 ⟨congrArg (fun z => some (Value.int z)) (by unfold sThOf; (repeat' split) <;> first | rfl | (exfalso; simp_all; done) | (exfalso; simp only [Int32.lt_iff_toInt_lt, Int32.le_iff_toInt_le, ← Int32.toInt_inj, Int32.reduceToInt] at *; omega)), rfl⟩
  · refine wp_iload_n eX6_thingOf_4 rfl ?_
    refine wp_bipush (v := 100) eX6_thingOf_5 rfl ?_
    refine wp_irem eX6_thingOf_7 (by decide) ?_
    refine wp_bipush (v := 37) eX6_thingOf_8 rfl ?_
    refine wp_iload_n eX6_thingOf_10 rfl ?_
    refine wp_bipush (v := 100) eX6_thingOf_11 rfl ?_
    refine wp_idiv eX6_thingOf_13 (by decide) ?_
    refine wp_imul eX6_thingOf_14 ?_
    refine wp_bipush (v := 11) eX6_thingOf_15 rfl ?_
    refine wp_iadd eX6_thingOf_17 ?_
    refine wp_bipush (v := 97) eX6_thingOf_18 rfl ?_
    refine wp_irem eX6_thingOf_20 (by decide) ?_
    refine wp_icmp eX6_thingOf_21 (fun (c_21 : (md x 100) = (md ((37 * (x / 100)) + 11) 97)) => ?_) (fun (c_21 : ¬ ((md x 100) = (md ((37 * (x / 100)) + 11) 97))) => ?_)
    · refine wp_iload_n eX6_thingOf_27 rfl ?_
      refine wp_bipush (v := 100) eX6_thingOf_28 rfl ?_
      refine wp_idiv eX6_thingOf_30 (by decide) ?_
      refine wp_aload_n eX6_thingOf_31 rfl ?_
      refine wp_getI (v := S 10 12) eX6_thingOf_32 (show Ob (am_wi h S) 10 6 from hM.ob) rfl rfl ?_
      refine wp_icmp eX6_thingOf_35 (fun (c_35 : (S 10 12) ≤ (x / 100)) => ?_) (fun (c_35 : ¬ ((S 10 12) ≤ (x / 100))) => ?_)
      · refine wp_bipush (v := (-3)) eX6_thingOf_45 rfl ?_
        exact wp_iret eX6_thingOf_47 ⟨congrArg (fun z => some (Value.int z)) (by unfold sThOf; (repeat' split) <;> first | rfl | (exfalso; simp_all; done) | (exfalso; simp only [Int32.lt_iff_toInt_lt, Int32.le_iff_toInt_le, ← Int32.toInt_inj, Int32.reduceToInt] at *; omega)), rfl⟩
      · refine wp_iload_n eX6_thingOf_38 rfl ?_
        refine wp_bipush (v := 100) eX6_thingOf_39 rfl ?_
        refine wp_idiv eX6_thingOf_41 (by decide) ?_
        refine wp_goto eX6_thingOf_42 ?_
        exact wp_iret eX6_thingOf_47 ⟨congrArg (fun z => some (Value.int z)) (by unfold sThOf; (repeat' split) <;> first | rfl | (exfalso; simp_all; done) | (exfalso; simp only [Int32.lt_iff_toInt_lt, Int32.le_iff_toInt_le, ← Int32.toInt_inj, Int32.reduceToInt] at *; omega)), rfl⟩
    · refine wp_bipush (v := (-2)) eX6_thingOf_24 rfl ?_
      exact wp_iret eX6_thingOf_26 ⟨congrArg (fun z => some (Value.int z)) (by unfold sThOf; (repeat' split) <;> first | rfl | (exfalso; simp_all; done) | (exfalso; simp only [Int32.lt_iff_toInt_lt, Int32.le_iff_toInt_le, ← Int32.toInt_inj, Int32.reduceToInt] at *; omega)), rfl⟩

set_option maxRecDepth 4000 in
theorem rX6_isClaim (d : Nat) {h : Hp} (hM : MOK h) (S : St) (c : Int32) : Res (d + 2) nX6_isClaim [.ref 10, .int c] (am_wi h S) (some (.int (sIn c 0 (S 10 29 - 1)))) (am_wi h S) := by
  refine Res_intro (ls := [some (.ref 10), some (.int c)]) aX6_isClaim rfl rfl rfl rfl ?_
  show WP kX6_isClaim _ _ _ _ _ _
  refine wp_iload_n eX6_isClaim_0 rfl ?_
  refine wp_iconst (v := 0) eX6_isClaim_1 rfl ?_
  refine wp_aload_n eX6_isClaim_2 rfl ?_
  refine wp_getI (v := S 10 29) eX6_isClaim_3 (show Ob (am_wi h S) 10 6 from hM.ob) rfl rfl ?_
  refine wp_iconst (v := 1) eX6_isClaim_6 rfl ?_
  refine wp_isub eX6_isClaim_7 ?_
  refine wp_stat (rv := (some (.int (sIn c 0 ((S 10 29) - 1))))) (h' := am_wi h S) (r := []) eX6_isClaim_8 [.int c, .int 0, .int ((S 10 29) - 1)] rfl rfl rfl rfl (rX6_in _ _ _ _ _) ?_
  exact wp_zret eX6_isClaim_11 (sIn_01 _ _ _) ⟨congrArg (fun z => some (Value.int z)) (rfl), rfl⟩
