/-! THE CLASS: its small methods, over the heap -/
def cWant (due now : Int32) : Int32 := mn (1 + mx (due - now) 0 / 60) 99
def cMis (dist due now : Int32) : Int32 := ab (dist - cWant due now)
def cTkt (x : Int32) : Int32 := if x < 0 ∨ ¬ md x 100 = md (37 * (x / 100) + 11) 97 then 0 else 1
def cSuit (h : Hp) (s a : Nat) : Int32 := if am_i h a 1 ≤ am_i h s 2 ∧ am_i h s 3 = am_i h a 2 then 1 else 0
def cFits (h : Hp) (s a : Nat) : Int32 := if am_i h s 7 = 0 ∧ cSuit h s a = 1 ∧ am_i h a 0 ≤ am_i h s 5 then 1 else 0
theorem cSuit_01 (h : Hp) (s a : Nat) : cSuit h s a = 0 ∨ cSuit h s a = 1 := by unfold cSuit; split <;> simp
theorem cFits_01 (h : Hp) (s a : Nat) : cFits h s a = 0 ∨ cFits h s a = 1 := by unfold cFits; split <;> simp
theorem cTkt_01 (x : Int32) : cTkt x = 0 ∨ cTkt x = 1 := by unfold cTkt; split <;> simp

set_option maxRecDepth 4000 in
theorem rX5_isWithin (d : Nat) {h : Hp} (v l g : Int32) : Res (d + 1) nX5_isWithin [.int v, .int l, .int g] h (some (.int (sIn v l g))) h := by
  refine Res_intro (ls := [some (.int v), some (.int l), some (.int g)]) aX5_isWithin rfl rfl rfl rfl ?_
  show WP kX5_isWithin _ _ _ _ _ _
  refine wp_iload_n eX5_isWithin_0 rfl ?_
  refine wp_iload_n eX5_isWithin_1 rfl ?_
  refine wp_icmp eX5_isWithin_2 (fun (c_2 : v < l) => ?_) (fun (c_2 : ¬ (v < l)) => ?_)
  · refine wp_iconst (v := 0) eX5_isWithin_14 rfl ?_
    exact wp_zret eX5_isWithin_15 (by first | exact Or.inl rfl | exact Or.inr rfl | assumption) ⟨congrArg (fun z => some (Value.int z)) (by unfold sIn; (repeat' split) <;> first | rfl | (exfalso; simp_all; done) | (exfalso; simp only [Int32.lt_iff_toInt_lt, Int32.le_iff_toInt_le, ← Int32.toInt_inj, Int32.reduceToInt] at *; omega)), rfl⟩
  · refine wp_iload_n eX5_isWithin_5 rfl ?_
    refine wp_iload_n eX5_isWithin_6 rfl ?_
    refine wp_icmp eX5_isWithin_7 (fun (c_7 : g < v) => ?_) (fun (c_7 : ¬ (g < v)) => ?_)
    · refine wp_iconst (v := 0) eX5_isWithin_14 rfl ?_
      exact wp_zret eX5_isWithin_15 (by first | exact Or.inl rfl | exact Or.inr rfl | assumption) ⟨congrArg (fun z => some (Value.int z)) (by unfold sIn; (repeat' split) <;> first | rfl | (exfalso; simp_all; done) | (exfalso; simp only [Int32.lt_iff_toInt_lt, Int32.le_iff_toInt_le, ← Int32.toInt_inj, Int32.reduceToInt] at *; omega)), rfl⟩
    · refine wp_iconst (v := 1) eX5_isWithin_10 rfl ?_
      refine wp_goto eX5_isWithin_11 ?_
      exact wp_zret eX5_isWithin_15 (by first | exact Or.inl rfl | exact Or.inr rfl | assumption) ⟨congrArg (fun z => some (Value.int z)) (by unfold sIn; (repeat' split) <;> first | rfl | (exfalso; simp_all; done) | (exfalso; simp only [Int32.lt_iff_toInt_lt, Int32.le_iff_toInt_le, ← Int32.toInt_inj, Int32.reduceToInt] at *; omega)), rfl⟩

set_option maxRecDepth 4000 in
theorem rX5_isPrice (d : Nat) {h : Hp} (v : Int32) : Res (d + 2) nX5_isPrice [.int v] h (some (.int (sIn v 0 1000))) h := by
  refine Res_intro (ls := [some (.int v)]) aX5_isPrice rfl rfl rfl rfl ?_
  show WP kX5_isPrice _ _ _ _ _ _
  refine wp_iload_n eX5_isPrice_0 rfl ?_
  refine wp_iconst (v := 0) eX5_isPrice_1 rfl ?_
  refine wp_sipush (v := 1000) eX5_isPrice_2 rfl ?_
  refine wp_stat (rv := (some (.int (sIn v 0 1000)))) (h' := h) (r := []) eX5_isPrice_5 [.int v, .int 0, .int 1000] rfl rfl rfl rfl (rX5_isWithin _ _ _ _) ?_
  exact wp_zret eX5_isPrice_8 (sIn_01 _ _ _) ⟨congrArg (fun z => some (Value.int z)) (rfl), rfl⟩

set_option maxRecDepth 4000 in
theorem rX5_asNumber (d : Nat) {h : Hp} (v : Int32) : Res (d + 1) nX5_asNumber [.int v] h (some (.int (if v = 0 then 0 else 1))) h := by
  refine Res_intro (ls := [some (.int v)]) aX5_asNumber rfl rfl rfl rfl ?_
  show WP kX5_asNumber _ _ _ _ _ _
  refine wp_iload_n eX5_asNumber_0 rfl ?_
  refine wp_if eX5_asNumber_1 (fun (c_1 : v = 0) => ?_) (fun (c_1 : ¬ (v = 0)) => ?_)
  · refine wp_iconst (v := 0) eX5_asNumber_8 rfl ?_
    exact wp_iret eX5_asNumber_9 ⟨congrArg (fun z => some (Value.int z)) (by split <;> first | rfl | (exfalso; simp_all; done)), rfl⟩
  · refine wp_iconst (v := 1) eX5_asNumber_4 rfl ?_
    refine wp_goto eX5_asNumber_5 ?_
    exact wp_iret eX5_asNumber_9 ⟨congrArg (fun z => some (Value.int z)) (by split <;> first | rfl | (exfalso; simp_all; done)), rfl⟩

set_option maxRecDepth 4000 in
theorem rX5_dayOf (d : Nat) {h : Hp} (v : Int32) : Res (d + 1) nX5_dayOf [.int v] h (some (.int (v / 1440))) h := by
  refine Res_intro (ls := [some (.int v)]) aX5_dayOf rfl rfl rfl rfl ?_
  show WP kX5_dayOf _ _ _ _ _ _
  refine wp_iload_n eX5_dayOf_0 rfl ?_
  refine wp_sipush (v := 1440) eX5_dayOf_1 rfl ?_
  refine wp_idiv eX5_dayOf_4 (by decide) ?_
  exact wp_iret eX5_dayOf_5 ⟨congrArg (fun z => some (Value.int z)) (rfl), rfl⟩

set_option maxRecDepth 4000 in
theorem rX5_checkOf (d : Nat) {h : Hp} (v : Int32) : Res (d + 1) nX5_checkOf [.int v] h (some (.int (md (37 * v + 11) 97))) h := by
  refine Res_intro (ls := [some (.int v)]) aX5_checkOf rfl rfl rfl rfl ?_
  show WP kX5_checkOf _ _ _ _ _ _
  refine wp_bipush (v := 37) eX5_checkOf_0 rfl ?_
  refine wp_iload_n eX5_checkOf_2 rfl ?_
  refine wp_imul eX5_checkOf_3 ?_
  refine wp_bipush (v := 11) eX5_checkOf_4 rfl ?_
  refine wp_iadd eX5_checkOf_6 ?_
  refine wp_bipush (v := 97) eX5_checkOf_7 rfl ?_
  refine wp_irem eX5_checkOf_9 (by decide) ?_
  exact wp_iret eX5_checkOf_10 ⟨congrArg (fun z => some (Value.int z)) (rfl), rfl⟩

set_option maxRecDepth 4000 in
theorem rX5_ticketOf (d : Nat) {h : Hp} (v : Int32) : Res (d + 2) nX5_ticketOf [.int v] h (some (.int (sTick v))) h := by
  refine Res_intro (ls := [some (.int v)]) aX5_ticketOf rfl rfl rfl rfl ?_
  show WP kX5_ticketOf _ _ _ _ _ _
  refine wp_bipush (v := 100) eX5_ticketOf_0 rfl ?_
  refine wp_iload_n eX5_ticketOf_2 rfl ?_
  refine wp_imul eX5_ticketOf_3 ?_
  refine wp_iload_n eX5_ticketOf_4 rfl ?_
  refine wp_stat (rv := (some (.int (md (37 * v + 11) 97)))) (h' := h) (r := [.int (100 * v)]) eX5_ticketOf_5 [.int v] rfl rfl rfl rfl (rX5_checkOf _ _) ?_
  refine wp_iadd eX5_ticketOf_8 ?_
  exact wp_iret eX5_ticketOf_9 ⟨congrArg (fun z => some (Value.int z)) (rfl), rfl⟩

set_option maxRecDepth 4000 in
theorem rX5_isTicket (d : Nat) {h : Hp} (v : Int32) : Res (d + 2) nX5_isTicket [.int v] h (some (.int (cTkt v))) h := by
  refine Res_intro (ls := [some (.int v)]) aX5_isTicket rfl rfl rfl rfl ?_
  show WP kX5_isTicket _ _ _ _ _ _
  refine wp_iload_n eX5_isTicket_0 rfl ?_
  refine wp_if eX5_isTicket_1 (fun (c_1 : v < 0) => ?_) (fun (c_1 : ¬ (v < 0)) => ?_)
  · refine wp_iconst (v := 0) eX5_isTicket_22 rfl ?_
    exact wp_zret eX5_isTicket_23 (by first | exact Or.inl rfl | exact Or.inr rfl | assumption) ⟨congrArg (fun z => some (Value.int z)) (by unfold cTkt; (repeat' split) <;> first | rfl | (exfalso; simp_all; done) | (exfalso; simp only [Int32.lt_iff_toInt_lt, Int32.le_iff_toInt_le, ← Int32.toInt_inj, Int32.reduceToInt] at *; omega)), rfl⟩
  · refine wp_iload_n eX5_isTicket_4 rfl ?_
    refine wp_bipush (v := 100) eX5_isTicket_5 rfl ?_
    refine wp_irem eX5_isTicket_7 (by decide) ?_
    refine wp_iload_n eX5_isTicket_8 rfl ?_
    refine wp_bipush (v := 100) eX5_isTicket_9 rfl ?_
    refine wp_idiv eX5_isTicket_11 (by decide) ?_
    refine wp_stat (rv := (some (.int (md (37 * (v / 100) + 11) 97)))) (h' := h) (r := [.int (md v 100)]) eX5_isTicket_12 [.int (v / 100)] rfl rfl rfl rfl (rX5_checkOf _ _) ?_
    refine wp_icmp eX5_isTicket_15 (fun (c_15 : ¬ (md v 100) = (md (37 * (v / 100) + 11) 97)) => ?_) (fun (c_15 : ¬ (¬ (md v 100) = (md (37 * (v / 100) + 11) 97))) => ?_)
    · refine wp_iconst (v := 0) eX5_isTicket_22 rfl ?_
      exact wp_zret eX5_isTicket_23 (by first | exact Or.inl rfl | exact Or.inr rfl | assumption) ⟨congrArg (fun z => some (Value.int z)) (by unfold cTkt; (repeat' split) <;> first | rfl | (exfalso; simp_all; done) | (exfalso; simp only [Int32.lt_iff_toInt_lt, Int32.le_iff_toInt_le, ← Int32.toInt_inj, Int32.reduceToInt] at *; omega)), rfl⟩
    · refine wp_iconst (v := 1) eX5_isTicket_18 rfl ?_
      refine wp_goto eX5_isTicket_19 ?_
      exact wp_zret eX5_isTicket_23 (by first | exact Or.inl rfl | exact Or.inr rfl | assumption) ⟨congrArg (fun z => some (Value.int z)) (by unfold cTkt; (repeat' split) <;> first | rfl | (exfalso; simp_all; done) | (exfalso; simp only [Int32.lt_iff_toInt_lt, Int32.le_iff_toInt_le, ← Int32.toInt_inj, Int32.reduceToInt] at *; omega)), rfl⟩

set_option maxRecDepth 4000 in
theorem rX4_dueDay (d : Nat) {h : Hp} (a : Nat) (hA : Ob h a 4) : Res (d + 2) nX4_dueDay [.ref a] h (some (.int (am_i h a 5 / 1440))) h := by
  refine Res_intro (ls := [some (.ref a)]) aX4_dueDay rfl rfl rfl rfl ?_
  show WP kX4_dueDay _ _ _ _ _ _
  refine wp_aload_n eX4_dueDay_0 rfl ?_
  refine wp_getI (v := am_i h a 5) eX4_dueDay_1 (show Ob h a 4 from hA) rfl rfl ?_
  refine wp_stat (rv := (some (.int ((am_i h a 5) / 1440)))) (h' := h) (r := []) eX4_dueDay_4 [.int (am_i h a 5)] rfl rfl rfl rfl (rX5_dayOf _ _) ?_
  exact wp_iret eX4_dueDay_7 ⟨congrArg (fun z => some (Value.int z)) (rfl), rfl⟩

set_option maxRecDepth 4000 in
theorem rX4_markAt (d : Nat) {h : Hp} (a : Nat) (hA : Ob h a 4) (k : Int32) : Res (d + 1) nX4_markAt [.ref a, .int k] h (some (.int (sMk (am_i h a 4) k))) h := by
  refine Res_intro (ls := [some (.ref a), some (.int k)]) aX4_markAt rfl rfl rfl rfl ?_
  show WP kX4_markAt _ _ _ _ _ _
  refine wp_aload_n eX4_markAt_0 rfl ?_
  refine wp_getI (v := am_i h a 4) eX4_markAt_1 (show Ob h a 4 from hA) rfl rfl ?_
  refine wp_iconst (v := 4) eX4_markAt_4 rfl ?_
  refine wp_iload_n eX4_markAt_5 rfl ?_
  refine wp_imul eX4_markAt_6 ?_
  refine wp_ishr eX4_markAt_7 ?_
  refine wp_bipush (v := 15) eX4_markAt_8 rfl ?_
  refine wp_iand eX4_markAt_10 ?_
  exact wp_iret eX4_markAt_11 ⟨congrArg (fun z => some (Value.int z)) (rfl), rfl⟩

set_option maxRecDepth 4000 in
theorem rX4_wanted (d : Nat) {h : Hp} (a : Nat) (hA : Ob h a 4) (now : Int32) : Res (d + 1) nX4_wanted [.ref a, .int now] h (some (.int (cWant (am_i h a 5) now))) h := by
  refine Res_intro (ls := [some (.ref a), some (.int now), none]) aX4_wanted rfl rfl rfl rfl ?_
  show WP kX4_wanted _ _ _ _ _ _
  refine wp_aload_n eX4_wanted_0 rfl ?_
  refine wp_getI (v := am_i h a 5) eX4_wanted_1 (show Ob h a 4 from hA) rfl rfl ?_
  refine wp_iload_n eX4_wanted_4 rfl ?_
  refine wp_isub eX4_wanted_5 ?_
  refine wp_iconst (v := 0) eX4_wanted_6 rfl ?_
  refine wp_max eX4_wanted_7 rfl ?_
  refine wp_bipush (v := 60) eX4_wanted_10 rfl ?_
  refine wp_idiv eX4_wanted_12 (by decide) ?_
  refine wp_istore_n (ls' := [some (.ref a), some (.int now), some (.int ((mx ((am_i h a 5) - now) 0) / 60))]) eX4_wanted_13 rfl rfl ?_
  refine wp_iconst (v := 1) eX4_wanted_14 rfl ?_
  refine wp_iload_n eX4_wanted_15 rfl ?_
  refine wp_iadd eX4_wanted_16 ?_
  refine wp_bipush (v := 99) eX4_wanted_17 rfl ?_
  refine wp_min eX4_wanted_19 rfl ?_
  exact wp_iret eX4_wanted_22 ⟨congrArg (fun z => some (Value.int z)) (rfl), rfl⟩

set_option maxRecDepth 4000 in
theorem rX4_misfitOn (d : Nat) {h : Hp} (a : Nat) (hA : Ob h a 4) (s : Nat) (hS : Ob h s 3) (now : Int32) : Res (d + 2) nX4_misfitOn [.ref a, .ref s, .int now] h (some (.int (cMis (am_i h s 4) (am_i h a 5) now))) h := by
  refine Res_intro (ls := [some (.ref a), some (.ref s), some (.int now)]) aX4_misfitOn rfl rfl rfl rfl ?_
  show WP kX4_misfitOn _ _ _ _ _ _
  refine wp_aload_n eX4_misfitOn_0 rfl ?_
  refine wp_getI (v := am_i h s 4) eX4_misfitOn_1 (show Ob h s 3 from hS) rfl rfl ?_
  refine wp_aload_n eX4_misfitOn_4 rfl ?_
  refine wp_iload_n eX4_misfitOn_5 rfl ?_
  refine wp_virt (rv := (some (.int (cWant (am_i h a 5) now)))) (h' := h) (r := [.int (am_i h s 4)]) eX4_misfitOn_6 [.int now] rfl rfl rfl (show Ob h a 4 from hA) (rX4_wanted _ _ hA _) ?_
  refine wp_isub eX4_misfitOn_9 ?_
  refine wp_abs eX4_misfitOn_10 rfl ?_
  exact wp_iret eX4_misfitOn_13 ⟨congrArg (fun z => some (Value.int z)) (rfl), rfl⟩

set_option maxRecDepth 4000 in
theorem rX4_misfitHere (d : Nat) {h : Hp} (a : Nat) (hA : Ob h a 4) (s : Nat) (hS : Ob h s 3) (hp : am_r h a 8 = some s) (now : Int32) : Res (d + 3) nX4_misfitHere [.ref a, .int now] h (some (.int (cMis (am_i h s 4) (am_i h a 5) now))) h := by
  refine Res_intro (ls := [some (.ref a), some (.int now)]) aX4_misfitHere rfl rfl rfl rfl ?_
  show WP kX4_misfitHere _ _ _ _ _ _
  refine wp_aload_n eX4_misfitHere_0 rfl ?_
  refine wp_getR (v := s) eX4_misfitHere_1 (show Ob h a 4 from hA) rfl hp ?_
  refine wp_ifnonnullT eX4_misfitHere_4 ?_
  refine wp_aload_n eX4_misfitHere_11 rfl ?_
  refine wp_aload_n eX4_misfitHere_12 rfl ?_
  refine wp_getR (v := s) eX4_misfitHere_13 (show Ob h a 4 from hA) rfl hp ?_
  refine wp_iload_n eX4_misfitHere_16 rfl ?_
  refine wp_virt (rv := (some (.int (cMis (am_i h s 4) (am_i h a 5) now)))) (h' := h) (r := []) eX4_misfitHere_17 [.ref s, .int now] rfl rfl rfl (show Ob h a 4 from hA) (rX4_misfitOn _ _ hA _ hS _) ?_
  exact wp_iret eX4_misfitHere_20 ⟨congrArg (fun z => some (Value.int z)) (rfl), rfl⟩

set_option maxRecDepth 4000 in
theorem rX4_misfitHereN (d : Nat) {h : Hp} (a : Nat) (hA : Ob h a 4) (hp : am_r h a 8 = none) (now : Int32) : Res (d + 3) nX4_misfitHere [.ref a, .int now] h (some (.int (-1))) h := by
  refine Res_intro (ls := [some (.ref a), some (.int now)]) aX4_misfitHere rfl rfl rfl rfl ?_
  show WP kX4_misfitHere _ _ _ _ _ _
  refine wp_aload_n eX4_misfitHere_0 rfl ?_
  refine wp_getO (v := none) eX4_misfitHere_1 (show Ob h a 4 from hA) rfl hp ?_
  refine wp_ifnonnullF eX4_misfitHere_4 ?_
  refine wp_iconst (v := (-1)) eX4_misfitHere_7 rfl ?_
  refine wp_goto eX4_misfitHere_8 ?_
  exact wp_iret eX4_misfitHere_20 ⟨congrArg (fun z => some (Value.int z)) (rfl), rfl⟩

set_option maxRecDepth 4000 in
theorem rX4_placeNumber (d : Nat) {h : Hp} (a : Nat) (hA : Ob h a 4) (s : Nat) (hS : Ob h s 3) (hp : am_r h a 8 = some s) : Res (d + 1) nX4_placeNumber [.ref a] h (some (.int (am_i h s 0))) h := by
  refine Res_intro (ls := [some (.ref a)]) aX4_placeNumber rfl rfl rfl rfl ?_
  show WP kX4_placeNumber _ _ _ _ _ _
  refine wp_aload_n eX4_placeNumber_0 rfl ?_
  refine wp_getR (v := s) eX4_placeNumber_1 (show Ob h a 4 from hA) rfl hp ?_
  refine wp_ifnonnullT eX4_placeNumber_4 ?_
  refine wp_aload_n eX4_placeNumber_11 rfl ?_
  refine wp_getR (v := s) eX4_placeNumber_12 (show Ob h a 4 from hA) rfl hp ?_
  refine wp_getI (v := am_i h s 0) eX4_placeNumber_15 (show Ob h s 3 from hS) rfl rfl ?_
  exact wp_iret eX4_placeNumber_18 ⟨congrArg (fun z => some (Value.int z)) (rfl), rfl⟩

set_option maxRecDepth 4000 in
theorem rX4_placeNumberN (d : Nat) {h : Hp} (a : Nat) (hA : Ob h a 4) (hp : am_r h a 8 = none) : Res (d + 1) nX4_placeNumber [.ref a] h (some (.int (-1))) h := by
  refine Res_intro (ls := [some (.ref a)]) aX4_placeNumber rfl rfl rfl rfl ?_
  show WP kX4_placeNumber _ _ _ _ _ _
  refine wp_aload_n eX4_placeNumber_0 rfl ?_
  refine wp_getO (v := none) eX4_placeNumber_1 (show Ob h a 4 from hA) rfl hp ?_
  refine wp_ifnonnullF eX4_placeNumber_4 ?_
  refine wp_iconst (v := (-1)) eX4_placeNumber_7 rfl ?_
  refine wp_goto eX4_placeNumber_8 ?_
  exact wp_iret eX4_placeNumber_18 ⟨congrArg (fun z => some (Value.int z)) (rfl), rfl⟩

set_option maxRecDepth 4000 in
theorem rX4_isStuck (d : Nat) {h : Hp} (a : Nat) (hA : Ob h a 4) (s : Nat) (hS : Ob h s 3) (hp : am_r h a 8 = some s) : Res (d + 1) nX4_isStuck [.ref a] h (some (.int (if am_i h s 7 = 0 then 0 else 1))) h := by
  refine Res_intro (ls := [some (.ref a)]) aX4_isStuck rfl rfl rfl rfl ?_
  show WP kX4_isStuck _ _ _ _ _ _
  refine wp_aload_n eX4_isStuck_0 rfl ?_
  refine wp_getR (v := s) eX4_isStuck_1 (show Ob h a 4 from hA) rfl hp ?_
  refine wp_ifnullF eX4_isStuck_4 ?_
  refine wp_aload_n eX4_isStuck_7 rfl ?_
  refine wp_getR (v := s) eX4_isStuck_8 (show Ob h a 4 from hA) rfl hp ?_
  refine wp_getI (v := am_i h s 7) eX4_isStuck_11 (show Ob h s 3 from hS) rfl rfl ?_
  refine wp_if eX4_isStuck_14 (fun (c_14 : (am_i h s 7) = 0) => ?_) (fun (c_14 : ¬ ((am_i h s 7) = 0)) => ?_)
  · refine wp_iconst (v := 0) eX4_isStuck_21 rfl ?_
    exact wp_zret eX4_isStuck_22 (by first | exact Or.inl rfl | exact Or.inr rfl | assumption) ⟨congrArg (fun z => some (Value.int z)) (by split <;> first | rfl | (exfalso; simp_all; done)), rfl⟩
  · refine wp_iconst (v := 1) eX4_isStuck_17 rfl ?_
    refine wp_goto eX4_isStuck_18 ?_
    exact wp_zret eX4_isStuck_22 (by first | exact Or.inl rfl | exact Or.inr rfl | assumption) ⟨congrArg (fun z => some (Value.int z)) (by split <;> first | rfl | (exfalso; simp_all; done)), rfl⟩

set_option maxRecDepth 4000 in
theorem rX4_isStuckN (d : Nat) {h : Hp} (a : Nat) (hA : Ob h a 4) (hp : am_r h a 8 = none) : Res (d + 1) nX4_isStuck [.ref a] h (some (.int 0)) h := by
  refine Res_intro (ls := [some (.ref a)]) aX4_isStuck rfl rfl rfl rfl ?_
  show WP kX4_isStuck _ _ _ _ _ _
  refine wp_aload_n eX4_isStuck_0 rfl ?_
  refine wp_getO (v := none) eX4_isStuck_1 (show Ob h a 4 from hA) rfl hp ?_
  refine wp_ifnullT eX4_isStuck_4 ?_
  refine wp_iconst (v := 0) eX4_isStuck_21 rfl ?_
  exact wp_zret eX4_isStuck_22 (by first | exact Or.inl rfl | exact Or.inr rfl | assumption) ⟨congrArg (fun z => some (Value.int z)) (rfl), rfl⟩

set_option maxRecDepth 4000 in
theorem rX3_suits (d : Nat) {h : Hp} (a : Nat) (hA : Ob h a 4) (s : Nat) (hS : Ob h s 3) : Res (d + 1) nX3_suits [.ref s, .ref a] h (some (.int (cSuit h s a))) h := by
  refine Res_intro (ls := [some (.ref s), some (.ref a)]) aX3_suits rfl rfl rfl rfl ?_
  show WP kX3_suits _ _ _ _ _ _
  refine wp_aload_n eX3_suits_0 rfl ?_
  refine wp_getI (v := am_i h s 2) eX3_suits_1 (show Ob h s 3 from hS) rfl rfl ?_
  refine wp_aload_n eX3_suits_4 rfl ?_
  refine wp_getI (v := am_i h a 1) eX3_suits_5 (show Ob h a 4 from hA) rfl rfl ?_
  refine wp_icmp eX3_suits_8 (fun (c_8 : (am_i h s 2) < (am_i h a 1)) => ?_) (fun (c_8 : ¬ ((am_i h s 2) < (am_i h a 1))) => ?_)
  · refine wp_iconst (v := 0) eX3_suits_26 rfl ?_
    exact wp_zret eX3_suits_27 (by first | exact Or.inl rfl | exact Or.inr rfl | assumption) ⟨congrArg (fun z => some (Value.int z)) (by unfold cSuit; (repeat' split) <;> first | rfl | (exfalso; simp_all; done) | (exfalso; simp only [Int32.lt_iff_toInt_lt, Int32.le_iff_toInt_le, ← Int32.toInt_inj, Int32.reduceToInt] at *; omega)), rfl⟩
  · refine wp_aload_n eX3_suits_11 rfl ?_
    refine wp_getI (v := am_i h s 3) eX3_suits_12 (show Ob h s 3 from hS) rfl rfl ?_
    refine wp_aload_n eX3_suits_15 rfl ?_
    refine wp_getI (v := am_i h a 2) eX3_suits_16 (show Ob h a 4 from hA) rfl rfl ?_
    refine wp_icmp eX3_suits_19 (fun (c_19 : ¬ (am_i h s 3) = (am_i h a 2)) => ?_) (fun (c_19 : ¬ (¬ (am_i h s 3) = (am_i h a 2))) => ?_)
    · refine wp_iconst (v := 0) eX3_suits_26 rfl ?_
      exact wp_zret eX3_suits_27 (by first | exact Or.inl rfl | exact Or.inr rfl | assumption) ⟨congrArg (fun z => some (Value.int z)) (by unfold cSuit; (repeat' split) <;> first | rfl | (exfalso; simp_all; done) | (exfalso; simp only [Int32.lt_iff_toInt_lt, Int32.le_iff_toInt_le, ← Int32.toInt_inj, Int32.reduceToInt] at *; omega)), rfl⟩
    · refine wp_iconst (v := 1) eX3_suits_22 rfl ?_
      refine wp_goto eX3_suits_23 ?_
      exact wp_zret eX3_suits_27 (by first | exact Or.inl rfl | exact Or.inr rfl | assumption) ⟨congrArg (fun z => some (Value.int z)) (by unfold cSuit; (repeat' split) <;> first | rfl | (exfalso; simp_all; done) | (exfalso; simp only [Int32.lt_iff_toInt_lt, Int32.le_iff_toInt_le, ← Int32.toInt_inj, Int32.reduceToInt] at *; omega)), rfl⟩

set_option maxRecDepth 4000 in
theorem rX3_fits (d : Nat) {h : Hp} (a : Nat) (hA : Ob h a 4) (s : Nat) (hS : Ob h s 3) : Res (d + 2) nX3_fits [.ref s, .ref a] h (some (.int (cFits h s a))) h := by
  refine Res_intro (ls := [some (.ref s), some (.ref a)]) aX3_fits rfl rfl rfl rfl ?_
  show WP kX3_fits _ _ _ _ _ _
  refine wp_aload_n eX3_fits_0 rfl ?_
  refine wp_getI (v := am_i h s 7) eX3_fits_1 (show Ob h s 3 from hS) rfl rfl ?_
  refine wp_if eX3_fits_4 (fun (c_4 : ¬ (am_i h s 7) = 0) => ?_) (fun (c_4 : ¬ (¬ (am_i h s 7) = 0)) => ?_)
  · refine wp_iconst (v := 0) eX3_fits_30 rfl ?_
    exact wp_zret eX3_fits_31 (by first | exact Or.inl rfl | exact Or.inr rfl | assumption) ⟨congrArg (fun z => some (Value.int z)) (by rcases cSuit_01 h s a with q | q <;> simp_all [cFits, Int32.not_lt, Int32.not_le]), rfl⟩
  · refine wp_aload_n eX3_fits_7 rfl ?_
    refine wp_aload_n eX3_fits_8 rfl ?_
    refine wp_virt (rv := (some (.int (cSuit h s a)))) (h' := h) (r := []) eX3_fits_9 [.ref a] rfl rfl rfl (show Ob h s 3 from hS) (rX3_suits _ _ hA _ hS) ?_
    refine wp_if eX3_fits_12 (fun (c_12 : (cSuit h s a) = 0) => ?_) (fun (c_12 : ¬ ((cSuit h s a) = 0)) => ?_)
    · refine wp_iconst (v := 0) eX3_fits_30 rfl ?_
      exact wp_zret eX3_fits_31 (by first | exact Or.inl rfl | exact Or.inr rfl | assumption) ⟨congrArg (fun z => some (Value.int z)) (by rcases cSuit_01 h s a with q | q <;> simp_all [cFits, Int32.not_lt, Int32.not_le]), rfl⟩
    · refine wp_aload_n eX3_fits_15 rfl ?_
      refine wp_getI (v := am_i h s 5) eX3_fits_16 (show Ob h s 3 from hS) rfl rfl ?_
      refine wp_aload_n eX3_fits_19 rfl ?_
      refine wp_getI (v := am_i h a 0) eX3_fits_20 (show Ob h a 4 from hA) rfl rfl ?_
      refine wp_icmp eX3_fits_23 (fun (c_23 : (am_i h s 5) < (am_i h a 0)) => ?_) (fun (c_23 : ¬ ((am_i h s 5) < (am_i h a 0))) => ?_)
      · refine wp_iconst (v := 0) eX3_fits_30 rfl ?_
        exact wp_zret eX3_fits_31 (by first | exact Or.inl rfl | exact Or.inr rfl | assumption) ⟨congrArg (fun z => some (Value.int z)) (by rcases cSuit_01 h s a with q | q <;> simp_all [cFits, Int32.not_lt, Int32.not_le]), rfl⟩
      · refine wp_iconst (v := 1) eX3_fits_26 rfl ?_
        refine wp_goto eX3_fits_27 ?_
        exact wp_zret eX3_fits_31 (by first | exact Or.inl rfl | exact Or.inr rfl | assumption) ⟨congrArg (fun z => some (Value.int z)) (by rcases cSuit_01 h s a with q | q <;> simp_all [cFits, Int32.not_lt, Int32.not_le]), rfl⟩

set_option maxRecDepth 4000 in
theorem rX3_take (d : Nat) {h : Hp} (a : Nat) (hA : Ob h a 4) (s : Nat) (hS : Ob h s 3) : Res (d + 1) nX3_take [.ref s, .ref a] h none (am_setR (am_setI (am_setI h s 5 (am_i h s 5 - am_i h a 0)) s 6 (am_i h s 6 + 1)) a 8 (some s)) := by
  refine Res_intro (ls := [some (.ref s), some (.ref a)]) aX3_take rfl rfl rfl rfl ?_
  show WP kX3_take _ _ _ _ _ _
  refine wp_aload_n eX3_take_0 rfl ?_
  refine wp_dup eX3_take_1 rfl ?_
  refine wp_getI (v := am_i h s 5) eX3_take_2 (show Ob h s 3 from hS) rfl rfl ?_
  refine wp_aload_n eX3_take_5 rfl ?_
  refine wp_getI (v := am_i h a 0) eX3_take_6 (show Ob h a 4 from hA) rfl rfl ?_
  refine wp_isub eX3_take_9 ?_
  refine wp_putI (h' := am_setI h s 5 ((am_i h s 5) - (am_i h a 0))) eX3_take_10 (show Ob h s 3 from hS) rfl rfl ?_
  refine wp_aload_n eX3_take_13 rfl ?_
  refine wp_dup eX3_take_14 rfl ?_
  refine wp_getI (v := am_i h s 6) eX3_take_15 (show Ob (am_setI h s 5 ((am_i h s 5) - (am_i h a 0))) s 3 from hS) rfl (by simp [am_setI, am_i]) ?_
  refine wp_iconst (v := 1) eX3_take_18 rfl ?_
  refine wp_iadd eX3_take_19 ?_
  refine wp_putI (h' := am_setI (am_setI h s 5 ((am_i h s 5) - (am_i h a 0))) s 6 ((am_i h s 6) + 1)) eX3_take_20 (show Ob (am_setI h s 5 ((am_i h s 5) - (am_i h a 0))) s 3 from hS) rfl rfl ?_
  refine wp_aload_n eX3_take_23 rfl ?_
  refine wp_aload_n eX3_take_24 rfl ?_
  refine wp_putR (h' := am_setR (am_setI (am_setI h s 5 ((am_i h s 5) - (am_i h a 0))) s 6 ((am_i h s 6) + 1)) a 8 (some s)) eX3_take_25 (show Ob (am_setI (am_setI h s 5 ((am_i h s 5) - (am_i h a 0))) s 6 ((am_i h s 6) + 1)) a 4 from hA) rfl rfl ?_
  exact wp_vret eX3_take_28 ⟨rfl, rfl⟩

set_option maxRecDepth 4000 in
theorem rX3_release (d : Nat) {h : Hp} (a : Nat) (hA : Ob h a 4) (s : Nat) (hS : Ob h s 3) : Res (d + 1) nX3_release [.ref s, .ref a] h none (am_setR (am_setI (am_setI h s 5 (am_i h s 5 + am_i h a 0)) s 6 (am_i h s 6 - 1)) a 8 none) := by
  refine Res_intro (ls := [some (.ref s), some (.ref a)]) aX3_release rfl rfl rfl rfl ?_
  show WP kX3_release _ _ _ _ _ _
  refine wp_aload_n eX3_release_0 rfl ?_
  refine wp_dup eX3_release_1 rfl ?_
  refine wp_getI (v := am_i h s 5) eX3_release_2 (show Ob h s 3 from hS) rfl rfl ?_
  refine wp_aload_n eX3_release_5 rfl ?_
  refine wp_getI (v := am_i h a 0) eX3_release_6 (show Ob h a 4 from hA) rfl rfl ?_
  refine wp_iadd eX3_release_9 ?_
  refine wp_putI (h' := am_setI h s 5 ((am_i h s 5) + (am_i h a 0))) eX3_release_10 (show Ob h s 3 from hS) rfl rfl ?_
  refine wp_aload_n eX3_release_13 rfl ?_
  refine wp_dup eX3_release_14 rfl ?_
  refine wp_getI (v := am_i h s 6) eX3_release_15 (show Ob (am_setI h s 5 ((am_i h s 5) + (am_i h a 0))) s 3 from hS) rfl (by simp [am_setI, am_i]) ?_
  refine wp_iconst (v := 1) eX3_release_18 rfl ?_
  refine wp_isub eX3_release_19 ?_
  refine wp_putI (h' := am_setI (am_setI h s 5 ((am_i h s 5) + (am_i h a 0))) s 6 ((am_i h s 6) - 1)) eX3_release_20 (show Ob (am_setI h s 5 ((am_i h s 5) + (am_i h a 0))) s 3 from hS) rfl rfl ?_
  refine wp_aload_n eX3_release_23 rfl ?_
  refine wp_null eX3_release_24 ?_
  refine wp_putO (h' := am_setR (am_setI (am_setI h s 5 ((am_i h s 5) + (am_i h a 0))) s 6 ((am_i h s 6) - 1)) a 8 none) eX3_release_25 (show Ob (am_setI (am_setI h s 5 ((am_i h s 5) + (am_i h a 0))) s 6 ((am_i h s 6) - 1)) a 4 from hA) rfl rfl ?_
  exact wp_vret eX3_release_28 ⟨rfl, rfl⟩

set_option maxRecDepth 4000 in
theorem rX2_dayPrice (d : Nat) {h : Hp} (a : Nat) (hA : Ob h a 4) (b : Nat) (hB : Ob h b 2) : Res (d + 1) nX2_dayPrice [.ref b, .ref a] h (some (.int (if am_i h a 2 = 0 then am_i h b 2 + am_i h b 3 * am_i h a 0 else am_i h b 2 + am_i h b 3 * am_i h a 0 + am_i h b 4))) h := by
  refine Res_intro (ls := [some (.ref b), some (.ref a), none]) aX2_dayPrice rfl rfl rfl rfl ?_
  show WP kX2_dayPrice _ _ _ _ _ _
  refine wp_aload_n eX2_dayPrice_0 rfl ?_
  refine wp_getI (v := am_i h b 2) eX2_dayPrice_1 (show Ob h b 2 from hB) rfl rfl ?_
  refine wp_aload_n eX2_dayPrice_4 rfl ?_
  refine wp_getI (v := am_i h b 3) eX2_dayPrice_5 (show Ob h b 2 from hB) rfl rfl ?_
  refine wp_aload_n eX2_dayPrice_8 rfl ?_
  refine wp_getI (v := am_i h a 0) eX2_dayPrice_9 (show Ob h a 4 from hA) rfl rfl ?_
  refine wp_imul eX2_dayPrice_12 ?_
  refine wp_iadd eX2_dayPrice_13 ?_
  refine wp_istore_n (ls' := [some (.ref b), some (.ref a), some (.int ((am_i h b 2) + ((am_i h b 3) * (am_i h a 0))))]) eX2_dayPrice_14 rfl rfl ?_
  refine wp_aload_n eX2_dayPrice_15 rfl ?_
  refine wp_getI (v := am_i h a 2) eX2_dayPrice_16 (show Ob h a 4 from hA) rfl rfl ?_
  refine wp_if eX2_dayPrice_19 (fun (c_19 : (am_i h a 2) = 0) => ?_) (fun (c_19 : ¬ ((am_i h a 2) = 0)) => ?_)
  · refine wp_iload_n eX2_dayPrice_31 rfl ?_
    exact wp_iret eX2_dayPrice_32 ⟨congrArg (fun z => some (Value.int z)) (by split <;> first | rfl | (exfalso; simp_all; done)), rfl⟩
  · refine wp_iload_n eX2_dayPrice_22 rfl ?_
    refine wp_aload_n eX2_dayPrice_23 rfl ?_
    refine wp_getI (v := am_i h b 4) eX2_dayPrice_24 (show Ob h b 2 from hB) rfl rfl ?_
    refine wp_iadd eX2_dayPrice_27 ?_
    refine wp_goto eX2_dayPrice_28 ?_
    exact wp_iret eX2_dayPrice_32 ⟨congrArg (fun z => some (Value.int z)) (by split <;> first | rfl | (exfalso; simp_all; done)), rfl⟩

set_option maxRecDepth 4000 in
theorem rX2_init (d : Nat) {h : Hp} (a : Nat) (hA : Ob h a 2) (v0 v1 v2 v3 v4 : Int32) : Res (d + 1) nX2_init [.ref a, .int v0, .int v1, .int v2, .int v3, .int v4] h none (am_setI (am_setI (am_setI (am_setI (am_setI h a 0 v0) a 1 v1) a 2 v2) a 3 v3) a 4 v4) := by
  refine Res_intro (ls := [some (.ref a), some (.int v0), some (.int v1), some (.int v2), some (.int v3), some (.int v4)]) aX2_init rfl rfl rfl rfl ?_
  show WP kX2_init _ _ _ _ _ _
  refine wp_aload_n eX2_init_0 rfl ?_
  refine wp_obj eX2_init_1 rfl ?_
  refine wp_aload_n eX2_init_4 rfl ?_
  refine wp_iload_n eX2_init_5 rfl ?_
  refine wp_putI (h' := am_setI h a 0 v0) eX2_init_6 (show Ob h a 2 from hA) rfl rfl ?_
  refine wp_aload_n eX2_init_9 rfl ?_
  refine wp_iload_n eX2_init_10 rfl ?_
  refine wp_putI (h' := am_setI (am_setI h a 0 v0) a 1 v1) eX2_init_11 (show Ob (am_setI h a 0 v0) a 2 from hA) rfl rfl ?_
  refine wp_aload_n eX2_init_14 rfl ?_
  refine wp_iload_n eX2_init_15 rfl ?_
  refine wp_putI (h' := am_setI (am_setI (am_setI h a 0 v0) a 1 v1) a 2 v2) eX2_init_16 (show Ob (am_setI (am_setI h a 0 v0) a 1 v1) a 2 from hA) rfl rfl ?_
  refine wp_aload_n eX2_init_19 rfl ?_
  refine wp_iload eX2_init_20 rfl ?_
  refine wp_putI (h' := am_setI (am_setI (am_setI (am_setI h a 0 v0) a 1 v1) a 2 v2) a 3 v3) eX2_init_22 (show Ob (am_setI (am_setI (am_setI h a 0 v0) a 1 v1) a 2 v2) a 2 from hA) rfl rfl ?_
  refine wp_aload_n eX2_init_25 rfl ?_
  refine wp_iload eX2_init_26 rfl ?_
  refine wp_putI (h' := am_setI (am_setI (am_setI (am_setI (am_setI h a 0 v0) a 1 v1) a 2 v2) a 3 v3) a 4 v4) eX2_init_28 (show Ob (am_setI (am_setI (am_setI (am_setI h a 0 v0) a 1 v1) a 2 v2) a 3 v3) a 2 from hA) rfl rfl ?_
  exact wp_vret eX2_init_31 ⟨rfl, rfl⟩

set_option maxRecDepth 4000 in
theorem rX3_init (d : Nat) {h : Hp} (a : Nat) (hA : Ob h a 3) (v0 v1 v2 v3 v4 : Int32) (hz : v3 = 0 ∨ v3 = 1) : Res (d + 1) nX3_init [.ref a, .int v0, .int v1, .int v2, .int v3, .int v4] h none (am_setI (am_setI (am_setI (am_setI (am_setI (am_setI h a 0 v0) a 1 v1) a 2 v2) a 3 v3) a 4 v4) a 5 v1) := by
  refine Res_intro (ls := [some (.ref a), some (.int v0), some (.int v1), some (.int v2), some (.int v3), some (.int v4)]) aX3_init rfl rfl rfl rfl ?_
  show WP kX3_init _ _ _ _ _ _
  refine wp_aload_n eX3_init_0 rfl ?_
  refine wp_obj eX3_init_1 rfl ?_
  refine wp_aload_n eX3_init_4 rfl ?_
  refine wp_iload_n eX3_init_5 rfl ?_
  refine wp_putI (h' := am_setI h a 0 v0) eX3_init_6 (show Ob h a 3 from hA) rfl rfl ?_
  refine wp_aload_n eX3_init_9 rfl ?_
  refine wp_iload_n eX3_init_10 rfl ?_
  refine wp_putI (h' := am_setI (am_setI h a 0 v0) a 1 v1) eX3_init_11 (show Ob (am_setI h a 0 v0) a 3 from hA) rfl rfl ?_
  refine wp_aload_n eX3_init_14 rfl ?_
  refine wp_iload_n eX3_init_15 rfl ?_
  refine wp_putI (h' := am_setI (am_setI (am_setI h a 0 v0) a 1 v1) a 2 v2) eX3_init_16 (show Ob (am_setI (am_setI h a 0 v0) a 1 v1) a 3 from hA) rfl rfl ?_
  refine wp_aload_n eX3_init_19 rfl ?_
  refine wp_iload eX3_init_20 rfl ?_
  refine wp_putZ (h' := am_setI (am_setI (am_setI (am_setI h a 0 v0) a 1 v1) a 2 v2) a 3 v3) eX3_init_22 (show Ob (am_setI (am_setI (am_setI h a 0 v0) a 1 v1) a 2 v2) a 3 from hA) rfl hz rfl ?_
  refine wp_aload_n eX3_init_25 rfl ?_
  refine wp_iload eX3_init_26 rfl ?_
  refine wp_putI (h' := am_setI (am_setI (am_setI (am_setI (am_setI h a 0 v0) a 1 v1) a 2 v2) a 3 v3) a 4 v4) eX3_init_28 (show Ob (am_setI (am_setI (am_setI (am_setI h a 0 v0) a 1 v1) a 2 v2) a 3 v3) a 3 from hA) rfl rfl ?_
  refine wp_aload_n eX3_init_31 rfl ?_
  refine wp_iload_n eX3_init_32 rfl ?_
  refine wp_putI (h' := am_setI (am_setI (am_setI (am_setI (am_setI (am_setI h a 0 v0) a 1 v1) a 2 v2) a 3 v3) a 4 v4) a 5 v1) eX3_init_33 (show Ob (am_setI (am_setI (am_setI (am_setI (am_setI h a 0 v0) a 1 v1) a 2 v2) a 3 v3) a 4 v4) a 3 from hA) rfl rfl ?_
  exact wp_vret eX3_init_36 ⟨rfl, rfl⟩

set_option maxRecDepth 4000 in
theorem rX4_init (d : Nat) {h : Hp} (a : Nat) (hA : Ob h a 4) (v0 v1 v2 v3 v4 v5 v6 : Int32) (hz : v2 = 0 ∨ v2 = 1) (hz3 : v3 = 0 ∨ v3 = 1) : Res (d + 1) nX4_init [.ref a, .int v0, .int v1, .int v2, .int v3, .int v4, .int v5, .int v6] h none (am_setI (am_setI (am_setI (am_setI (am_setI (am_setI (am_setI (am_setI (am_setI h a 0 v0) a 1 v1) a 2 v2) a 3 v3) a 4 v4) a 5 v5) a 6 v6) a 7 0) a 10 ((-1))) := by
  refine Res_intro (ls := [some (.ref a), some (.int v0), some (.int v1), some (.int v2), some (.int v3), some (.int v4), some (.int v5), some (.int v6)]) aX4_init rfl rfl rfl rfl ?_
  show WP kX4_init _ _ _ _ _ _
  refine wp_aload_n eX4_init_0 rfl ?_
  refine wp_obj eX4_init_1 rfl ?_
  refine wp_aload_n eX4_init_4 rfl ?_
  refine wp_iload_n eX4_init_5 rfl ?_
  refine wp_putI (h' := am_setI h a 0 v0) eX4_init_6 (show Ob h a 4 from hA) rfl rfl ?_
  refine wp_aload_n eX4_init_9 rfl ?_
  refine wp_iload_n eX4_init_10 rfl ?_
  refine wp_putI (h' := am_setI (am_setI h a 0 v0) a 1 v1) eX4_init_11 (show Ob (am_setI h a 0 v0) a 4 from hA) rfl rfl ?_
  refine wp_aload_n eX4_init_14 rfl ?_
  refine wp_iload_n eX4_init_15 rfl ?_
  refine wp_putZ (h' := am_setI (am_setI (am_setI h a 0 v0) a 1 v1) a 2 v2) eX4_init_16 (show Ob (am_setI (am_setI h a 0 v0) a 1 v1) a 4 from hA) rfl hz rfl ?_
  refine wp_aload_n eX4_init_19 rfl ?_
  refine wp_iload eX4_init_20 rfl ?_
  refine wp_putZ (h' := am_setI (am_setI (am_setI (am_setI h a 0 v0) a 1 v1) a 2 v2) a 3 v3) eX4_init_22 (show Ob (am_setI (am_setI (am_setI h a 0 v0) a 1 v1) a 2 v2) a 4 from hA) rfl hz3 rfl ?_
  refine wp_aload_n eX4_init_25 rfl ?_
  refine wp_iload eX4_init_26 rfl ?_
  refine wp_putI (h' := am_setI (am_setI (am_setI (am_setI (am_setI h a 0 v0) a 1 v1) a 2 v2) a 3 v3) a 4 v4) eX4_init_28 (show Ob (am_setI (am_setI (am_setI (am_setI h a 0 v0) a 1 v1) a 2 v2) a 3 v3) a 4 from hA) rfl rfl ?_
  refine wp_aload_n eX4_init_31 rfl ?_
  refine wp_iload eX4_init_32 rfl ?_
  refine wp_putI (h' := am_setI (am_setI (am_setI (am_setI (am_setI (am_setI h a 0 v0) a 1 v1) a 2 v2) a 3 v3) a 4 v4) a 5 v5) eX4_init_34 (show Ob (am_setI (am_setI (am_setI (am_setI (am_setI h a 0 v0) a 1 v1) a 2 v2) a 3 v3) a 4 v4) a 4 from hA) rfl rfl ?_
  refine wp_aload_n eX4_init_37 rfl ?_
  refine wp_iload eX4_init_38 rfl ?_
  refine wp_putI (h' := am_setI (am_setI (am_setI (am_setI (am_setI (am_setI (am_setI h a 0 v0) a 1 v1) a 2 v2) a 3 v3) a 4 v4) a 5 v5) a 6 v6) eX4_init_40 (show Ob (am_setI (am_setI (am_setI (am_setI (am_setI (am_setI h a 0 v0) a 1 v1) a 2 v2) a 3 v3) a 4 v4) a 5 v5) a 4 from hA) rfl rfl ?_
  refine wp_aload_n eX4_init_43 rfl ?_
  refine wp_iconst (v := 0) eX4_init_44 rfl ?_
  refine wp_putI (h' := am_setI (am_setI (am_setI (am_setI (am_setI (am_setI (am_setI (am_setI h a 0 v0) a 1 v1) a 2 v2) a 3 v3) a 4 v4) a 5 v5) a 6 v6) a 7 0) eX4_init_45 (show Ob (am_setI (am_setI (am_setI (am_setI (am_setI (am_setI (am_setI h a 0 v0) a 1 v1) a 2 v2) a 3 v3) a 4 v4) a 5 v5) a 6 v6) a 4 from hA) rfl rfl ?_
  refine wp_aload_n eX4_init_48 rfl ?_
  refine wp_iconst (v := (-1)) eX4_init_49 rfl ?_
  refine wp_putI (h' := am_setI (am_setI (am_setI (am_setI (am_setI (am_setI (am_setI (am_setI (am_setI h a 0 v0) a 1 v1) a 2 v2) a 3 v3) a 4 v4) a 5 v5) a 6 v6) a 7 0) a 10 ((-1))) eX4_init_50 (show Ob (am_setI (am_setI (am_setI (am_setI (am_setI (am_setI (am_setI (am_setI h a 0 v0) a 1 v1) a 2 v2) a 3 v3) a 4 v4) a 5 v5) a 6 v6) a 7 0) a 4 from hA) rfl rfl ?_
  exact wp_vret eX4_init_53 ⟨rfl, rfl⟩
