/-! CALLS, AND THE WHOLE: a run of the abstract machine is a run of the machine -/
section AC
variable {p : Program} {l : Launch} {e : Env} {R : Room} {s : State} {m : MethodId} {args : Array Value} {below : List Frame} {meth : Method} {c : Code} {Q : State → Prop} {M : am_M} {D : va_G} {cy : Nat → ClassId} {b base d : Nat} {Cal : am_Ct} {hs : Hp}
variable {pc : Nat} {ls : am_Ls} {st : List Value} {h : Hp}
theorem am_after {H : Heap} {locs : List Loc} {LS : Array Slot} {cells slots mc ms : Nat} {st0 rest : List Value} {rv : Option Value} {h' : Hp} {a : Array Value} (hr : va_Run p l e R s m args below meth c H locs cells slots mc ms (F0 m pc LS st0) rest (am_Qc D cy b base rv h' a) (fun q => base ≤ q)) (hS : va_S (fun q => base ≤ q) s.heap H locs)
    (kk : ∀ (H1 : Heap) (locs1 : List Loc), am_R D cy b base s h' H1 → va_S (fun q => base ≤ q) s.heap H1 locs1 → W p l e R s m args below meth c H1 locs1 (cells + mc) (slots + ms) Q (F0 m (pc + 3) LS ((rv.map (am_cv b base)).toList ++ rest))) : W p l e R s m args below meth c H locs cells slots Q (F0 m pc LS st0) := by
  intro T hT X
  obtain ⟨v, st₀, t, T', L, h0, X', hL, e1, e2, ⟨hv, hRt, hz, hk⟩, stp⟩ := hr T hT X
  cases hv
  rw [h0] at hz hk
  obtain ⟨t2, a1, b1⟩ := kk T'.heap (locs ++ L) (by rw [e1]; exact hRt.moved (by rw [← e2]; exact X'.warmed.alike.symm))
    ⟨Nat.le_trans hS.1 (by rw [e1]; exact hz), fun q h1 h2 => by rw [e1, hk q (Nat.lt_of_lt_of_le h1 hS.1) h2]; exact hS.2.1 q h1 h2, fun q hq => by
      rcases List.mem_append.mp hq with h | h
      · exact hS.2.2 q h
      · exact hL q h⟩ T' rfl X'
  exact ⟨t2, stp t2 a1, b1⟩
theorem am_goodw (y : Nat) (hc : Jvm.Cond.code (am_m y).1 (am_m y).2.1 (am_m y).2.2.1 (am_m y).2.2.2.1 ∈ am_tbl) : GoodIn am_tbl (am_w y) := by
  intro w hw
  rcases List.mem_cons.mp hw with rfl | hw
  · exact ⟨hc, am_tbl_good hc⟩
  · exact ⟨hw, am_tbl_good hw⟩
def am_mok (y : Nat) : Prop := Jvm.Cond.code (am_m y).1 (am_m y).2.1 (am_m y).2.2.1 (am_m y).2.2.2.1 ∈ am_tbl ∧ (if (am_pos.getD y (0, 0, 0, 0, 0, 0)).2.2.1 = 1 then Jvm.Cond.static (am_m y).1 ∈ am_tbl else Jvm.Cond.instanceMethod (am_m y).1 ∈ am_tbl) ∧ Jvm.Cond.initialized (am_m y).1.cls ∈ am_tbl ∧
  ((am_m y).1.cls ≠ "java/lang/invoke/MethodHandle" ∧ (am_m y).1.cls ≠ "java/lang/invoke/VarHandle" ∧ (parseMethodDescriptor (am_m y).1.desc).map (fun d => d.parameters.length) = some (am_pos.getD y (0, 0, 0, 0, 0, 0)).2.2.2.2.2) ∧ plainName (am_m y).1.cls = true ∧ (am_m y).2.2.1 ≤ 10
theorem am_mok_of {y : Nat} (h : am_mchk y = true) : am_mok y := by
  unfold am_mchk at h
  simp only [Bool.and_eq_true, decide_eq_true_eq] at h
  obtain ⟨⟨⟨⟨⟨⟨⟨h1, h2⟩, h3⟩, h4⟩, h5⟩, h6⟩, h7⟩, h8⟩ := h
  refine ⟨am_at_mem h1, ?_, am_at_mem h3, ⟨h4, h5, h6⟩, h7, h8⟩
  split
  · rename_i hq; rw [if_pos hq] at h2; exact am_at_mem h2
  · rename_i hq; rw [if_neg hq] at h2; exact am_at_mem h2
theorem am_sum (r : List Value) : ((r.map (am_cv b base)).map fun v => v.category) = r.map fun v => v.category := by
  rw [List.map_map]
  apply List.map_congr_left
  intro v _
  exact am_cv_cat b base v
theorem as_virt (X : am_Cx p l R s m args meth c M D cy b base d Cal) {idx y n : Nat} (hw : Jvm.Cond.methodLink M.2.2.2.2.1 idx (am_m y).1 ∈ am_tbl) (hm : am_mok y) (hst : ¬ (am_pos.getD y (0, 0, 0, 0, 0, 0)).2.2.1 = 1) (hnp : (am_pos.getD y (0, 0, 0, 0, 0, 0)).2.2.2.2.2 = n) (hsel : Jvm.Cond.selects (am_m y).1.cls (am_m y).1 (am_m y).1 ∈ am_tbl) (hcl : (am_m y).1.cls = am_C (am_own y)) (ho7 : am_own y < 7)
    (hd : decode M.2.1 pc = .ok (.invokevirtual idx, 3)) {as : List Value} {a : Nat} {rv : Option Value} {h' : Hp} (hlen : as.length = n) (h8 : (st.map fun v => v.category).sum ≤ 8) (ha : 0 < a) (han : a < am_n h) (hka : am_k h a = am_own y) (hcal : Cal y (.ref a :: as) h rv h')
    (hrc : am_n h' ≤ am_n hs + R.cells) (hrs : am_z h' ≤ am_z hs + R.slots) (kk : am_G p l e R s m args below meth c Q M D cy b base hs (pc + 3) ls (rv.toList ++ st) h') : am_G p l e R s m args below meth c Q M D cy b base hs pc ls (as.reverse ++ .ref a :: st) h := by
  intro hn hz hll H locs LS hR hS hL
  obtain ⟨hx, hb, hml, hown, hts, hin2, hK, hbs, hfr, hlo, hC⟩ := X
  obtain ⟨hM, hn1, hz1⟩ := hC y _ h rv h' hcal
  obtain ⟨m1, m2, m3, m4, m5, m6⟩ := hm
  rw [if_neg hst] at m2
  subst hnp
  have hat := hR.2.2.2.2.2 a ha han
  rw [am_cell_obj hka ho7] at hat
  have hrecv := va_recv hK.1 (am_one hat) (am_cl (am_own y) ho7) (q0 := 0) rfl
  have hcb := callB_of (R := R) (s := s) (args := args) (own := M.2.2.2.2.1) (index := idx) (y := (am_m y).1) (rm := { frames := d, cells := am_n h' - am_n h, slots := am_z h' - am_z h, locals := 30 * d }) (am_pos.getD y (0, 0, 0, 0, 0, 0)).2.2.2.2.2 hts (am_goodw y m1) rfl (mc := am_n h' - am_n h) (ms := am_z h' - am_z h) rfl rfl (hts _ m3) (hts _ hw) m4 ⟨hfr, by show 8 + ((am_m y).2.2.1 + 11) + 30 * d ≤ _; omega⟩
  have hrun := va_runV (p := p) (l := l) (e := e) (m := m) (below := below) (meth := meth) (c := c) (H := H) (locs := locs) (cells := am_n h - am_n hs) (slots := am_z h - am_z hs) (As := as.map (am_cv b base)) (rest := st.map (am_cv b base)) (g := F0 m pc LS ((as.reverse ++ .ref a :: st).map (am_cv b base))) (b := am_ad b base a) (C := (am_m y).1.cls)
    ⟨hx, hb, hml, hown, hts⟩ (hM D cy b base) ⟨hcb, hts _ m2, hts _ hsel⟩ ⟨am_Pc.blind D cy b base _ h, by rw [hcl]; exact hrecv, fun U hU hW => ⟨rfl, by rw [hU]; exact hR.moved hW.alike, hK.warm hW⟩⟩ rfl (by rw [List.length_map]; exact hlen) (hL.1.trans hll) (by show (as.reverse ++ .ref a :: st).map (am_cv b base) = _; rw [List.map_append, List.map_reverse]; rfl) (lv_room (by rw [am_sum]; exact h8)) hd ⟨by omega, by omega⟩
  refine am_after hrun hS fun H1 locs1 g1 g2 => ?_
  have c1 : am_n h - am_n hs + (am_n h' - am_n h) = am_n h' - am_n hs := by omega
  have c2 : am_z h - am_z hs + (am_z h' - am_z h) = am_z h' - am_z hs := by omega
  rw [c1, c2]
  have k1 := kk (by omega) (by omega) hll H1 locs1 LS g1 g2 hL
  rw [List.map_append] at k1
  cases rv <;> exact k1
theorem as_stat (X : am_Cx p l R s m args meth c M D cy b base d Cal) {idx y n : Nat} (hw : Jvm.Cond.methodLink M.2.2.2.2.1 idx (am_m y).1 ∈ am_tbl ∨ Jvm.Cond.methodLinkNest M.2.2.2.2.1 idx (am_m y).1 RX5 = am_Z) (hm : am_mok y) (hst : (am_pos.getD y (0, 0, 0, 0, 0, 0)).2.2.1 = 1) (hnp : (am_pos.getD y (0, 0, 0, 0, 0, 0)).2.2.2.2.2 = n)
    (hd : decode M.2.1 pc = .ok (.invokestatic idx, 3)) {as : List Value} {rv : Option Value} {h' : Hp} (hlen : as.length = n) (h8 : (st.map fun v => v.category).sum ≤ 8) (hcal : Cal y as h rv h')
    (hrc : am_n h' ≤ am_n hs + R.cells) (hrs : am_z h' ≤ am_z hs + R.slots) (kk : am_G p l e R s m args below meth c Q M D cy b base hs (pc + 3) ls (rv.toList ++ st) h') : am_G p l e R s m args below meth c Q M D cy b base hs pc ls (as.reverse ++ st) h := by
  intro hn hz hll H locs LS hR hS hL
  obtain ⟨hx, hb, hml, hown, hts, hin2, hK, hbs, hfr, hlo, hC⟩ := X
  obtain ⟨hM, hn1, hz1⟩ := hC y _ h rv h' hcal
  obtain ⟨m1, m2, m3, m4, m5, m6⟩ := hm
  rw [if_pos hst] at m2
  subst hnp
  have hstk : (F0 m pc LS ((as.reverse ++ st).map (am_cv b base))).stack = (as.map (am_cv b base)).reverse ++ st.map (am_cv b base) := by
    show (as.reverse ++ st).map (am_cv b base) = _
    rw [List.map_append, List.map_reverse]
  have hroom : 30 * d + 29 ≤ R.locals := by omega
  have hpre : PreS s H (am_Pc D cy b base as h) (as.map (am_cv b base)) := ⟨am_Pc.blind D cy b base _ h, fun U hU hW => ⟨rfl, by rw [hU]; exact hR.moved hW.alike, hK.warm hW⟩⟩
  have hrun : va_Run p l e R s m args below meth c H locs (am_n h - am_n hs) (am_z h - am_z hs) (am_n h' - am_n h) (am_z h' - am_z h) (F0 m pc LS ((as.reverse ++ st).map (am_cv b base))) (st.map (am_cv b base)) (am_Qc D cy b base rv h' (as.map (am_cv b base)).toArray) (fun q => base ≤ q) := by
    rcases hw with hw | hw
    · have hcb := callB_of (R := R) (s := s) (args := args) (own := M.2.2.2.2.1) (index := idx) (y := (am_m y).1) (rm := { frames := d, cells := am_n h' - am_n h, slots := am_z h' - am_z h, locals := 30 * d }) (am_pos.getD y (0, 0, 0, 0, 0, 0)).2.2.2.2.2 hts (am_goodw y m1) rfl (mc := am_n h' - am_n h) (ms := am_z h' - am_z h) rfl rfl (hts _ m3) (hts _ hw) m4 ⟨hfr, by show 8 + ((am_m y).2.2.1 + 11) + 30 * d ≤ _; omega⟩
      exact va_runS ⟨hx, hb, hml, hown, hts⟩ (hM D cy b base) ⟨hcb, hts _ m2⟩ hpre rfl (by rw [List.length_map]; exact hlen) (hL.1.trans hll) hstk (lv_room (by rw [am_sum]; exact h8)) hd ⟨by omega, by omega⟩
    · have hcn := va_cnB (R := R) (s := s) (args := args) (own := M.2.2.2.2.1) (host := RX5) (index := idx) (y := (am_m y).1) (rm := { frames := d, cells := am_n h' - am_n h, slots := am_z h' - am_z h, locals := 30 * d }) (am_pos.getD y (0, 0, 0, 0, 0, 0)).2.2.2.2.2 hts (am_goodw y m1) rfl (mc := am_n h' - am_n h) (ms := am_z h' - am_z h) rfl rfl (by rw [hw]; exact hK.2.1) (hts _ m3) m4 ⟨hfr, by show 8 + ((am_m y).2.2.1 + 11) + 30 * d ≤ _; omega⟩
      exact va_runSN ⟨hx, hb, hml, hown, hts⟩ (hM D cy b base) ⟨hcn, hts _ m2, trivial⟩ hpre rfl (by rw [List.length_map]; exact hlen) (hL.1.trans hll) hstk (lv_room (by rw [am_sum]; exact h8)) hd ⟨by omega, by omega⟩
  refine am_after hrun hS fun H1 locs1 g1 g2 => ?_
  have c1 : am_n h - am_n hs + (am_n h' - am_n h) = am_n h' - am_n hs := by omega
  have c2 : am_z h - am_z hs + (am_z h' - am_z h) = am_z h' - am_z hs := by omega
  rw [c1, c2]
  have k1 := kk (by omega) (by omega) hll H1 locs1 LS g1 g2 hL
  rw [List.map_append] at k1
  cases rv <;> exact k1
theorem as_spec (X : am_Cx p l R s m args meth c M D cy b base d Cal) {idx y n : Nat} (hw : Jvm.Cond.methodLink M.2.2.2.2.1 idx (am_m y).1 ∈ am_tbl) (hm : am_mok y) (hst : ¬ (am_pos.getD y (0, 0, 0, 0, 0, 0)).2.2.1 = 1) (hnp : (am_pos.getD y (0, 0, 0, 0, 0, 0)).2.2.2.2.2 = n) (hin : (am_m y).1.name = "<init>") (hret : (am_m y).2.2.2.1 = none)
    (hd : decode M.2.1 pc = .ok (.invokespecial idx, 3)) {as : List Value} {a : Nat} {rv : Option Value} {h' : Hp} (hlen : as.length = n) (h8 : (st.map fun v => v.category).sum ≤ 8) (hcal : Cal y (.ref a :: as) h rv h')
    (hrc : am_n h' ≤ am_n hs + R.cells) (hrs : am_z h' ≤ am_z hs + R.slots) (kk : am_G p l e R s m args below meth c Q M D cy b base hs (pc + 3) ls (rv.toList ++ st) h') : am_G p l e R s m args below meth c Q M D cy b base hs pc ls (as.reverse ++ .ref a :: st) h := by
  intro hn hz hll H locs LS hR hS hL
  obtain ⟨hx, hb, hml, hown, hts, hin2, hK, hbs, hfr, hlo, hC⟩ := X
  obtain ⟨hM, hn1, hz1⟩ := hC y _ h rv h' hcal
  obtain ⟨m1, m2, m3, m4, m5, m6⟩ := hm
  rw [if_neg hst] at m2
  subst hnp
  have hwe : am_w y = Jvm.Cond.code (am_m y).1 (am_m y).2.1 (am_m y).2.2.1 none :: am_tbl := by unfold am_w; rw [hret]
  have hcb := callB_of (R := R) (s := s) (args := args) (own := M.2.2.2.2.1) (index := idx) (y := (am_m y).1) (ret := none) (rm := { frames := d, cells := am_n h' - am_n h, slots := am_z h' - am_z h, locals := 30 * d }) (am_pos.getD y (0, 0, 0, 0, 0, 0)).2.2.2.2.2 hts (am_goodw y m1) hwe (mc := am_n h' - am_n h) (ms := am_z h' - am_z h) rfl rfl (hts _ m3) (hts _ hw) m4 ⟨hfr, by show 8 + ((am_m y).2.2.1 + 11) + 30 * d ≤ _; omega⟩
  have hrun := va_runI (p := p) (l := l) (e := e) (m := m) (below := below) (meth := meth) (c := c) (H := H) (locs := locs) (cells := am_n h - am_n hs) (slots := am_z h - am_z hs) (As := as.map (am_cv b base)) (rest := st.map (am_cv b base)) (g := F0 m pc LS ((as.reverse ++ .ref a :: st).map (am_cv b base))) (b := am_ad b base a)
    ⟨hx, hb, hml, hown, hts⟩ (hM D cy b base) ⟨hcb, hin, hts _ m2⟩ ⟨am_Pc.blind D cy b base _ h, fun U hU hW => ⟨rfl, by rw [hU]; exact hR.moved hW.alike, hK.warm hW⟩⟩ rfl (by rw [List.length_map]; exact hlen) (hL.1.trans hll) (by show (as.reverse ++ .ref a :: st).map (am_cv b base) = _; rw [List.map_append, List.map_reverse]; rfl) (lv_room (by rw [am_sum]; exact h8)) hd ⟨by omega, by omega⟩
  refine am_after hrun hS fun H1 locs1 g1 g2 => ?_
  have c1 : am_n h - am_n hs + (am_n h' - am_n h) = am_n h' - am_n hs := by omega
  have c2 : am_z h - am_z hs + (am_z h' - am_z h) = am_z h' - am_z hs := by omega
  rw [c1, c2]
  have k1 := kk (by omega) (by omega) hll H1 locs1 LS g1 g2 hL
  rw [List.map_append] at k1
  cases rv <;> exact k1
theorem as_obj (X : am_Cx p l R s m args meth c M D cy b base d Cal) {idx : Nat} (hw : Jvm.Cond.methodLink M.2.2.2.2.1 idx objectInit ∈ am_tbl) (hd : decode M.2.1 pc = .ok (.invokespecial idx, 3)) {a : Nat} (h8 : (st.map fun v => v.category).sum ≤ 8) (kk : am_G p l e R s m args below meth c Q M D cy b base hs (pc + 3) ls st h) : am_G p l e R s m args below meth c Q M D cy b base hs pc ls (.ref a :: st) h := by
  intro hn hz hll H locs LS hR hS hL
  obtain ⟨hx, hb, hml, hown, hts, hin2, hK, hbs, hfr, hlo, hC⟩ := X
  refine W.objInit hx hb hown (hts _ hw) (hts _ am_obj1) (hts _ am_obj2) rfl (by rw [hml]; exact hL.1.trans hll) rfl hd (by omega) (by show 2 * 0 + ((st.map (am_cv b base)).map fun v => v.category).sum + 12 ≤ _; rw [am_sum]; omega) ?_
  exact kk hn hz hll H locs LS hR hS hL
theorem as_abs (X : am_Cx p l R s m args meth c M D cy b base d Cal) {idx : Nat} (hw : Jvm.Cond.methodLink M.2.2.2.2.1 idx Lib.Math.abs.name ∈ am_tbl) (hd : decode M.2.1 pc = .ok (.invokestatic idx, 3)) {x : Int32} (h8 : (st.map fun v => v.category).sum ≤ 8) (hrc : am_n h ≤ am_n hs + R.cells) (hrs : am_z h ≤ am_z hs + R.slots) (kk : am_G p l e R s m args below meth c Q M D cy b base hs (pc + 3) ls (.int (if 0 ≤ x then x else 0 - x) :: st) h) : am_G p l e R s m args below meth c Q M D cy b base hs pc ls (.int x :: st) h := by
  intro hn hz hll H locs LS hR hS hL
  obtain ⟨hx, hb, hml, hown, hts, hin2, hK, hbs, hfr, hlo, hC⟩ := X
  exact va_mabs hx hb (by rw [hml]; exact (hL.1.trans hll).symm) hown (hts _ hw) (hts _ am_abs1) (hts _ am_math) (hts _ am_abs2) (by omega) (by rw [am_sum]; omega) (by omega) (by omega) hd (kk hn hz hll H locs LS hR hS hL)
theorem as_max (X : am_Cx p l R s m args meth c M D cy b base d Cal) {idx : Nat} (hw : Jvm.Cond.methodLink M.2.2.2.2.1 idx Lib.Math.max.name ∈ am_tbl) (hd : decode M.2.1 pc = .ok (.invokestatic idx, 3)) {x y : Int32} (h8 : (st.map fun v => v.category).sum ≤ 8) (hrc : am_n h ≤ am_n hs + R.cells) (hrs : am_z h ≤ am_z hs + R.slots) (kk : am_G p l e R s m args below meth c Q M D cy b base hs (pc + 3) ls (.int (if x < y then y else x) :: st) h) : am_G p l e R s m args below meth c Q M D cy b base hs pc ls (.int y :: .int x :: st) h := by
  intro hn hz hll H locs LS hR hS hL
  obtain ⟨hx, hb, hml, hown, hts, hin2, hK, hbs, hfr, hlo, hC⟩ := X
  exact va_mmax hx hb (by rw [hml]; exact (hL.1.trans hll).symm) hown (hts _ hw) (hts _ am_max1) (hts _ am_math) (hts _ am_max2) (by omega) (by rw [am_sum]; omega) (by omega) (by omega) hd (kk hn hz hll H locs LS hR hS hL)
theorem as_min (X : am_Cx p l R s m args meth c M D cy b base d Cal) {idx : Nat} (hw : Jvm.Cond.methodLink M.2.2.2.2.1 idx Lib.Math.min.name ∈ am_tbl) (hd : decode M.2.1 pc = .ok (.invokestatic idx, 3)) {x y : Int32} (h8 : (st.map fun v => v.category).sum ≤ 8) (hrc : am_n h ≤ am_n hs + R.cells) (hrs : am_z h ≤ am_z hs + R.slots) (kk : am_G p l e R s m args below meth c Q M D cy b base hs (pc + 3) ls (.int (if y < x then y else x) :: st) h) : am_G p l e R s m args below meth c Q M D cy b base hs pc ls (.int y :: .int x :: st) h := by
  intro hn hz hll H locs LS hR hS hL
  obtain ⟨hx, hb, hml, hown, hts, hin2, hK, hbs, hfr, hlo, hC⟩ := X
  exact va_mmin hx hb (by rw [hml]; exact (hL.1.trans hll).symm) hown (hts _ hw) (hts _ am_min1) (hts _ am_math) (hts _ am_min2) (by omega) (by rw [am_sum]; omega) (by omega) (by omega) hd (kk hn hz hll H locs LS hR hS hL)
end AC
