/-! CONTRACTS OUT OF RUNS; THE LAW OUT OF ITS RUN -/
theorem am_own_ok : ∀ M ∈ am_msW, M.1.cls = M.2.2.2.2.1 ∧ plainName M.1.cls = true := by
  have key : am_msW.all (fun M => decide (M.1.cls = M.2.2.2.2.1) && plainName M.1.cls) = true := by decide +kernel
  intro M hM
  have h1 := List.all_eq_true.mp key M hM
  simp only [Bool.and_eq_true, decide_eq_true_eq] at h1
  exact h1
set_option maxHeartbeats 4000000 in
theorem am_met (l : Launch) : ∀ (d y : Nat) (as : List Value) (h : Hp) (rv : Option Value) (h' : Hp), Res d y as h rv h' → am_Met l d y as h rv h' ∧ am_n h ≤ am_n h' ∧ am_z h ≤ am_z h' := by
  intro d
  induction d with
  | zero => intro y as h rv h' hr; exact hr.elim
  | succ d ih =>
    intro y as h rv h' hr
    have hg := Res_grow _ _ _ _ _ _ hr
    refine ⟨?_, hg⟩
    intro D cy b base
    obtain ⟨hy, n, hl, hcat, hw⟩ := hr
    have hmem := am_mem hy
    refine Met.ofW (cc := (am_m y).2.1) (maxL := (am_m y).2.2.1) (ret := (am_m y).2.2.2.1) (am_own_ok _ hmem).2 rfl ?_
    intro p e s m args below meth c s₁ B hml hv
    obtain ⟨rfl, hR, hK⟩ := hv
    have hts0 := atoms_spec (ws := am_w y) B.pre
    have hts : ∀ w ∈ am_tbl, w.before ((as.map (am_cv b base)).toArray) s = true := fun w hw => hts0 w (List.mem_cons_of_mem _ hw)
    have hown : s.vm.findClass (am_m y).2.2.2.2.1 = some m.cls := by rw [← (am_own_ok _ hmem).1]; exact findClass_of_methodNamed B.named
    have hname : meth.name = (am_m y).1.name := (name_of_methodNamed B.named B.method).1
    have hr := B.returns
    have hlocks := B.notSynchronized
    have hb1 : base ≤ s.heap.size := by have := hR.2.1; have := hR.1; omega
    have X : am_Cx p l (headSpec (am_w y) { frames := d + 1, cells := am_n h' - am_n h, slots := am_z h' - am_z h, locals := 30 * (d + 1) }).room s m ((as.map (am_cv b base)).toArray) meth c (am_m y) D cy b base d (Res d) :=
      ⟨B.exec, B.bytes, hml, hown, hts, fun z => hname.trans z, hK, hb1, Nat.le_refl _, Nat.le_refl _, ih⟩
    have hrun := am_run (e := e) (below := below) (Q := MQ below (am_Qc D cy b base rv h') ((as.map (am_cv b base)).toArray) s (am_n h' - am_n h) (am_z h' - am_z h) (fun q => base ≤ q)) (hs := h) X (N0 := am_n h') (Z0 := am_z h') (by show am_n h' ≤ am_n h + (am_n h' - am_n h); omega) (by show am_z h' ≤ am_z h + (am_z h' - am_z h); omega) (Qa := fun r1 h1 => r1 = rv ∧ h1 = h') (am_ok _ hmem)
      (by
        intro i pc ls rv1 h1 hd hfin hq
        obtain ⟨rfl, rfl⟩ := hq
        refine ⟨Nat.le_refl _, Nat.le_refl _, ?_⟩
        intro hn hz hll H locs LS hR1 hS hL
        have hqq : ∀ t : State, t.heap = H → s.WarmedH t.vm → am_Qc D cy b base rv1 h1 ((as.map (am_cv b base)).toArray) s (.returned (rv1.map (am_cv b base))) t := fun t ht hW => ⟨rfl, by rw [ht]; exact hR1.moved hW.alike, hS.F ht⟩
        rcases hfin with ⟨rfl, x, rfl, hx⟩ | ⟨rfl, x, nm, rfl, hx⟩ | ⟨rfl, rfl, hx⟩
        · rcases hx with hx | ⟨hx, hx2⟩
          · exact W.iret B.exec B.bytes (hr.trans hx) hqq hS.2.2 hd hlocks
          · exact W.zret B.exec B.bytes (hr.trans hx) (by rcases hx2 with rfl | rfl <;> rfl) hqq hS.2.2 hd hlocks
        · have hv : am_cv b base (va_rf x) = .null ∨ ∃ a, am_cv b base (va_rf x) = .ref a := by cases x; exact Or.inl rfl; exact Or.inr ⟨_, rfl⟩
          exact W.aret B.exec B.bytes (hr.trans hx) (Or.inl ⟨nm, rfl⟩) hv hqq hS.2.2 hd hlocks
        · exact W.vret B.exec B.bytes (hr.trans hx) hqq hS.2.2 hd hlocks) n _ _ _ _ hw
    have k1 := hrun.2.2 (Nat.le_refl _) (Nat.le_refl _) (by rw [List.length_append, List.length_map, List.length_replicate]; omega) s.heap [] _ hR va_S.rf (am_L.entry b base as _ hl hcat)
    rw [Nat.sub_self, Nat.sub_self] at k1
    have he := entry_eq m (as.map (am_cv b base)) (by intro v hv; obtain ⟨w, hw1, rfl⟩ := List.mem_map.mp hv; rw [am_cv_cat]; exact hcat w hw1) (am_m y).2.2.1
    rw [he, List.length_map]
    exact k1
/-- the tables of the start -/
theorem am_K_start {args : Array Value} {s : State} (hts : ∀ w ∈ lw_tbl, w.before args s = true) : ∃ (D : va_G) (cy : Nat → ClassId), am_K D cy s := by
  have hts1 : ∀ w ∈ am_tbl, w.before args s = true := fun w h => hts w (List.mem_filter.mp h).1
  have hk : ∀ ci, ci < 7 → ∃ (cC : ClassId) (iS : Nat → Nat), u_Kn s (am_C ci) (am_T ci) (am_N ci) cC iS := fun ci h => u_known hts1 (am_in ci h) (hts1 _ (am_inst ci h).1)
  have arr : ∀ (ty : FieldType), (Jvm.Cond.arrayClass ty).before args s = true → ∃ cA, ArrOfT s cA ty ∧ s.vm.findClass ("[" ++ ty.toString) = some cA := by
    intro ty h
    obtain ⟨cA, kA, comp, h1, h2, h3⟩ := Cond.arrayClass_spec h
    exact ⟨cA, fun n z => ⟨fun k h => (by cases h), kA, h2, comp, h3⟩, h1⟩
  have ov : ∀ (C : String), (Jvm.Cond.arrayOver (.object C)).before args s = true → ∃ cA, ArrOfT s cA (.object C) ∧ va_RA s cA (.object C) := by
    intro C h
    obtain ⟨comp, cA, kA, h1, -, h2, h3, h4⟩ := Cond.arrayOver_spec h
    exact ⟨cA, fun n z => ⟨fun k h => (by cases h), kA, h2, comp, h3⟩, kA, comp, h2, h3, h1, h4⟩
  have o3 : (Jvm.Cond.arrayOver (.object RX3)).before args s = true := hts _ (List.mem_of_getElem? (i := 55) (by decide +kernel))
  have o4 : (Jvm.Cond.arrayOver (.object RX4)).before args s = true := hts _ (List.mem_of_getElem? (i := 57) (by decide +kernel))
  have o1 : (Jvm.Cond.arrayOver (.object RX1)).before args s = true := hts _ (List.mem_of_getElem? (i := 59) (by decide +kernel))
  have o2 : (Jvm.Cond.arrayOver (.object RX2)).before args s = true := hts _ (List.mem_of_getElem? (i := 61) (by decide +kernel))
  have oz : am_Z.before args s = true := hts _ (List.mem_of_getElem? (i := 360) (by decide +kernel))
  obtain ⟨c7, a7, b7⟩ := arr .int (hts1 _ am_arrI)
  obtain ⟨c8, a8, b8⟩ := arr .boolean (hts1 _ am_arrZ)
  obtain ⟨c9, a9, b9⟩ := ov RX3 o3
  obtain ⟨c10, a10, b10⟩ := ov RX4 o4
  obtain ⟨c11, a11, b11⟩ := ov RX1 o1
  obtain ⟨c12, a12, b12⟩ := ov RX2 o2
  refine ⟨(fun k => if h : k < 7 then Classical.choose (hk k h) else 0, fun k => if h : k < 7 then Classical.choose (Classical.choose_spec (hk k h)) else fun _ => 0), fun k => match k with | 7 => c7 | 8 => c8 | 9 => c9 | 10 => c10 | 11 => c11 | _ => c12, ⟨fun ci q hq => ?_, fun k q hq => ?_⟩, va_Nw.of rfl oz, va_AO.of o3, va_AO.of o4, va_AO.of o1, va_AO.of o2⟩
  · have hci : ci < 7 := (List.getElem?_eq_some_iff.mp hq).1
    have e := Option.some.inj (hq.symm.trans (am_cl ci hci))
    subst e
    show u_Kn s (am_C ci) (am_T ci) (am_N ci) (if h : ci < 7 then Classical.choose (hk ci h) else 0) (if h : ci < 7 then Classical.choose (Classical.choose_spec (hk ci h)) else fun _ => 0)
    rw [dif_pos hci, dif_pos hci]
    exact Classical.choose_spec (Classical.choose_spec (hk ci hci))
  · match k, hq with
    | 0, hq => cases hq; exact ⟨a7, b7⟩
    | 1, hq => cases hq; exact ⟨a8, b8⟩
    | 2, hq => cases hq; exact ⟨a9, b9⟩
    | 3, hq => cases hq; exact ⟨a10, b10⟩
    | 4, hq => cases hq; exact ⟨a11, b11⟩
    | 5, hq => cases hq; exact ⟨a12, b12⟩
    | k + 6, hq => simp [am_tys] at hq
/-- the abstract heap at the law's start: the script alone -/
def am_h0 (L : Nat) (xs : Nat → Int32) : Hp := (1, 0, fun _ => 7, fun _ => L, fun _ => xs, fun _ _ => none)
def lw_run (L : Nat) (xs : Nat → Int32) : Prop := ∃ n, am_wp kL_law (Res 7) (fun r h => r = some (.int 1) ∧ am_n h ≤ 600001 ∧ am_z h ≤ 7302250) n 0 [some (.ref 0), none, none, none] [] (am_h0 L xs)
/-! THE CLAIM OUT OF ONE WALK OF THE LAW'S BODY. Your part is whole_start (and what it stands on); all else here is the same for every law, but numbers. -/
def R_law : String := "LuggageCounterLaw"
def lw_P (b : Addr) (xs : List Int32) (args : Array Value) (s : State) : Prop := args = #[.ref b] ∧ s.IntsAt b xs ∧ xs.length ≤ 3584 ∧ (Jvm.Cond.and given_1 narrow_1).before args s = true
def lw_Q (_ : Array Value) (s : State) (o : Outcome) (t : State) : Prop := o = .returned (some (.int 1)) ∧ Framed s o t [] 600000 7302250
def lw_Z (below : List Frame) (a : Array Value) (s : State) : State → Prop := fun t => ∃ o, t.status = .running ∧ Ended t below o ∧ lw_Q a s o t
/-- the law's own end, with 1 on the stack, nothing written that was there before, its room as the claim has it -/
theorem lw_ret {p : Program} {l : Launch} {e : Env} {s : State} {m : MethodId} {below : List Frame} {meth : Method} {c : Code} {b : Nat} (hx : p.tables.exec = Jvm.exec) (hb : c.code = code) (hr : meth.sig.returnType = ret) (hlocks : meth.locks = false) {pc : Nat} {H : Heap} {ls : Array Slot} (hdg : decode code pc = .ok (.ireturn, 1)) : W p l e room_1 s m #[Value.ref b] below meth c H [] 600000 7302250 (lw_Z below #[Value.ref b] s) (F0 m pc ls [.int 1]) := by
  intro T hT X
  obtain ⟨fs, hret, hrun, hended, hW, hframe⟩ := X.leave (v := some (.int 1)) (hlocks := hlocks) (fun h => by rw [hr] at h; cases h)
  have hmeth' : T.vm.method? m = some meth := X.method'
  refine ⟨T.setFrames fs, ?_, .returned (some (.int 1)), hrun, hended, rfl, ⟨_, rfl⟩, hW, hframe⟩
  jvm_step X.here [X.here.top, hx, hb, hdg, hmeth', hr, ret, narrow_b1]
  (try refine ⟨rfl, ?_⟩); (try refine ⟨rfl, ?_⟩)
  first | (intro acts; rw [hret _ acts rfl rfl rfl]) | rw [hret _ _ rfl rfl rfl]
  exact Steps.refl _
/-- what holds at the law's entry: the machine, the code, the tables' words (any of lw_tbl by 'hts w (by decide +kernel)'), the script of L ints xs at the cell b, what the Statement gives of the start (any of its parts by flat_of_before) -/
def lw_At (p : Program) (s : State) (m : MethodId) (meth : Method) (c : Code) (b L : Nat) (xs : Nat → Int32) : Prop :=
  p.tables.exec = Jvm.exec ∧ c.code = code ∧ meth.sig.returnType = ret ∧ c.maxLocals = 4 ∧ s.vm.findClass R_law = some m.cls ∧ (∀ w ∈ lw_tbl, w.before #[Value.ref b] s = true) ∧ va_X b L xs s s.heap ∧ b < s.heap.size ∧ meth.locks = false ∧ (Jvm.Cond.and given_1 narrow_1).before #[Value.ref b] s = true
set_option maxHeartbeats 4000000 in
/-- THE LAW'S WALK out of its run on the abstract machine -/
theorem whole_of {p : Program} {e : Env} {s : State} {m : MethodId} {below : List Frame} {meth : Method} {c : Code} (l : Launch) {b L : Nat} {xs : Nat → Int32} (hw : lw_run L xs) (C0 : lw_At p s m meth c b L xs) : W p l e room_1 s m #[Value.ref b] below meth c s.heap [] 0 0 (lw_Z below #[Value.ref b] s) (entryFrame m ([Value.ref b] : List Value).toArray 4) := by
  obtain ⟨hx, hb, hr, hml, hown, hts, hX, hbl, hlocks, hgv⟩ := id C0
  obtain ⟨D, cy, hK⟩ := am_K_start hts
  obtain ⟨n, hw⟩ := hw
  have hR : am_R D cy b s.heap.size s (am_h0 L xs) s.heap := ⟨Nat.one_pos, rfl, hbl, rfl, hX, fun a h1 h2 => by have h3 : a < 1 := h2; omega⟩
  have X : am_Cx p l room_1 s m #[Value.ref b] meth c mL_law D cy b s.heap.size 7 (Res 7) :=
    ⟨hx, hb, hml, hown, fun w h => hts w (List.mem_filter.mp h).1, fun z => absurd z (by decide), hK, Nat.le_refl _, by decide, by decide, am_met l 7⟩
  have hrun := am_run (e := e) (below := below) (Q := lw_Z below #[Value.ref b] s) (hs := am_h0 L xs) X (N0 := 600001) (Z0 := 7302250) (by show 600001 ≤ 1 + 600000; decide) (by show 7302250 ≤ 0 + 7302250; decide) (Qa := fun r h => r = some (.int 1) ∧ am_n h ≤ 600001 ∧ am_z h ≤ 7302250) qL_law
    (by
      intro i pc ls rv1 h1 hd hfin hq
      obtain ⟨rfl, q1, q2⟩ := hq
      refine ⟨q1, q2, ?_⟩
      intro hn hz hll H locs LS hR1 hS hL
      have hi : i = .ireturn := by
        rcases hfin with ⟨h, -⟩ | ⟨-, x, nm, h, -⟩ | ⟨-, h, -⟩
        · exact h
        · cases x <;> cases h
        · cases h
      subst hi
      refine va_forget hS.2.2 (W.widen (k := 600000) (n := 7302250) ?_ ?_ (lw_ret hx hb hr hlocks hd))
      · show am_n h1 - 1 ≤ 600000
        omega
      · show am_z h1 - 0 ≤ 7302250
        omega) n _ _ _ _ hw
  have k1 := hrun.2.2 (Nat.le_refl _) (Nat.le_refl _) rfl s.heap [] _ hR va_S.rf (am_L.entry b s.heap.size [.ref 0] 4 (by decide) (by intro v hv; rw [List.mem_singleton.mp hv]; rfl))
  rw [Nat.sub_self, Nat.sub_self] at k1
  have he := entry_eq m [Value.ref b] (by intro v hv; rw [List.mem_singleton.mp hv]; rfl) 4
  rw [he]
  exact k1
