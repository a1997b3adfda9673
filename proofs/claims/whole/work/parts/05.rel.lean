/-! HOW THE MACHINE'S HEAP HOLDS THE ABSTRACT ONE: cell a of the abstract heap lies at base + (a - 1), the script (cell 0) at b -/
def am_ad (b base a : Nat) : Nat := if a = 0 then b else base + (a - 1)
def am_cv (b base : Nat) (v : Value) : Value := match v with
  | .ref a => .ref (am_ad b base a)
  | v => v
def am_cr (b base : Nat) (r : Option Nat) : Option Nat := r.map (am_ad b base)
theorem am_cv_rf (b base : Nat) (r : Option Nat) : am_cv b base (va_rf r) = va_rf (am_cr b base r) := by cases r <;> rfl
theorem am_cv_cat (b base : Nat) (v : Value) : (am_cv b base v).category = v.category := by cases v <;> rfl
theorem am_rf_cat (r : Option Nat) : (va_rf r).category = 1 := by cases r <;> rfl
theorem am_ad_inj {b base x y : Nat} (h : b < base) (e : am_ad b base x = am_ad b base y) : x = y := by
  unfold am_ad at e
  split at e <;> split at e <;> omega
theorem am_cr_inj {b base : Nat} {x y : Option Nat} (h : b < base) (e : am_cr b base x = am_cr b base y) : x = y := by
  cases x <;> cases y <;> simp [am_cr] at e ⊢
  exact am_ad_inj h e
def am_fs (b base : Nat) (h : Hp) (a ci : Nat) : List Value := (List.range (am_N ci)).map (fun k => am_cv b base (am_fv h a ci k))
def am_cell (cy : Nat → ClassId) (b base : Nat) (h : Hp) (a : Nat) : va_E :=
  if am_k h a < 7 then .inr (am_k h a, am_fs b base h a (am_k h a))
  else if am_k h a < 9 then .inl (cy (am_k h a), am_l h a, .inl (am_i h a))
  else .inl (cy (am_k h a), am_l h a, .inr (.inr (.inr (.inr (fun j => am_cr b base (am_r h a j))))))
def am_R (D : va_G) (cy : Nat → ClassId) (b base : Nat) (U : State) (h : Hp) (H : Heap) : Prop :=
  0 < am_n h ∧ H.size + 1 = base + am_n h ∧ b < base ∧ am_k h 0 = 7 ∧ va_X b (am_l h 0) (am_i h 0) U H ∧ ∀ a, 0 < a → a < am_n h → va_at D vwCl (am_ad b base a, am_cell cy b base h a) H
def am_tys (cy : Nat → ClassId) : List (ClassId × FieldType) := [(cy 7, .int), (cy 8, .boolean), (cy 9, .object RX3), (cy 10, .object RX4), (cy 11, .object RX1), (cy 12, .object RX2)]
def am_K (D : va_G) (cy : Nat → ClassId) (U : State) : Prop := va_K D vwCl (am_tys cy) U ∧ va_Nw am_Z U ∧ va_AO RX3 U ∧ va_AO RX4 U ∧ va_AO RX1 U ∧ va_AO RX2 U
theorem am_K.warm {D : va_G} {cy : Nat → ClassId} {s U : State} (hW : s.WarmedH U.vm) (h : am_K D cy s) : am_K D cy U :=
  ⟨va_K.moved hW.alike h.1, va_Nw.warmM hW h.2.1, h.2.2.1.moved hW.alike, h.2.2.2.1.moved hW.alike, h.2.2.2.2.1.moved hW.alike, h.2.2.2.2.2.moved hW.alike⟩
theorem am_K.same {D : va_G} {cy : Nat → ClassId} {s U : State} (hv : s.vm = U.vm) (h : am_K D cy s) : am_K D cy U :=
  ⟨va_K.moved (by rw [hv]; exact Vm.Alike.refl U.vm) h.1, va_Nw.same rfl hv h.2.1, h.2.2.1.moved (by rw [hv]; exact Vm.Alike.refl U.vm), h.2.2.2.1.moved (by rw [hv]; exact Vm.Alike.refl U.vm), h.2.2.2.2.1.moved (by rw [hv]; exact Vm.Alike.refl U.vm), h.2.2.2.2.2.moved (by rw [hv]; exact Vm.Alike.refl U.vm)⟩
theorem am_R.moved {D : va_G} {cy : Nat → ClassId} {b base : Nat} {u U : State} {h : Hp} {H : Heap} (hvm : u.vm.Alike U.vm) (hR : am_R D cy b base u h H) : am_R D cy b base U h H :=
  ⟨hR.1, hR.2.1, hR.2.2.1, hR.2.2.2.1, hR.2.2.2.2.1.moved hvm, hR.2.2.2.2.2⟩
theorem am_R.upd {D : va_G} {cy : Nat → ClassId} {b base : Nat} {s : State} {h h' : Hp} {H H1 : Heap} {a : Nat} (hR : am_R D cy b base s h H) (ha : 0 < a) (hn : am_n h' = am_n h) (hk0 : am_k h' 0 = am_k h 0) (hl0 : am_l h' 0 = am_l h 0) (hi0 : am_i h' 0 = am_i h 0)
    (hc : ∀ x, x ≠ a → am_cell cy b base h' x = am_cell cy b base h x) (hat : va_at D vwCl (am_ad b base a, am_cell cy b base h' a) H1) (hz : H1.size = H.size) (ho : ∀ q, q ≠ am_ad b base a → H1[q]? = H[q]?) : am_R D cy b base s h' H1 := by
  obtain ⟨r1, r2, r3, r4, r5, r6⟩ := hR
  have hb : b ≠ am_ad b base a := by unfold am_ad; rw [if_neg (by omega)]; omega
  refine ⟨by rw [hn]; exact r1, by rw [hz, hn]; exact r2, r3, by rw [hk0]; exact r4, by rw [hl0, hi0]; exact r5.kept (ho b hb), fun x hx hxn => ?_⟩
  by_cases e : x = a
  · subst e; exact hat
  · rw [hc x e]
    exact (r6 x hx (by rw [← hn]; exact hxn)).kept (ho _ (fun z => e (am_ad_inj r3 z)))
theorem am_R.push {D : va_G} {cy : Nat → ClassId} {b base : Nat} {s : State} {h : Hp} {H H1 : Heap} {kind len size : Nat} (hR : am_R D cy b base s h H) (hat : va_at D vwCl (H.size, am_cell cy b base (am_new h kind len size) (am_n h)) H1) (hz : H1.size = H.size + 1) (ho : ∀ q, q < H.size → H1[q]? = H[q]?) : am_R D cy b base s (am_new h kind len size) H1 ∧ H.size = am_ad b base (am_n h) := by
  obtain ⟨r1, r2, r3, r4, r5, r6⟩ := hR
  have hs : H.size = am_ad b base (am_n h) := by unfold am_ad; rw [if_neg (by omega)]; omega
  have h0 : (0 : Nat) ≠ am_n h := by omega
  refine ⟨⟨Nat.succ_pos _, by rw [hz]; show _ = base + (am_n h + 1); omega, r3, ?_, ?_, fun x hx hxn => ?_⟩, hs⟩
  · show (if (0 : Nat) = am_n h then kind else am_k h 0) = 7
    rw [if_neg h0]; exact r4
  · have e1 : am_l (am_new h kind len size) 0 = am_l h 0 := by show (if (0 : Nat) = am_n h then len else am_l h 0) = _; rw [if_neg h0]
    have e2 : am_i (am_new h kind len size) 0 = am_i h 0 := by funext j; show (if (0 : Nat) = am_n h then 0 else am_i h 0 j) = _; rw [if_neg h0]
    rw [e1, e2]
    have hbl : b < H.size := by obtain ⟨scr, g1, -⟩ := r5; exact (Array.getElem?_eq_some_iff.mp g1).1
    exact r5.kept (ho b hbl)
  · by_cases e : x = am_n h
    · subst e; rw [← hs]; exact hat
    · have hx2 : x < am_n h := by have h2 : x < am_n h + 1 := hxn; omega
      have e1 : am_cell cy b base (am_new h kind len size) x = am_cell cy b base h x := by
        have k1 : am_k (am_new h kind len size) x = am_k h x := by show (if x = am_n h then kind else am_k h x) = _; rw [if_neg e]
        have k2 : am_l (am_new h kind len size) x = am_l h x := by show (if x = am_n h then len else am_l h x) = _; rw [if_neg e]
        have k3 : am_i (am_new h kind len size) x = am_i h x := by funext j; show (if x = am_n h then 0 else am_i h x j) = _; rw [if_neg e]
        have k4 : am_r (am_new h kind len size) x = am_r h x := by funext j; show (if x = am_n h then none else am_r h x j) = _; rw [if_neg e]
        simp only [am_cell, am_fs, am_fv, k1, k2, k3, k4]
      rw [e1]
      have hlt := (r6 x hx hx2).lt
      exact (r6 x hx hx2).kept (ho _ hlt)
/-! the locals -/
def am_L (b base : Nat) (ls : am_Ls) (LS : Array Slot) : Prop := LS.size = ls.length ∧ lv_wf LS ∧ ∀ (i : Nat) (v : Value), ls[i]? = some (some v) → LS[i]? = some (.val (am_cv b base v)) ∧ v.category = 1
def am_as (b base : Nat) (ls : am_Ls) : List (Nat × Value) := (List.range ls.length).filterMap (fun i => match ls[i]? with | some (some v) => some (i, am_cv b base v) | _ => none)
theorem am_as_mem {b base : Nat} {ls : am_Ls} {q : Nat × Value} : q ∈ am_as b base ls ↔ ∃ v, ls[q.1]? = some (some v) ∧ q.2 = am_cv b base v := by
  unfold am_as
  rw [List.mem_filterMap]
  constructor
  · rintro ⟨i, hi, h⟩
    split at h
    · rename_i v hv
      cases h
      exact ⟨v, hv, rfl⟩
    · cases h
  · rintro ⟨v, h1, h2⟩
    refine ⟨q.1, List.mem_range.mpr (List.getElem?_eq_some_iff.mp h1).1, ?_⟩
    rw [h1]
    show some (q.1, am_cv b base v) = some q
    rw [← h2]
theorem am_L.has {b base : Nat} {ls : am_Ls} {LS : Array Slot} (h : am_L b base ls LS) : lv_has LS ls.length (am_as b base ls) := by
  refine ⟨h.1, h.2.1, fun q hq => ?_⟩
  obtain ⟨v, h1, h2⟩ := am_as_mem.mp hq
  rw [h2]
  exact (h.2.2 q.1 v h1).1
theorem am_L.set {b base : Nat} {ls : am_Ls} {LS LS' : Array Slot} {i : Nat} {v : Value} (h : am_L b base ls LS) (hi : i < ls.length) (hv : v.category = 1)
    (h' : lv_has LS' ls.length ((i, am_cv b base v) :: (am_as b base ls).filter (fun q => !(q.1 == i) && !(q.1 + 1 == i && q.2.category == 2)))) : am_L b base (ls.set i (some v)) LS' := by
  refine ⟨by rw [List.length_set]; exact h'.1, h'.2.1, fun j w hj => ?_⟩
  by_cases e : j = i
  · subst e
    rw [List.getElem?_set_self hi] at hj
    cases hj
    exact ⟨h'.2.2 _ List.mem_cons_self, hv⟩
  · rw [List.getElem?_set_ne (Ne.symm e)] at hj
    refine ⟨h'.2.2 (j, am_cv b base w) (List.mem_cons_of_mem _ (List.mem_filter.mpr ⟨am_as_mem.mpr ⟨w, hj, rfl⟩, ?_⟩)), (h.2.2 j w hj).2⟩
    have hc := (h.2.2 j w hj).2
    simp [e, am_cv_cat, hc]
theorem am_L.entry (b base : Nat) (as : List Value) (n : Nat) (h : as.length ≤ n) (hc : ∀ v ∈ as, v.category = 1) : am_L b base (as.map some ++ List.replicate (n - as.length) none) (((as.map (am_cv b base)).map Slot.val ++ List.replicate (n - as.length) Slot.unset).toArray) := by
  refine ⟨by simp, ?_, fun i v hi => ?_⟩
  · constructor
    · intro i v hv hcat
      exfalso
      have hv2 : (((as.map (am_cv b base)).map Slot.val ++ List.replicate (n - as.length) Slot.unset))[i]? = some (.val v) := by simpa using hv
      by_cases hl : i < as.length
      · rw [List.getElem?_append_left (by simpa using hl)] at hv2
        simp only [List.getElem?_map, List.map_map] at hv2
        rw [List.getElem?_eq_getElem hl] at hv2
        simp only [Option.map_some, Function.comp, Option.some.injEq, Slot.val.injEq] at hv2
        have h1 := hc _ (List.getElem_mem hl)
        rw [← hv2, am_cv_cat] at hcat
        omega
      · rw [List.getElem?_append_right (by simp; omega)] at hv2
        have h2 := List.mem_of_getElem? hv2
        have h3 := List.eq_of_mem_replicate h2
        cases h3
    · intro i hi
      exfalso
      have hv2 : (((as.map (am_cv b base)).map Slot.val ++ List.replicate (n - as.length) Slot.unset))[i]? = some .second := by simpa using hi
      by_cases hl : i < as.length
      · rw [List.getElem?_append_left (by simpa using hl)] at hv2
        simp only [List.getElem?_map, List.map_map] at hv2
        rw [List.getElem?_eq_getElem hl] at hv2
        simp only [Option.map_some, Function.comp, Option.some.injEq] at hv2
        cases hv2
      · rw [List.getElem?_append_right (by simp; omega)] at hv2
        have h2 := List.mem_of_getElem? hv2
        have h3 := List.eq_of_mem_replicate h2
        cases h3
  · by_cases hl : i < as.length
    · rw [List.getElem?_append_left (by simpa using hl)] at hi
      simp only [List.getElem?_map] at hi
      rw [List.getElem?_eq_getElem hl] at hi
      simp only [Option.map_some, Option.some.injEq] at hi
      subst hi
      refine ⟨?_, hc _ (List.getElem_mem hl)⟩
      rw [List.getElem?_toArray, List.getElem?_append_left (by simpa using hl)]
      simp only [List.getElem?_map]
      rw [List.getElem?_eq_getElem hl]
      rfl
    · rw [List.getElem?_append_right (by simp; omega)] at hi
      have h2 := List.mem_of_getElem? hi
      have h3 := List.eq_of_mem_replicate h2
      cases h3
/-! contracts -/
def am_Pc (D : va_G) (cy : Nat → ClassId) (b base : Nat) (as : List Value) (h : Hp) : Array Value → State → Prop := fun v U => v = (as.map (am_cv b base)).toArray ∧ am_R D cy b base U h U.heap ∧ am_K D cy U
def am_Qc (D : va_G) (cy : Nat → ClassId) (b base : Nat) (rv : Option Value) (h' : Hp) : Array Value → State → Outcome → State → Prop := fun _ st oc t => oc = .returned (rv.map (am_cv b base)) ∧ am_R D cy b base t h' t.heap ∧ va_F (fun q => base ≤ q) st t
def am_Met (l : Launch) (d y : Nat) (as : List Value) (h : Hp) (rv : Option Value) (h' : Hp) : Prop := ∀ (D : va_G) (cy : Nat → ClassId) (b base : Nat), Met l (am_m y).1 (am_w y) ({ frames := d, cells := am_n h' - am_n h, slots := am_z h' - am_z h, locals := 30 * d }) (am_Pc D cy b base as h) (am_Qc D cy b base rv h') (am_n h' - am_n h) (am_z h' - am_z h) (fun q => base ≤ q)
theorem am_Pc.blind (D : va_G) (cy : Nat → ClassId) (b base : Nat) (as : List Value) (h : Hp) : FrameBlind (am_Pc D cy b base as h) := fun a U g mk q => ⟨q.1, q.2.1.moved (Vm.Alike.refl U.vm), q.2.2.same rfl⟩
/-- what a walk stands on -/
def am_Cx (p : Program) (l : Launch) (R : Room) (s : State) (m : MethodId) (args : Array Value) (meth : Method) (c : Code) (M : am_M) (D : va_G) (cy : Nat → ClassId) (b base d : Nat) (Cal : am_Ct) : Prop :=
  p.tables.exec = Jvm.exec ∧ c.code = M.2.1 ∧ c.maxLocals = M.2.2.1 ∧ s.vm.findClass M.2.2.2.2.1 = some m.cls ∧ (∀ w ∈ am_tbl, w.before args s = true) ∧ (M.1.name = "<init>" → meth.name = "<init>") ∧ am_K D cy s ∧ base ≤ s.heap.size + 0 ∧ d + 1 ≤ R.frames ∧ 30 * (d + 1) ≤ R.locals ∧
  (∀ y as h rv h', Cal y as h rv h' → am_Met l d y as h rv h' ∧ am_n h ≤ am_n h' ∧ am_z h ≤ am_z h')
/-- the goal at a place: from every heap that holds h, the machine comes to Q -/
def am_G (p : Program) (l : Launch) (e : Env) (R : Room) (s : State) (m : MethodId) (args : Array Value) (below : List Frame) (meth : Method) (c : Code) (Q : State → Prop) (M : am_M) (D : va_G) (cy : Nat → ClassId) (b base : Nat) (hs : Hp) (pc : Nat) (ls : am_Ls) (st : List Value) (h : Hp) : Prop :=
  am_n hs ≤ am_n h → am_z hs ≤ am_z h → ls.length = M.2.2.1 → ∀ (H : Heap) (locs : List Loc) (LS : Array Slot), am_R D cy b base s h H → va_S (fun q => base ≤ q) s.heap H locs → am_L b base ls LS → W p l e R s m args below meth c H locs (am_n h - am_n hs) (am_z h - am_z hs) Q (F0 m pc LS (st.map (am_cv b base)))
