/-! THE CLASS: a call that makes no cell and moves no reference but places -/
theorem am_i_setI (h : Hp) (a k : Nat) (v : Int32) (x j : Nat) : am_i (am_setI h a k v) x j = if x = a ∧ j = k then v else am_i h x j := rfl
theorem am_r_setI (h : Hp) (a k : Nat) (v : Int32) : am_r (am_setI h a k v) = am_r h := rfl
theorem am_i_setR (h : Hp) (a k : Nat) (v : Option Nat) : am_i (am_setR h a k v) = am_i h := rfl
theorem am_r_setR (h : Hp) (a k : Nat) (v : Option Nat) (x j : Nat) : am_r (am_setR h a k v) x j = if x = a ∧ j = k then v else am_r h x j := rfl
/-- what stays of a heap's shape -/
def Qt (h h' : Hp) : Prop := am_n h' = am_n h ∧ am_z h' = am_z h ∧ am_k h' = am_k h ∧ am_l h' = am_l h ∧ ∀ a j, ¬ am_k h a = 4 → am_r h' a j = am_r h a j
theorem Qt.rfl' (h : Hp) : Qt h h := ⟨rfl, rfl, rfl, rfl, fun _ _ _ => rfl⟩
theorem Qt.trans {h h1 h2 : Hp} (x : Qt h h1) (y : Qt h1 h2) : Qt h h2 := ⟨y.1.trans x.1, y.2.1.trans x.2.1, y.2.2.1.trans x.2.2.1, y.2.2.2.1.trans x.2.2.2.1, fun a j q => (y.2.2.2.2 a j (by rw [x.2.2.1]; exact q)).trans (x.2.2.2.2 a j q)⟩
theorem Qt.setI (h : Hp) (a k : Nat) (v : Int32) : Qt h (am_setI h a k v) := ⟨rfl, rfl, rfl, rfl, fun _ _ _ => rfl⟩
theorem Qt.setR {h : Hp} {a : Nat} (k : Nat) (v : Option Nat) (ha : am_k h a = 4) : Qt h (am_setR h a k v) := ⟨rfl, rfl, rfl, rfl, fun x j q => by rw [am_r_setR, if_neg]; rintro ⟨e, -⟩; rw [e] at q; exact q ha⟩
theorem Qt.ob {h h' : Hp} (x : Qt h h') {a k : Nat} (o : Ob h a k) : Ob h' a k := ⟨o.1, by rw [x.1]; exact o.2.1, by rw [x.2.2.1]; exact o.2.2⟩
theorem Qt.ar {h h' : Hp} (x : Qt h h') {a K N : Nat} (o : Ar h a K N) : Ar h' a K N := ⟨x.ob o.1, by rw [x.2.2.2.1]; exact o.2⟩
theorem Qt.cok {h h' : Hp} (x : Qt h h') (c : COK h) : COK h' := by
  have k1 : ¬ am_k h 1 = 4 := by rw [c.ob.2.2]; decide
  have k7 : ¬ am_k h 7 = 4 := by rw [c.o7.2.2]; decide
  exact ⟨x.ob c.ob, ⟨(x.2.2.2.2 1 0 k1).trans c.r0, x.ar c.a2⟩, ⟨(x.2.2.2.2 1 2 k1).trans c.r2, x.ar c.a3⟩, ⟨(x.2.2.2.2 1 4 k1).trans c.r4, x.ar c.a4⟩, ⟨(x.2.2.2.2 1 6 k1).trans c.r6, x.ar c.a5⟩, ⟨(x.2.2.2.2 1 8 k1).trans c.r8, x.ar c.a6⟩, ⟨(x.2.2.2.2 1 9 k1).trans c.r9, x.ob c.o7⟩, ⟨(x.2.2.2.2 7 0 k7).trans c.q0, x.ar c.a8⟩, (x.2.2.2.2 7 1 k7).trans c.q1, x.ar c.a9⟩
theorem Qt.sh {h h' : Hp} (x : Qt h h') (c : COK h) : shA h' = shA h := by funext k; unfold shA; rw [x.2.2.2.2 2 k (by rw [c.a2.1.2.2]; decide)]
theorem Qt.th {h h' : Hp} (x : Qt h h') (c : COK h) : thA h' = thA h := by funext k; unfold thA; rw [x.2.2.2.2 3 k (by rw [c.a3.1.2.2]; decide)]
theorem Qt.cl {h h' : Hp} (x : Qt h h') (c : COK h) : clA h' = clA h := by funext k; unfold clA; rw [x.2.2.2.2 4 k (by rw [c.a4.1.2.2]; decide)]
theorem Qt.ro {h h' : Hp} (x : Qt h h') (c : COK h) : roA h' = roA h := by funext k; unfold roA; rw [x.2.2.2.2 5 k (by rw [c.a5.1.2.2]; decide)]
theorem Qt.to {h h' : Hp} {S : St} (x : Qt h h') (hR : CR S h) {k : Nat} (hk : k < cC S) : toA h' k = toA h k := by unfold toA; rw [x.cl hR.1, x.2.2.2.2 (clA h k) 0 (by rw [(hR.cl_ob k hk).2.2]; decide)]

theorem CR.quiet {S S' : St} {h h' : Hp} (hR : CR S h) (x : Qt h h') (hc : cS S' = cS S ∧ cT S' = cT S ∧ cC S' = cC S ∧ cR S' = cR S) (hsc : CSc S' h')
    (hsh : ∀ k, k < cS S → am_i h' (shA h k) 0 = nI k ∧ am_i h' (shA h k) 1 = S' 16 k ∧ am_i h' (shA h k) 2 = S' 17 k ∧ am_i h' (shA h k) 3 = S' 19 k ∧ am_i h' (shA h k) 4 = S' 18 k ∧ am_i h' (shA h k) 5 = sFree S' k (cT S) ∧ am_i h' (shA h k) 6 = sLoad S' k (cT S) ∧ am_i h' (shA h k) 7 = S' 20 k)
    (hth : ∀ k, k < cT S → am_i h' (thA h k) 0 = S' 21 k ∧ am_i h' (thA h k) 1 = S' 22 k ∧ am_i h' (thA h k) 2 = S' 30 k ∧ am_i h' (thA h k) 3 = S' 31 k ∧ am_i h' (thA h k) 4 = S' 23 k ∧ am_i h' (thA h k) 5 = S' 24 k ∧ am_i h' (thA h k) 6 = S' 25 k ∧ am_i h' (thA h k) 7 = S' 26 k ∧ am_i h' (thA h k) 9 = S' 28 k ∧ am_i h' (thA h k) 10 = S' 29 k ∧ am_r h' (thA h k) 8 = (if S' 26 k = 0 then some (shA h (onN S' k)) else none))
    (hcl : ∀ k, k < cC S → am_i h' (clA h k) 1 = S' 34 k ∧ am_i h' (clA h k) 2 = S' 33 k ∧ ∀ j, j < 4 → am_i h' (toA h k) j = S' 32 (4 * k + j))
    (hro : ∀ k, k < cR S → am_i h' (roA h k) 0 = S' 11 k ∧ am_i h' (roA h k) 1 = S' 12 k ∧ am_i h' (roA h k) 2 = S' 13 k ∧ am_i h' (roA h k) 3 = S' 14 k ∧ am_i h' (roA h k) 4 = S' 15 k) : CR S' h' := by
  obtain ⟨e1, e2, e3, e4⟩ := hc
  have k2 : ¬ am_k h 2 = 4 := by rw [hR.1.a2.1.2.2]; decide
  have k3 : ¬ am_k h 3 = 4 := by rw [hR.1.a3.1.2.2]; decide
  have k4 : ¬ am_k h 4 = 4 := by rw [hR.1.a4.1.2.2]; decide
  have k5 : ¬ am_k h 5 = 4 := by rw [hR.1.a5.1.2.2]; decide
  refine ⟨x.cok hR.1, hsc, fun k hk => ?_, fun k hk => ?_, fun k hk => ?_, fun k hk => ?_, ?_⟩
  · rw [e1] at hk
    obtain ⟨a0, a1, a2, a3, a4, a5, a6, a7⟩ := hsh k hk
    unfold CSh
    rw [x.sh hR.1, e2]
    exact ⟨(x.2.2.2.2 2 k k2).trans (hR.sh_r k hk), hR.sh_38 k hk, x.ob (hR.sh_ob k hk), a0, a1, a2, a3, a4, a5, a6, a7⟩
  · rw [e2] at hk
    obtain ⟨a0, a1, a2, a3, a4, a5, a6, a7, a9, a10, ap⟩ := hth k hk
    unfold CTh
    rw [x.th hR.1, x.sh hR.1]
    exact ⟨(x.2.2.2.2 3 k k3).trans (hR.th_r k hk), hR.th_38 k hk, x.ob (hR.th_ob k hk), a0, a1, a2, a3, a4, a5, a6, a7, a9, a10, ap⟩
  · rw [e3] at hk
    obtain ⟨a1, a2, a3⟩ := hcl k hk
    unfold CCl
    rw [x.cl hR.1, x.to hR hk]
    exact ⟨(x.2.2.2.2 4 k k4).trans (hR.cl_r k hk), hR.cl_38 k hk, x.ob (hR.cl_ob k hk), a1, a2, (x.2.2.2.2 _ 0 (by rw [(hR.cl_ob k hk).2.2]; decide)).trans (hR.cl_t k hk), hR.cl_t38 k hk, x.ar (hR.cl_ta k hk), a3⟩
  · rw [e4] at hk
    obtain ⟨a0, a1, a2, a3, a4⟩ := hro k hk
    unfold CRo
    rw [x.ro hR.1]
    exact ⟨(x.2.2.2.2 5 k k5).trans (hR.ro_r k hk), hR.ro_38 k hk, x.ob (hR.ro_ob k hk), a0, a1, a2, a3, a4⟩
  · obtain ⟨p1, p2, p3, p4⟩ := hR.2.2.2.2.2.2
    unfold CAp
    rw [x.sh hR.1, x.th hR.1, x.cl hR.1, e1, e2, e3]
    exact ⟨p1, p2, p3, fun a b ha hb e => p4 a b ha hb (by rw [← x.to hR ha, ← x.to hR hb]; exact e)⟩
/-! cells of two kinds are two cells -/
theorem Ob.ne {h : Hp} {a b k l : Nat} (x : Ob h a k) (y : Ob h b l) (e : ¬ k = l) : ¬ a = b := by
  intro z
  rw [z] at x
  exact e (x.2.2.symm.trans y.2.2)
/-- S and S' show the same shelves' sums -/
theorem sFree_congr {S S' : St} {s : Nat} : ∀ (n : Nat), S' 16 s = S 16 s → (∀ t, t < n → S' 26 t = S 26 t ∧ S' 27 t = S 27 t ∧ S' 21 t = S 21 t) → sFree S' s n = sFree S s n := by
  intro n
  induction n with
  | zero => intro h1 _; exact h1
  | succ n ih =>
    intro h1 h2
    obtain ⟨a, b, c⟩ := h2 n (by omega)
    simp only [sFree, a, b, c, ih h1 (fun t ht => h2 t (by omega))]
theorem sLoad_congr {S S' : St} {s : Nat} : ∀ (n : Nat), (∀ t, t < n → S' 26 t = S 26 t ∧ S' 27 t = S 27 t) → sLoad S' s n = sLoad S s n := by
  intro n
  induction n with
  | zero => intro _; rfl
  | succ n ih =>
    intro h2
    obtain ⟨a, b⟩ := h2 n (by omega)
    simp only [sLoad, a, b, ih (fun t ht => h2 t (by omega))]
