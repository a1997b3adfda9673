/-! THE CLASS: cells that are made -/
def Gr (h h' : Hp) : Prop := am_n h ≤ am_n h' ∧ ∀ a, a < am_n h → am_k h' a = am_k h a ∧ am_l h' a = am_l h a
section GR
variable {S S' : St} {h h' : Hp}
theorem Gr.ob (g : Gr h h') {a k : Nat} (o : Ob h a k) : Ob h' a k := ⟨o.1, Nat.lt_of_lt_of_le o.2.1 g.1, (g.2 a o.2.1).1.trans o.2.2⟩
theorem Gr.ar (g : Gr h h') {a K N : Nat} (o : Ar h a K N) : Ar h' a K N := ⟨g.ob o.1, (g.2 a o.1.2.1).2.trans o.2⟩
theorem Gr.cok (g : Gr h h') (c : COK h) (h1 : ∀ j, am_r h' 1 j = am_r h 1 j) (h7 : ∀ j, am_r h' 7 j = am_r h 7 j) : COK h' :=
  ⟨g.ob c.ob, ⟨(h1 0).trans c.r0, g.ar c.a2⟩, ⟨(h1 2).trans c.r2, g.ar c.a3⟩, ⟨(h1 4).trans c.r4, g.ar c.a4⟩, ⟨(h1 6).trans c.r6, g.ar c.a5⟩, ⟨(h1 8).trans c.r8, g.ar c.a6⟩, ⟨(h1 9).trans c.r9, g.ob c.o7⟩, ⟨(h7 0).trans c.q0, g.ar c.a8⟩, (h7 1).trans c.q1, g.ar c.a9⟩
theorem CSh.of {k : Nat} (x : CSh S h k) (g : Gr h h') (hr : am_r h' 2 k = am_r h 2 k) (hi : ∀ j, ¬ j = 5 → ¬ j = 6 → am_i h' (shA h k) j = am_i h (shA h k) j) (h5 : am_i h' (shA h k) 5 = sFree S' k (cT S')) (h6 : am_i h' (shA h k) 6 = sLoad S' k (cT S')) (es : ∀ a, 16 ≤ a → a ≤ 20 → S' a k = S a k) : CSh S' h' k := by
  have e : shA h' k = shA h k := by unfold shA; rw [hr]
  obtain ⟨a, b, c, d0, d1, d2, d3, d4, d5, d6, d7⟩ := x
  unfold CSh
  rw [e, hr, es 16 (by decide) (by decide), es 17 (by decide) (by decide), es 18 (by decide) (by decide), es 19 (by decide) (by decide), es 20 (by decide) (by decide)]
  exact ⟨a, b, g.ob c, (hi 0 (by decide) (by decide)).trans d0, (hi 1 (by decide) (by decide)).trans d1, (hi 2 (by decide) (by decide)).trans d2, (hi 3 (by decide) (by decide)).trans d3, (hi 4 (by decide) (by decide)).trans d4, h5, h6, (hi 7 (by decide) (by decide)).trans d7⟩
theorem CTh.of {k : Nat} (x : CTh S h k) (g : Gr h h') (hr : am_r h' 3 k = am_r h 3 k) (hi : ∀ j, am_i h' (thA h k) j = am_i h (thA h k) j) (hp : am_r h' (thA h k) 8 = am_r h (thA h k) 8) (hs : S 26 k = 0 → shA h' (onN S k) = shA h (onN S k)) (es : ∀ a, 21 ≤ a → a ≤ 31 → S' a k = S a k) : CTh S' h' k := by
  have e : thA h' k = thA h k := by unfold thA; rw [hr]
  have eo : onN S' k = onN S k := by unfold onN; rw [es 27 (by decide) (by decide)]
  obtain ⟨a, b, c, d0, d1, d2, d3, d4, d5, d6, d7, d9, d10, dp⟩ := x
  have ep : am_r h' (thA h k) 8 = (if S 26 k = 0 then some (shA h' (onN S k)) else none) := by
    rw [hp, dp]
    by_cases q : S 26 k = 0
    · rw [if_pos q, if_pos q, hs q]
    · rw [if_neg q, if_neg q]
  unfold CTh
  rw [e, hr, eo, es 21 (by decide) (by decide), es 22 (by decide) (by decide), es 23 (by decide) (by decide), es 24 (by decide) (by decide), es 25 (by decide) (by decide), es 26 (by decide) (by decide), es 28 (by decide) (by decide), es 29 (by decide) (by decide), es 30 (by decide) (by decide), es 31 (by decide) (by decide)]
  exact ⟨a, b, g.ob c, (hi 0).trans d0, (hi 1).trans d1, (hi 2).trans d2, (hi 3).trans d3, (hi 4).trans d4, (hi 5).trans d5, (hi 6).trans d6, (hi 7).trans d7, (hi 9).trans d9, (hi 10).trans d10, ep⟩
theorem CCl.of {k : Nat} (x : CCl S h k) (g : Gr h h') (hr : am_r h' 4 k = am_r h 4 k) (ht : am_r h' (clA h k) 0 = am_r h (clA h k) 0) (hi : ∀ j, am_i h' (clA h k) j = am_i h (clA h k) j) (hj : ∀ j, am_i h' (toA h k) j = am_i h (toA h k) j) (e32 : ∀ j, j < 4 → S' 32 (4 * k + j) = S 32 (4 * k + j)) (e33 : S' 33 k = S 33 k) (e34 : S' 34 k = S 34 k) : CCl S' h' k := by
  have e : clA h' k = clA h k := by unfold clA; rw [hr]
  have e2 : toA h' k = toA h k := by unfold toA; rw [e, ht]
  obtain ⟨a, b, c, d1, d2, t1, t2, t3, t4⟩ := x
  unfold CCl
  rw [e2, e, hr, ht, e33, e34]
  exact ⟨a, b, g.ob c, (hi 1).trans d1, (hi 2).trans d2, t1, t2, g.ar t3, fun j q => (hj j).trans ((t4 j q).trans (e32 j q).symm)⟩
theorem CRo.of {k : Nat} (x : CRo S h k) (g : Gr h h') (hr : am_r h' 5 k = am_r h 5 k) (hi : ∀ j, am_i h' (roA h k) j = am_i h (roA h k) j) (es : ∀ a, 11 ≤ a → a ≤ 15 → S' a k = S a k) : CRo S' h' k := by
  have e : roA h' k = roA h k := by unfold roA; rw [hr]
  obtain ⟨a, b, c, d0, d1, d2, d3, d4⟩ := x
  unfold CRo
  rw [e, hr, es 11 (by decide) (by decide), es 12 (by decide) (by decide), es 13 (by decide) (by decide), es 14 (by decide) (by decide), es 15 (by decide) (by decide)]
  exact ⟨a, b, g.ob c, (hi 0).trans d0, (hi 1).trans d1, (hi 2).trans d2, (hi 3).trans d3, (hi 4).trans d4⟩
/-- how many of a row of S are used -/
def uN (S : St) (a : Nat) : Nat := if a ≤ 15 then cR S else if a ≤ 20 then cS S else if a ≤ 31 then cT S else if a = 32 then 4 * cC S else cC S
theorem uN_r {a : Nat} (h2 : a ≤ 15) : uN S a = cR S := if_pos h2
theorem uN_s {a : Nat} (h1 : 16 ≤ a) (h2 : a ≤ 20) : uN S a = cS S := by unfold uN; rw [if_neg (by omega), if_pos h2]
theorem uN_t {a : Nat} (h1 : 21 ≤ a) (h2 : a ≤ 31) : uN S a = cT S := by unfold uN; rw [if_neg (by omega), if_neg (by omega), if_pos h2]
theorem uN_32 : uN S 32 = 4 * cC S := rfl
theorem uN_33 : uN S 33 = cC S := rfl
theorem uN_34 : uN S 34 = cC S := rfl
theorem CR.same (hR : CR S h) (g : Gr h h') (hi : ∀ a, (a = 1 ∨ 38 ≤ a) → a < am_n h → am_i h' a = am_i h a) (hr : ∀ a, (a = 1 ∨ a = 2 ∨ a = 3 ∨ a = 4 ∨ a = 5 ∨ a = 7 ∨ 38 ≤ a) → a < am_n h → am_r h' a = am_r h a) (s10 : ∀ k, S' 10 k = S 10 k) (ro : ∀ a k, 11 ≤ a → a ≤ 34 → k < uN S a → S' a k = S a k) : CR S' h' := by
  have hc := hR.1
  have r1 := hr 1 (by omega) hc.ob.2.1
  have r2 := hr 2 (by omega) hc.a2.1.2.1
  have r3 := hr 3 (by omega) hc.a3.1.2.1
  have r4 := hr 4 (by omega) hc.a4.1.2.1
  have r5 := hr 5 (by omega) hc.a5.1.2.1
  have r7 := hr 7 (by omega) hc.o7.2.1
  have eS : cS S' = cS S := by unfold cS; rw [s10]
  have eT : cT S' = cT S := by unfold cT; rw [s10]
  have eC : cC S' = cC S := by unfold cC; rw [s10]
  have eR : cR S' = cR S := by unfold cR; rw [s10]
  have a1 : shA h' = shA h := by funext k; unfold shA; rw [r2]
  have a2 : thA h' = thA h := by funext k; unfold thA; rw [r3]
  have a3 : clA h' = clA h := by funext k; unfold clA; rw [r4]
  have rc : ∀ k, k < cC S → am_r h' (clA h k) = am_r h (clA h k) := fun k hk => hr _ (by have := hR.cl_38 k hk; omega) (hR.cl_ob k hk).2.1
  have a4 : ∀ k, k < cC S → toA h' k = toA h k := fun k hk => by unfold toA; rw [a3, rc k hk]
  refine ⟨g.cok hc (fun j => by rw [r1]) (fun j => by rw [r7]), ?_, fun k hk => ?_, fun k hk => ?_, fun k hk => ?_, fun k hk => ?_, ?_⟩
  · unfold CSc
    simp only [hi 1 (Or.inl rfl) hc.ob.2.1, s10]
    exact hR.2.1
  · rw [eS] at hk
    have ei := hi (shA h k) (Or.inr (hR.sh_38 k hk)) (hR.sh_ob k hk).2.1
    have es : ∀ a, 16 ≤ a → a ≤ 20 → S' a k = S a k := fun a q1 q2 => ro a k (by omega) (by omega) (by rw [uN_s q1 q2]; exact hk)
    refine (hR.2.2.1 k hk).of g (by rw [r2]) (fun j _ _ => by rw [ei]) ?_ ?_ es
    · rw [ei, eT, sFree_congr (S := S) (S' := S') (s := k) (cT S) (es 16 (by decide) (by decide)) (fun t ht => ⟨ro 26 t (by decide) (by decide) ht, ro 27 t (by decide) (by decide) ht, ro 21 t (by decide) (by decide) ht⟩)]
      exact hR.sh5 k hk
    · rw [ei, eT, sLoad_congr (S := S) (S' := S') (s := k) (cT S) (fun t ht => ⟨ro 26 t (by decide) (by decide) ht, ro 27 t (by decide) (by decide) ht⟩)]
      exact hR.sh6 k hk
  · rw [eT] at hk
    have ei := hi (thA h k) (Or.inr (hR.th_38 k hk)) (hR.th_ob k hk).2.1
    exact (hR.2.2.2.1 k hk).of g (by rw [r3]) (fun j => by rw [ei]) (by rw [hr (thA h k) (by have := hR.th_38 k hk; omega) (hR.th_ob k hk).2.1]) (fun _ => by rw [a1]) (fun a q1 q2 => ro a k (by omega) (by omega) (by rw [uN_t q1 q2]; exact hk))
  · rw [eC] at hk
    exact (hR.2.2.2.2.1 k hk).of g (by rw [r4]) (by rw [rc k hk]) (fun j => by rw [hi _ (Or.inr (hR.cl_38 k hk)) (hR.cl_ob k hk).2.1]) (fun j => by rw [hi _ (Or.inr (hR.cl_t38 k hk)) (hR.cl_ta k hk).1.2.1]) (fun j q => ro 32 _ (by decide) (by decide) (by rw [uN_32]; omega)) (ro 33 k (by decide) (by decide) hk) (ro 34 k (by decide) (by decide) hk)
  · rw [eR] at hk
    exact (hR.2.2.2.2.2.1 k hk).of g (by rw [r5]) (fun j => by rw [hi _ (Or.inr (hR.ro_38 k hk)) (hR.ro_ob k hk).2.1]) (fun a q1 q2 => ro a k (by omega) (by omega) (by rw [uN_r q2]; exact hk))
  · obtain ⟨p1, p2, p3, p4⟩ := hR.2.2.2.2.2.2
    unfold CAp
    rw [a1, a2, a3, eS, eT, eC]
    exact ⟨p1, p2, p3, fun a b ha hb e => p4 a b ha hb (by rw [← a4 a ha, ← a4 b hb]; exact e)⟩
/-- cells made, none of the old ones changed -/
def Ext (h h' : Hp) : Prop := am_n h ≤ am_n h' ∧ ∀ a, a < am_n h → am_k h' a = am_k h a ∧ am_l h' a = am_l h a ∧ am_i h' a = am_i h a ∧ am_r h' a = am_r h a
theorem Ext.gr (x : Ext h h') : Gr h h' := ⟨x.1, fun a q => ⟨(x.2 a q).1, (x.2 a q).2.1⟩⟩
theorem Ext.new (h : Hp) (K N Z : Nat) : Ext h (am_new h K N Z) := by
  refine ⟨Nat.le_succ _, fun a q => ?_⟩
  have e : ¬ a = am_n h := by omega
  refine ⟨?_, ?_, ?_, ?_⟩
  · show (if a = am_n h then K else am_k h a) = _; rw [if_neg e]
  · show (if a = am_n h then N else am_l h a) = _; rw [if_neg e]
  · funext j; show (if a = am_n h then 0 else am_i h a j) = _; rw [if_neg e]
  · funext j; show (if a = am_n h then none else am_r h a j) = _; rw [if_neg e]
theorem Ext.setI (x : Ext h h') {a k : Nat} {v : Int32} (ha : am_n h ≤ a) : Ext h (am_setI h' a k v) :=
  ⟨x.1, fun b q => ⟨(x.2 b q).1, (x.2 b q).2.1, (am_ix_ne (by omega)).trans (x.2 b q).2.2.1, (x.2 b q).2.2.2⟩⟩
theorem Ext.setR (x : Ext h h') {a k : Nat} {v : Option Nat} (ha : am_n h ≤ a) : Ext h (am_setR h' a k v) :=
  ⟨x.1, fun b q => ⟨(x.2 b q).1, (x.2 b q).2.1, (x.2 b q).2.2.1, by funext j; rw [am_r_setR, if_neg (by omega)]; rw [(x.2 b q).2.2.2]⟩⟩
theorem Ext.trans {h1 : Hp} (x : Ext h h1) (y : Ext h1 h') : Ext h h' :=
  ⟨Nat.le_trans x.1 y.1, fun b q => by
    obtain ⟨a1, a2, a3, a4⟩ := x.2 b q
    obtain ⟨b1, b2, b3, b4⟩ := y.2 b (Nat.lt_of_lt_of_le q x.1)
    exact ⟨b1.trans a1, b2.trans a2, b3.trans a3, b4.trans a4⟩⟩
theorem CR.ext (hR : CR S h) (x : Ext h h') : CR S h' := hR.same x.gr (fun a _ q => (x.2 a q).2.2.1) (fun a _ q => (x.2 a q).2.2.2) (fun _ => rfl) (fun _ _ _ _ _ => rfl)
theorem CR.rows (hR : CR S h) (s10 : ∀ k, S' 10 k = S 10 k) (ro : ∀ a k, 11 ≤ a → a ≤ 34 → k < uN S a → S' a k = S a k) : CR S' h := hR.same ⟨Nat.le_refl _, fun _ _ => ⟨rfl, rfl⟩⟩ (fun _ _ _ => rfl) (fun _ _ _ => rfl) s10 ro
theorem Ob.fresh (h : Hp) (K N Z : Nat) (h0 : 0 < am_n h) : Ob (am_new h K N Z) (am_n h) K := ⟨h0, Nat.lt_succ_self _, if_pos rfl⟩
theorem am_i_new (h : Hp) (K N Z j : Nat) : am_i (am_new h K N Z) (am_n h) j = 0 := if_pos rfl
theorem am_r_new (h : Hp) (K N Z j : Nat) : am_r (am_new h K N Z) (am_n h) j = none := if_pos rfl
end GR
