/-! ONE CALL OF BOTH: what stays, and what is to be shown of it -/
def Fc (a : Nat) : Prop := a = 0 ∨ (10 ≤ a ∧ a ≤ 37)
theorem Fc.no {a : Nat} (h : (1 ≤ a ∧ a ≤ 9) ∨ 38 ≤ a) : ¬ Fc a := by unfold Fc; omega
def Fm (p q : Nat) (h h1 : Hp) : Prop := am_n h1 = am_n h + p ∧ am_z h1 = am_z h + q ∧ (∀ a, a < am_n h → am_k h1 a = am_k h a ∧ am_l h1 a = am_l h a) ∧ ∀ a, Fc a → a < am_n h → am_i h1 a = am_i h a ∧ am_r h1 a = am_r h a
section FMS
variable {p q : Nat} {h h1 h2 : Hp}
theorem Fm.rfl' (h : Hp) : Fm 0 0 h h := ⟨rfl, rfl, fun _ _ => ⟨rfl, rfl⟩, fun _ _ _ => ⟨rfl, rfl⟩⟩
theorem Fm.setI (x : Fm p q h h1) {a : Nat} (k : Nat) (v : Int32) (ha : ¬ Fc a) : Fm p q h (am_setI h1 a k v) :=
  ⟨x.1, x.2.1, x.2.2.1, fun b hb hn => ⟨(am_ix_ne (fun z => ha (by rw [← z]; exact hb))).trans (x.2.2.2 b hb hn).1, (x.2.2.2 b hb hn).2⟩⟩
theorem Fm.setR (x : Fm p q h h1) {a : Nat} (k : Nat) (v : Option Nat) (ha : ¬ Fc a) : Fm p q h (am_setR h1 a k v) :=
  ⟨x.1, x.2.1, x.2.2.1, fun b hb hn => ⟨(x.2.2.2 b hb hn).1, by funext j; rw [am_r_setR, if_neg (fun z => ha (by rw [← z.1]; exact hb)), (x.2.2.2 b hb hn).2]⟩⟩
theorem Fm.new (x : Fm p q h h1) (K N Z : Nat) : Fm (p + 1) (q + Z) h (am_new h1 K N Z) := by
  have e := Ext.new h1 K N Z
  refine ⟨?_, ?_, fun a ha => ?_, fun a hf ha => ?_⟩
  · show am_n h1 + 1 = _; rw [x.1]; omega
  · show am_z h1 + Z = _; rw [x.2.1]; omega
  · have := e.2 a (by rw [x.1]; omega)
    exact ⟨this.1.trans (x.2.2.1 a ha).1, this.2.1.trans (x.2.2.1 a ha).2⟩
  · have := e.2 a (by rw [x.1]; omega)
    exact ⟨this.2.2.1.trans (x.2.2.2 a hf ha).1, this.2.2.2.trans (x.2.2.2 a hf ha).2⟩
theorem Fm.scr (x : Scr h h1) : Fm 0 0 h h1 := ⟨x.1, x.2.1, fun a _ => ⟨by rw [x.2.2.1], by rw [x.2.2.2.1]⟩, fun a hf _ => ⟨x.2.2.2.2.1 a (by unfold Fc at hf; omega), x.2.2.2.2.2 a (by unfold Fc at hf; omega)⟩⟩
theorem mo_rng : ∀ q ∈ mo_tab, 10 ≤ q.2.1 ∧ q.2.1 ≤ 37 := by decide
theorem Fm.mok (x : Fm p q h h1) (hM : MOK h) : MOK h1 := by
  obtain ⟨m1, m2, m3⟩ := hM
  refine ⟨by rw [x.1]; omega, (x.2.2.1 10 (by omega)).1.trans m2, fun w hw => ?_⟩
  obtain ⟨a, b, c⟩ := m3 w hw
  have r := mo_rng w hw
  exact ⟨by rw [(x.2.2.2 10 (Or.inr (by omega)) (by omega)).2]; exact a, (x.2.2.1 _ (by omega)).1.trans b, (x.2.2.1 _ (by omega)).2.trans c⟩
end FMS
def Scp (L : Nat) (xs : Nat → Int32) (h : Hp) : Prop := am_k h 0 = 7 ∧ am_l h 0 = L ∧ am_i h 0 = xs
/-- what holds between two calls -/
def IV (L : Nat) (xs : Nat → Int32) (S : St) (h : Hp) : Prop := MOK h ∧ CR S h ∧ MW S ∧ SI S ∧ (∀ a, 10 ≤ a → a ≤ 37 → am_i h a = S a) ∧ Scp L xs h
/-- a call of the class and the same of the reference answer alike, and all holds again -/
def OpK (y5 y6 : Nat) (as : List Value) (L : Nat) (xs : Nat → Int32) (h : Hp) : Prop := ∃ (v : Int32) (S' : St) (h1 h2 : Hp), Res 7 y5 (.ref 1 :: as) h (some (.int v)) h1 ∧ (Scp L xs h1 ∧ Ob h1 10 6 ∧ 0 < am_n h1) ∧ Res 7 y6 (.ref 10 :: as) h1 (some (.int v)) h2 ∧ IV L xs S' h2 ∧ am_n h2 ≤ am_n h + 2 ∧ am_z h2 ≤ am_z h + 15
theorem op_mk {L : Nat} {xs : Nat → Int32} {S S' : St} {h h1 : Hp} (hI : IV L xs S h) {y5 y6 : Nat} {as : List Value} {v : Int32} {p q : Nat} (hc : Res 7 y5 (.ref 1 :: as) h (some (.int v)) h1) (hF : Fm p q h h1) (hp : p ≤ 2) (hq : q ≤ 15) (hR' : CR S' h1) (hr : MOK h1 → Res 7 y6 (.ref 10 :: as) (am_wi h1 S) (some (.int v)) (am_wi h1 S')) (hS : MW S' ∧ SI S') : OpK y5 y6 as L xs h := by
  obtain ⟨hM, hR, hW, hSI, hrow, hsc⟩ := hI
  have hM1 := hF.mok hM
  have n38 := hM.1
  have e1 : am_wi h1 S = h1 := am_wi_self (fun a a1 a2 => (hF.2.2.2 a (Or.inr ⟨a1, a2⟩) (by omega)).1.trans (hrow a a1 a2))
  have sc1 : Scp L xs h1 := ⟨(hF.2.2.1 0 (by omega)).1.trans hsc.1, (hF.2.2.1 0 (by omega)).2.trans hsc.2.1, (hF.2.2.2 0 (Or.inl rfl) (by omega)).1.trans hsc.2.2⟩
  have r6 := hr hM1
  rw [e1] at r6
  refine ⟨v, S', h1, am_wi h1 S', hc, ⟨sc1, hM1.ob, by have := hM1.1; omega⟩, r6, ⟨hM1, hR'.wi S', hS.1, hS.2, fun a a1 a2 => am_wi_row a1 a2, ⟨sc1.1, sc1.2.1, ?_⟩⟩, ?_, ?_⟩
  · rw [am_wi_off (by omega)]; exact sc1.2.2
  · show am_n h1 ≤ _; rw [hF.1]; omega
  · show am_z h1 ≤ _; rw [hF.2.1]; omega
/-- a call that only reads -/
theorem op_rd {L : Nat} {xs : Nat → Int32} {S : St} {h : Hp} (hI : IV L xs S h) {y5 y6 : Nat} {as : List Value} {v : Int32} (hc : Res 7 y5 (.ref 1 :: as) h (some (.int v)) h) (hr : MOK h → Res 7 y6 (.ref 10 :: as) (am_wi h S) (some (.int v)) (am_wi h S)) : OpK y5 y6 as L xs h :=
  op_mk hI hc (Fm.rfl' h) (by decide) (by decide) hI.2.1 hr ⟨hI.2.2.1, hI.2.2.2.1⟩
theorem ix_cases (n : Nat) (x : Int32) : (∃ c, c < n ∧ x = nI c) ∨ ∀ c, c < n → ¬ x = nI c := by
  by_cases h : ∃ c, c < n ∧ x = nI c
  · exact Or.inl h
  · exact Or.inr (fun c hc e => h ⟨c, hc, e⟩)
section OPS
variable {L : Nat} {xs : Nat → Int32} {S : St} {h : Hp}
/-! the calls that read -/
theorem op_count (hI : IV L xs S h) (w : Int32) : OpK nX5_count nX6_count [.int w] L xs h := by
  obtain ⟨hM, hR, hW, hSI, -⟩ := id hI
  exact op_rd hI (bX5_count 4 hR hW w (loads_eq hSI.oa hW)) (fun m => rX6_count 5 m S hW w)
theorem op_misfit (hI : IV L xs S h) : OpK nX5_misfit nX6_misfit [] L xs h := by
  obtain ⟨hM, hR, hW, hSI, -⟩ := id hI
  exact op_rd hI (bX5_misfit 3 hR hW hSI.sr hSI.oa) (fun m => rX6_misfit 4 m S hW (fun t ht h0 => ⟨_, by have := (hSI.oa t ht h0).2; have := hW.2.1.2; omega, (hSI.oa t ht h0).1⟩))
theorem op_means (hI : IV L xs S h) (x : Int32) : OpK nX5_means nX6_means [.int x] L xs h := by
  obtain ⟨hM, hR, hW, hSI, -⟩ := id hI
  rcases ix_cases (cC S) x with ⟨c, hc, rfl⟩ | hx
  · exact op_rd hI (bX5_means 3 hR hW c hc (hSI.ti hc)) (fun m => rX6_means 4 m S hW c hc)
  · exact op_rd hI (bX5_means_out 3 hR hW x hx) (fun m => rX6_means_out 4 m S hW x hx)
theorem op_thing (hI : IV L xs S h) (x w : Int32) : OpK nX5_thing nX6_thing [.int x, .int w] L xs h := by
  obtain ⟨hM, hR, hW, hSI, -⟩ := id hI
  rcases ix_cases (cT S) x with ⟨t, ht, rfl⟩ | hx
  · by_cases h0 : S 26 t = 0
    · exact op_rd hI (bX5_thing_in 3 hR hW hSI.sr hSI.oa t w ht h0) (fun m => rX6_thing_in 4 m S hW t w ht (hSI.oa t ht))
    · exact op_rd hI (bX5_thing_inN 3 hR hW hSI.sr hSI.oa t w ht h0) (fun m => rX6_thing_in 4 m S hW t w ht (hSI.oa t ht))
  · exact op_rd hI (bX5_thing_out 3 hR hW x w hx) (fun m => rX6_thing_out 4 m S hW x w hx)
theorem op_shelfOf (hI : IV L xs S h) (x w : Int32) : OpK nX5_shelfOf nX6_shelfOf [.int x, .int w] L xs h := by
  obtain ⟨hM, hR, hW, hSI, -⟩ := id hI
  rcases ix_cases (cS S) x with ⟨t, ht, rfl⟩ | hx
  · exact op_rd hI (bX5_shelfOf 4 hR hW t w ht) (fun m => rX6_shelfOf_in 5 m S hW t w ht)
  · exact op_rd hI (bX5_shelfOf_out 4 hR hW x w hx) (fun m => rX6_shelfOf_out 5 m S hW x w hx)
theorem op_claimOf (hI : IV L xs S h) (x w : Int32) : OpK nX5_claimOf nX6_claimOf [.int x, .int w] L xs h := by
  obtain ⟨hM, hR, hW, hSI, -⟩ := id hI
  rcases ix_cases (cC S) x with ⟨c, hc, rfl⟩ | hx
  · exact op_rd hI (bX5_claimOf 4 hR hW c w hc (hSI.ti hc)) (fun m => rX6_claimOf_in 4 m S hW c w hc)
  · exact op_rd hI (bX5_claimOf_out 4 hR hW x w hx) (fun m => rX6_claimOf_out 4 m S hW x w hx)
theorem op_fee (hI : IV L xs S h) (x : Int32) : OpK nX5_fee nX6_fee [.int x] L xs h := by
  obtain ⟨hM, hR, hW, hSI, -⟩ := id hI
  rcases thOf_cases hW x with hx | ⟨t, ht, hx⟩
  · rcases sThOf_out hW hx with ⟨a, b⟩ | ⟨a, b, c⟩
    · exact op_rd hI (bX5_fee_out2 3 hR hW x a) (fun m => by rw [← b]; exact rX6_fee_out 4 m S hW x hx)
    · exact op_rd hI (bX5_fee_out3 3 hR hW x a c) (fun m => by rw [← b]; exact rX6_fee_out 4 m S hW x hx)
  · obtain ⟨f1, f2, f3⟩ := hSI.fw ht
    exact op_rd hI (bX5_fee 3 hR hW x t ht hx f1 f2 f3) (fun m => rX6_fee_in 4 m S hW x t ht hx f1 f2)
theorem op_ask (hI : IV L xs S h) (x : Int32) : OpK nX5_ask nX6_ask [.int x] L xs h := by
  obtain ⟨hM, hR, hW, hSI, -⟩ := id hI
  rcases ix_cases (cC S) x with ⟨c, hc, rfl⟩ | hx
  · by_cases h0 : S 34 c = 0 ∧ 2 ≤ sMeans S c (cT S)
    · obtain ⟨rv, g, ⟨e, sc⟩, r⟩ := bX5_ask_yes 3 hR hW c hc (hSI.ti hc) h0.1 h0.2
      subst e
      exact op_mk hI r (Fm.scr sc) (by decide) (by decide) (hR.scr sc) (fun m => rX6_ask_yes 3 m S hW c hc h0.1 h0.2) ⟨hW, hSI⟩
    · exact op_rd hI (bX5_ask_no 3 hR hW c hc (hSI.ti hc) h0) (fun m => rX6_ask_no 3 m S hW c hc h0)
  · exact op_rd hI (bX5_ask_out 3 hR hW x hx) (fun m => rX6_ask_out 3 m S hW x hx)
theorem op_least (hI : IV L xs S h) : OpK nX5_least nX6_least [] L xs h := by
  obtain ⟨hM, hR, hW, hSI, -⟩ := id hI
  obtain ⟨rv, g, ⟨sc, hv⟩, r⟩ := bX5_least 2 hR hW hSI.lr hSI.oa hSI.vl
  have hM1 := (Fm.scr sc).mok hM
  obtain ⟨rv2, g2, ⟨S', ag, eg, hv2⟩, r2⟩ := rX6_least 4 hM1 S hW hSI.lr hSI.oa hSI.vl
  subst eg
  have e : ∃ v, rv = some (.int v) ∧ rv2 = some (.int v) := by
    rcases hv with ⟨a, b⟩ | ⟨a, v, b, c⟩
    · rcases hv2 with ⟨a2, b2⟩ | ⟨a2, _⟩
      · exact ⟨_, b, b2⟩
      · omega
    · rcases hv2 with ⟨a2, _⟩ | ⟨a2, v2, b2, c2⟩
      · omega
      · refine ⟨_, c, ?_⟩
        rw [c2, b.un b2, Int32.add_comm]
  obtain ⟨v, e1, e2⟩ := e
  subst e1
  subst e2
  have hk := hSI.scal (S' := S') hW ⟨by rw [ag 10 (by decide)], by rw [ag 10 (by decide)], by rw [ag 10 (by decide)], by rw [ag 10 (by decide)], by rw [ag 10 (by decide)]⟩ (fun a _ _ c => ag a (by omega))
  exact op_mk hI r (Fm.scr sc) (by decide) (by decide) ((hR.scr sc).rows (fun k => by rw [ag 10 (by decide)]) (fun a k a1 a2 _ => by rw [ag a (by omega)])) (fun _ => r2) hk
end OPS
