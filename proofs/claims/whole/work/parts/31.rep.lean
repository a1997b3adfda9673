/-! THE CLASS: how its cells show S -/
def RG (x : Int32) (m : Nat) : Prop := x = nI x.toNatClampNeg ∧ x.toNatClampNeg ≤ m
theorem RG.le {x : Int32} {m : Nat} (h : RG x m) : x.toNatClampNeg ≤ m := h.2
theorem RG.of {n m : Nat} (h : n ≤ m) (hm : m < 2 ^ 31) : RG (nI n) m := by
  have e : (nI n).toNatClampNeg = n := nI_clamp (by omega)
  exact ⟨by rw [e], by rw [e]; exact h⟩
theorem cWant_eq {due now : Int32} (h1 : RG due 100000) (h2 : RG now 100000) : cWant due now = (if 98 < (if now < due then (due - now) / 60 else 0) then 99 else 1 + (if now < due then (due - now) / 60 else 0)) := by
  obtain ⟨e1, b1⟩ := h1
  obtain ⟨e2, b2⟩ := h2
  generalize due.toNatClampNeg = x at e1 b1
  generalize now.toNatClampNeg = y at e2 b2
  subst e1
  subst e2
  unfold cWant
  by_cases h : y < x
  · have l1 : nI y < nI x := nI_lt h (by omega)
    rw [if_pos l1, pk_sub (by omega)]
    have l2 : ¬ nI (x - y) < 0 := nI_pos (by omega)
    rw [show mx (nI (x - y)) 0 = nI (x - y) from if_neg l2, show (60 : Int32) = nI 60 from rfl, pk_div (by omega) (by decide) (by decide), show (98 : Int32) = nI 98 from rfl, show (99 : Int32) = nI 99 from rfl]
    have e3 : (1 : Int32) + nI ((x - y) / 60) = nI ((x - y) / 60 + 1) := by rw [Int32.add_comm]; exact nI_1 _
    rw [e3]
    have hb : (x - y) / 60 ≤ 100000 := Nat.le_trans (Nat.div_le_self _ _) (by omega)
    by_cases q : 98 < (x - y) / 60
    · rw [if_pos (nI_lt q (by omega))]
      exact if_pos (nI_lt (by omega) (by omega)) |>.trans rfl
    · rw [if_neg (nI_nlt (by omega) (by omega))]
      exact if_neg (nI_nlt (by omega) (by omega))
  · have l1 : ¬ nI y < nI x := nI_nlt (by omega) (by omega)
    rw [if_neg l1]
    have l2 : mx (nI x - nI y) 0 = 0 := by
      by_cases q : x = y
      · subst q; rw [Int32.sub_self]; rfl
      · exact if_pos (pk_sneg (by omega) (by omega))
    rw [l2]
    decide
theorem ab_gap {a b : Int32} (h1 : RG a 1000) (h2 : RG b 1000) : ab (a - b) = sGap a b := by
  obtain ⟨e1, b1⟩ := h1
  obtain ⟨e2, b2⟩ := h2
  generalize a.toNatClampNeg = x at e1 b1
  generalize b.toNatClampNeg = y at e2 b2
  subst e1
  subst e2
  unfold sGap
  by_cases h : y < x
  · rw [if_pos (nI_lt h (by omega)), pk_sub (by omega)]
    exact if_pos (nI_pos' (by omega))
  · rw [if_neg (nI_nlt (by omega) (by omega)), pk_sub (a := y) (b := x) (by omega)]
    by_cases q : x = y
    · subst q; rw [Int32.sub_self, Nat.sub_self]; decide
    · have l : nI x - nI y < 0 := pk_sneg (by omega) (by omega)
      rw [show ab (nI x - nI y) = 0 - (nI x - nI y) from if_neg (Int32.not_le.mpr l), ← pk_sub (a := y) (b := x) (by omega)]
      rw [Int32.zero_sub, Int32.neg_sub]
theorem sWant_RG {S : St} {t : Nat} (h1 : RG (S 24 t) 100000) (h2 : RG (S 10 0) 100000) : RG (sWant S t) 99 := by
  unfold sWant
  split
  · exact RG.of (n := 99) (by omega) (by decide)
  · rename_i q
    have hh : ∃ n, sHrs S t = nI n ∧ n ≤ 100000 := by
      unfold sHrs
      split
      · rename_i l
        obtain ⟨e1, b1⟩ := h1
        obtain ⟨e2, b2⟩ := h2
        rw [e1, e2] at l ⊢
        rw [nI_ltI (by omega) (by omega)] at l
        rw [pk_sub (by omega), show (60 : Int32) = nI 60 from rfl, pk_div (by omega) (by decide) (by decide)]
        exact ⟨_, rfl, Nat.le_trans (Nat.div_le_self _ _) (by omega)⟩
      · exact ⟨0, rfl, by omega⟩
    obtain ⟨n, e, hn⟩ := hh
    rw [e] at q ⊢
    have hn2 : n ≤ 98 := by
      rcases Nat.lt_or_ge 98 n with z | z
      · exact absurd (show (98 : Int32) < nI n from nI_lt z (by omega)) q
      · exact z
    rw [Int32.add_comm, nI_1]
    exact RG.of (by omega) (by decide)
/-- the ranges that make the two ways of counting misfits the same -/
def SR (S : St) : Prop := RG (S 10 0) 100000 ∧ (∀ t, t < cT S → RG (S 24 t) 100000) ∧ ∀ s, s < cS S → RG (S 18 s) 99
theorem cMis_eq {S : St} {t s : Nat} (hS : SR S) (ht : t < cT S) (hs : s < cS S) : cMis (S 18 s) (S 24 t) (S 10 0) = sMis S t s := by
  unfold cMis sMis
  have e : cWant (S 24 t) (S 10 0) = sWant S t := cWant_eq (hS.2.1 t ht) hS.1
  rw [e]
  have h1 := hS.2.2 s hs
  have h2 := sWant_RG (hS.2.1 t ht) hS.1
  exact ab_gap ⟨h1.1, by have := h1.2; omega⟩ ⟨h2.1, by have := h2.2; omega⟩
def shA (h : Hp) (k : Nat) : Nat := (am_r h 2 k).getD 0
def thA (h : Hp) (k : Nat) : Nat := (am_r h 3 k).getD 0
def clA (h : Hp) (k : Nat) : Nat := (am_r h 4 k).getD 0
def roA (h : Hp) (k : Nat) : Nat := (am_r h 5 k).getD 0
def toA (h : Hp) (k : Nat) : Nat := (am_r h (clA h k) 0).getD 0
def COK (h : Hp) : Prop := Ob h 1 5 ∧ (am_r h 1 0 = some 2 ∧ Ar h 2 9 16) ∧ (am_r h 1 2 = some 3 ∧ Ar h 3 10 120) ∧ (am_r h 1 4 = some 4 ∧ Ar h 4 11 40) ∧ (am_r h 1 6 = some 5 ∧ Ar h 5 12 12) ∧ (am_r h 1 8 = some 6 ∧ Ar h 6 7 16) ∧ (am_r h 1 9 = some 7 ∧ Ob h 7 0) ∧ (am_r h 7 0 = some 8 ∧ Ar h 8 10 5) ∧ am_r h 7 1 = some 9 ∧ Ar h 9 7 32
theorem COK.ob {h : Hp} (x : COK h) : Ob h 1 5 := x.1
theorem COK.r0 {h : Hp} (x : COK h) : am_r h 1 0 = some 2 := x.2.1.1
theorem COK.a2 {h : Hp} (x : COK h) : Ar h 2 9 16 := x.2.1.2
theorem COK.r2 {h : Hp} (x : COK h) : am_r h 1 2 = some 3 := x.2.2.1.1
theorem COK.a3 {h : Hp} (x : COK h) : Ar h 3 10 120 := x.2.2.1.2
theorem COK.r4 {h : Hp} (x : COK h) : am_r h 1 4 = some 4 := x.2.2.2.1.1
theorem COK.a4 {h : Hp} (x : COK h) : Ar h 4 11 40 := x.2.2.2.1.2
theorem COK.r6 {h : Hp} (x : COK h) : am_r h 1 6 = some 5 := x.2.2.2.2.1.1
theorem COK.a5 {h : Hp} (x : COK h) : Ar h 5 12 12 := x.2.2.2.2.1.2
theorem COK.r8 {h : Hp} (x : COK h) : am_r h 1 8 = some 6 := x.2.2.2.2.2.1.1
theorem COK.a6 {h : Hp} (x : COK h) : Ar h 6 7 16 := x.2.2.2.2.2.1.2
theorem COK.r9 {h : Hp} (x : COK h) : am_r h 1 9 = some 7 := x.2.2.2.2.2.2.1.1
theorem COK.o7 {h : Hp} (x : COK h) : Ob h 7 0 := x.2.2.2.2.2.2.1.2
theorem COK.q0 {h : Hp} (x : COK h) : am_r h 7 0 = some 8 := x.2.2.2.2.2.2.2.1.1
theorem COK.a8 {h : Hp} (x : COK h) : Ar h 8 10 5 := x.2.2.2.2.2.2.2.1.2
theorem COK.q1 {h : Hp} (x : COK h) : am_r h 7 1 = some 9 := x.2.2.2.2.2.2.2.2.1
theorem COK.a9 {h : Hp} (x : COK h) : Ar h 9 7 32 := x.2.2.2.2.2.2.2.2.2
def CSc (S : St) (h : Hp) : Prop := am_i h 1 1 = S 10 11 ∧ am_i h 1 3 = S 10 12 ∧ am_i h 1 5 = S 10 29 ∧ am_i h 1 7 = S 10 5 ∧ am_i h 1 10 = S 10 0 ∧ am_i h 1 11 = S 10 1 ∧ am_i h 1 12 = S 10 2 ∧ am_i h 1 13 = S 10 3 ∧ am_i h 1 14 = S 10 4
def CSh (S : St) (h : Hp) (k : Nat) : Prop := am_r h 2 k = some (shA h k) ∧ 38 ≤ shA h k ∧ Ob h (shA h k) 3 ∧ am_i h (shA h k) 0 = nI k ∧ am_i h (shA h k) 1 = S 16 k ∧ am_i h (shA h k) 2 = S 17 k ∧ am_i h (shA h k) 3 = S 19 k ∧ am_i h (shA h k) 4 = S 18 k ∧ am_i h (shA h k) 5 = sFree S k (cT S) ∧ am_i h (shA h k) 6 = sLoad S k (cT S) ∧ am_i h (shA h k) 7 = S 20 k
def CTh (S : St) (h : Hp) (k : Nat) : Prop := am_r h 3 k = some (thA h k) ∧ 38 ≤ thA h k ∧ Ob h (thA h k) 4 ∧ am_i h (thA h k) 0 = S 21 k ∧ am_i h (thA h k) 1 = S 22 k ∧ am_i h (thA h k) 2 = S 30 k ∧ am_i h (thA h k) 3 = S 31 k ∧ am_i h (thA h k) 4 = S 23 k ∧ am_i h (thA h k) 5 = S 24 k ∧ am_i h (thA h k) 6 = S 25 k ∧ am_i h (thA h k) 7 = S 26 k ∧ am_i h (thA h k) 9 = S 28 k ∧ am_i h (thA h k) 10 = S 29 k ∧ am_r h (thA h k) 8 = (if S 26 k = 0 then some (shA h (onN S k)) else none)
def CCl (S : St) (h : Hp) (k : Nat) : Prop := am_r h 4 k = some (clA h k) ∧ 38 ≤ clA h k ∧ Ob h (clA h k) 1 ∧ am_i h (clA h k) 1 = S 34 k ∧ am_i h (clA h k) 2 = S 33 k ∧ am_r h (clA h k) 0 = some (toA h k) ∧ 38 ≤ toA h k ∧ Ar h (toA h k) 7 4 ∧ ∀ j, j < 4 → am_i h (toA h k) j = S 32 (4 * k + j)
def CRo (S : St) (h : Hp) (k : Nat) : Prop := am_r h 5 k = some (roA h k) ∧ 38 ≤ roA h k ∧ Ob h (roA h k) 2 ∧ am_i h (roA h k) 0 = S 11 k ∧ am_i h (roA h k) 1 = S 12 k ∧ am_i h (roA h k) 2 = S 13 k ∧ am_i h (roA h k) 3 = S 14 k ∧ am_i h (roA h k) 4 = S 15 k
/-- no two things share a cell .. -/
def CAp (S : St) (h : Hp) : Prop := (∀ a b, a < cS S → b < cS S → shA h a = shA h b → a = b) ∧ (∀ a b, a < cT S → b < cT S → thA h a = thA h b → a = b) ∧ (∀ a b, a < cC S → b < cC S → clA h a = clA h b → a = b) ∧ ∀ a b, a < cC S → b < cC S → toA h a = toA h b → a = b
def CR (S : St) (h : Hp) : Prop := COK h ∧ CSc S h ∧ (∀ k, k < cS S → CSh S h k) ∧ (∀ k, k < cT S → CTh S h k) ∧ (∀ k, k < cC S → CCl S h k) ∧ (∀ k, k < cR S → CRo S h k) ∧ CAp S h
theorem CR.c1 {S : St} {h : Hp} (x : CR S h) : am_i h 1 1 = S 10 11 := x.2.1.1
theorem CR.c3 {S : St} {h : Hp} (x : CR S h) : am_i h 1 3 = S 10 12 := x.2.1.2.1
theorem CR.c5 {S : St} {h : Hp} (x : CR S h) : am_i h 1 5 = S 10 29 := x.2.1.2.2.1
theorem CR.c7 {S : St} {h : Hp} (x : CR S h) : am_i h 1 7 = S 10 5 := x.2.1.2.2.2.1
theorem CR.c10 {S : St} {h : Hp} (x : CR S h) : am_i h 1 10 = S 10 0 := x.2.1.2.2.2.2.1
theorem CR.c11 {S : St} {h : Hp} (x : CR S h) : am_i h 1 11 = S 10 1 := x.2.1.2.2.2.2.2.1
theorem CR.c12 {S : St} {h : Hp} (x : CR S h) : am_i h 1 12 = S 10 2 := x.2.1.2.2.2.2.2.2.1
theorem CR.c13 {S : St} {h : Hp} (x : CR S h) : am_i h 1 13 = S 10 3 := x.2.1.2.2.2.2.2.2.2.1
theorem CR.c14 {S : St} {h : Hp} (x : CR S h) : am_i h 1 14 = S 10 4 := x.2.1.2.2.2.2.2.2.2.2
theorem CR.sh_r {S : St} {h : Hp} (x : CR S h) (k : Nat) (hk : k < cS S) : am_r h 2 k = some (shA h k) := (x.2.2.1 k hk).1
theorem CR.sh_38 {S : St} {h : Hp} (x : CR S h) (k : Nat) (hk : k < cS S) : 38 ≤ shA h k := (x.2.2.1 k hk).2.1
theorem CR.sh_ob {S : St} {h : Hp} (x : CR S h) (k : Nat) (hk : k < cS S) : Ob h (shA h k) 3 := (x.2.2.1 k hk).2.2.1
theorem CR.sh0 {S : St} {h : Hp} (x : CR S h) (k : Nat) (hk : k < cS S) : am_i h (shA h k) 0 = nI k := (x.2.2.1 k hk).2.2.2.1
theorem CR.sh1 {S : St} {h : Hp} (x : CR S h) (k : Nat) (hk : k < cS S) : am_i h (shA h k) 1 = S 16 k := (x.2.2.1 k hk).2.2.2.2.1
theorem CR.sh2 {S : St} {h : Hp} (x : CR S h) (k : Nat) (hk : k < cS S) : am_i h (shA h k) 2 = S 17 k := (x.2.2.1 k hk).2.2.2.2.2.1
theorem CR.sh3 {S : St} {h : Hp} (x : CR S h) (k : Nat) (hk : k < cS S) : am_i h (shA h k) 3 = S 19 k := (x.2.2.1 k hk).2.2.2.2.2.2.1
theorem CR.sh4 {S : St} {h : Hp} (x : CR S h) (k : Nat) (hk : k < cS S) : am_i h (shA h k) 4 = S 18 k := (x.2.2.1 k hk).2.2.2.2.2.2.2.1
theorem CR.sh5 {S : St} {h : Hp} (x : CR S h) (k : Nat) (hk : k < cS S) : am_i h (shA h k) 5 = sFree S k (cT S) := (x.2.2.1 k hk).2.2.2.2.2.2.2.2.1
theorem CR.sh6 {S : St} {h : Hp} (x : CR S h) (k : Nat) (hk : k < cS S) : am_i h (shA h k) 6 = sLoad S k (cT S) := (x.2.2.1 k hk).2.2.2.2.2.2.2.2.2.1
theorem CR.sh7 {S : St} {h : Hp} (x : CR S h) (k : Nat) (hk : k < cS S) : am_i h (shA h k) 7 = S 20 k := (x.2.2.1 k hk).2.2.2.2.2.2.2.2.2.2
theorem CR.th_r {S : St} {h : Hp} (x : CR S h) (k : Nat) (hk : k < cT S) : am_r h 3 k = some (thA h k) := (x.2.2.2.1 k hk).1
theorem CR.th_38 {S : St} {h : Hp} (x : CR S h) (k : Nat) (hk : k < cT S) : 38 ≤ thA h k := (x.2.2.2.1 k hk).2.1
theorem CR.th_ob {S : St} {h : Hp} (x : CR S h) (k : Nat) (hk : k < cT S) : Ob h (thA h k) 4 := (x.2.2.2.1 k hk).2.2.1
theorem CR.th0 {S : St} {h : Hp} (x : CR S h) (k : Nat) (hk : k < cT S) : am_i h (thA h k) 0 = S 21 k := (x.2.2.2.1 k hk).2.2.2.1
theorem CR.th1 {S : St} {h : Hp} (x : CR S h) (k : Nat) (hk : k < cT S) : am_i h (thA h k) 1 = S 22 k := (x.2.2.2.1 k hk).2.2.2.2.1
theorem CR.th2 {S : St} {h : Hp} (x : CR S h) (k : Nat) (hk : k < cT S) : am_i h (thA h k) 2 = S 30 k := (x.2.2.2.1 k hk).2.2.2.2.2.1
theorem CR.th3 {S : St} {h : Hp} (x : CR S h) (k : Nat) (hk : k < cT S) : am_i h (thA h k) 3 = S 31 k := (x.2.2.2.1 k hk).2.2.2.2.2.2.1
theorem CR.th4 {S : St} {h : Hp} (x : CR S h) (k : Nat) (hk : k < cT S) : am_i h (thA h k) 4 = S 23 k := (x.2.2.2.1 k hk).2.2.2.2.2.2.2.1
theorem CR.th5 {S : St} {h : Hp} (x : CR S h) (k : Nat) (hk : k < cT S) : am_i h (thA h k) 5 = S 24 k := (x.2.2.2.1 k hk).2.2.2.2.2.2.2.2.1
theorem CR.th6 {S : St} {h : Hp} (x : CR S h) (k : Nat) (hk : k < cT S) : am_i h (thA h k) 6 = S 25 k := (x.2.2.2.1 k hk).2.2.2.2.2.2.2.2.2.1
theorem CR.th7 {S : St} {h : Hp} (x : CR S h) (k : Nat) (hk : k < cT S) : am_i h (thA h k) 7 = S 26 k := (x.2.2.2.1 k hk).2.2.2.2.2.2.2.2.2.2.1
theorem CR.th9 {S : St} {h : Hp} (x : CR S h) (k : Nat) (hk : k < cT S) : am_i h (thA h k) 9 = S 28 k := (x.2.2.2.1 k hk).2.2.2.2.2.2.2.2.2.2.2.1
theorem CR.th10 {S : St} {h : Hp} (x : CR S h) (k : Nat) (hk : k < cT S) : am_i h (thA h k) 10 = S 29 k := (x.2.2.2.1 k hk).2.2.2.2.2.2.2.2.2.2.2.2.1
theorem CR.th_p {S : St} {h : Hp} (x : CR S h) (k : Nat) (hk : k < cT S) : am_r h (thA h k) 8 = (if S 26 k = 0 then some (shA h (onN S k)) else none) := (x.2.2.2.1 k hk).2.2.2.2.2.2.2.2.2.2.2.2.2
theorem CR.cl_r {S : St} {h : Hp} (x : CR S h) (k : Nat) (hk : k < cC S) : am_r h 4 k = some (clA h k) := (x.2.2.2.2.1 k hk).1
theorem CR.cl_38 {S : St} {h : Hp} (x : CR S h) (k : Nat) (hk : k < cC S) : 38 ≤ clA h k := (x.2.2.2.2.1 k hk).2.1
theorem CR.cl_ob {S : St} {h : Hp} (x : CR S h) (k : Nat) (hk : k < cC S) : Ob h (clA h k) 1 := (x.2.2.2.2.1 k hk).2.2.1
theorem CR.cl1 {S : St} {h : Hp} (x : CR S h) (k : Nat) (hk : k < cC S) : am_i h (clA h k) 1 = S 34 k := (x.2.2.2.2.1 k hk).2.2.2.1
theorem CR.cl2 {S : St} {h : Hp} (x : CR S h) (k : Nat) (hk : k < cC S) : am_i h (clA h k) 2 = S 33 k := (x.2.2.2.2.1 k hk).2.2.2.2.1
theorem CR.cl_t {S : St} {h : Hp} (x : CR S h) (k : Nat) (hk : k < cC S) : am_r h (clA h k) 0 = some (toA h k) := (x.2.2.2.2.1 k hk).2.2.2.2.2.1
theorem CR.cl_t38 {S : St} {h : Hp} (x : CR S h) (k : Nat) (hk : k < cC S) : 38 ≤ toA h k := (x.2.2.2.2.1 k hk).2.2.2.2.2.2.1
theorem CR.cl_ta {S : St} {h : Hp} (x : CR S h) (k : Nat) (hk : k < cC S) : Ar h (toA h k) 7 4 := (x.2.2.2.2.1 k hk).2.2.2.2.2.2.2.1
theorem CR.cl_tv {S : St} {h : Hp} (x : CR S h) (k : Nat) (hk : k < cC S) : ∀ j, j < 4 → am_i h (toA h k) j = S 32 (4 * k + j) := (x.2.2.2.2.1 k hk).2.2.2.2.2.2.2.2
theorem CR.ro_r {S : St} {h : Hp} (x : CR S h) (k : Nat) (hk : k < cR S) : am_r h 5 k = some (roA h k) := (x.2.2.2.2.2.1 k hk).1
theorem CR.ro_38 {S : St} {h : Hp} (x : CR S h) (k : Nat) (hk : k < cR S) : 38 ≤ roA h k := (x.2.2.2.2.2.1 k hk).2.1
theorem CR.ro_ob {S : St} {h : Hp} (x : CR S h) (k : Nat) (hk : k < cR S) : Ob h (roA h k) 2 := (x.2.2.2.2.2.1 k hk).2.2.1
theorem CR.ro0 {S : St} {h : Hp} (x : CR S h) (k : Nat) (hk : k < cR S) : am_i h (roA h k) 0 = S 11 k := (x.2.2.2.2.2.1 k hk).2.2.2.1
theorem CR.ro1 {S : St} {h : Hp} (x : CR S h) (k : Nat) (hk : k < cR S) : am_i h (roA h k) 1 = S 12 k := (x.2.2.2.2.2.1 k hk).2.2.2.2.1
theorem CR.ro2 {S : St} {h : Hp} (x : CR S h) (k : Nat) (hk : k < cR S) : am_i h (roA h k) 2 = S 13 k := (x.2.2.2.2.2.1 k hk).2.2.2.2.2.1
theorem CR.ro3 {S : St} {h : Hp} (x : CR S h) (k : Nat) (hk : k < cR S) : am_i h (roA h k) 3 = S 14 k := (x.2.2.2.2.2.1 k hk).2.2.2.2.2.2.1
theorem CR.ro4 {S : St} {h : Hp} (x : CR S h) (k : Nat) (hk : k < cR S) : am_i h (roA h k) 4 = S 15 k := (x.2.2.2.2.2.1 k hk).2.2.2.2.2.2.2
