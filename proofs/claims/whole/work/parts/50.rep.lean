/-! THE CLASS: a thing is moved -/
theorem i32_swap3 (a b c : Int32) : a - b - c = a - c - b := by
  rw [Int32.sub_eq_add_neg, Int32.sub_eq_add_neg, Int32.sub_eq_add_neg (a := a - c), Int32.sub_eq_add_neg (a := a), Int32.add_assoc, Int32.add_assoc, Int32.add_comm (-b) (-c)]
theorem sFree_mv {S S' : St} {t o k s : Nat} (h16 : S' 16 s = S 16 s) (h26 : ∀ q, S' 26 q = S 26 q) (h27 : ∀ q, ¬ q = t → S' 27 q = S 27 q) (h21 : ∀ q, S' 21 q = S 21 q) (hi : S 26 t = 0) (ho : S 27 t = nI o) (hk : S' 27 t = nI k) (hok : ¬ nI k = nI o) : ∀ (n : Nat), sFree S' s n = if t < n ∧ nI o = nI s then sFree S s n + S 21 t else if t < n ∧ nI k = nI s then sFree S s n - S 21 t else sFree S s n := by
  intro n
  induction n with
  | zero => rw [if_neg (by omega), if_neg (by omega)]; exact h16
  | succ n ih =>
    have e1 : sFree S' s (n + 1) = if S' 26 n = 0 ∧ S' 27 n = nI s then sFree S' s n - S' 21 n else sFree S' s n := rfl
    have e2 : sFree S s (n + 1) = if S 26 n = 0 ∧ S 27 n = nI s then sFree S s n - S 21 n else sFree S s n := rfl
    by_cases e : n = t
    · subst e
      rw [if_neg (by omega), if_neg (by omega)] at ih
      rw [e1, e2, ih, h26, hk, ho, h21]
      by_cases q : nI o = nI s
      · have q2 : ¬ nI k = nI s := fun z => hok (z.trans q.symm)
        rw [if_neg (fun z => q2 z.2), if_pos ⟨by omega, q⟩, if_pos ⟨hi, q⟩, Int32.sub_add_cancel]
      · rw [if_neg (show ¬ (n < n + 1 ∧ nI o = nI s) from fun z => q z.2), if_neg (show ¬ (S 26 n = 0 ∧ nI o = nI s) from fun z => q z.2)]
        by_cases q2 : nI k = nI s
        · rw [if_pos ⟨hi, q2⟩, if_pos ⟨by omega, q2⟩]
        · rw [if_neg (fun z => q2 z.2), if_neg (fun z => q2 z.2)]
    · rw [e1, e2, h26, h27 n e, h21, ih]
      by_cases q : t < n ∧ nI o = nI s
      · rw [if_pos q, if_pos (show t < n + 1 ∧ nI o = nI s from ⟨by omega, q.2⟩)]
        split
        · exact i32_swap _ _ _
        · rfl
      · rw [if_neg q, if_neg (show ¬ (t < n + 1 ∧ nI o = nI s) from fun z => q ⟨by omega, z.2⟩)]
        by_cases q2 : t < n ∧ nI k = nI s
        · rw [if_pos q2, if_pos (show t < n + 1 ∧ nI k = nI s from ⟨by omega, q2.2⟩)]
          split
          · exact i32_swap3 _ _ _
          · rfl
        · rw [if_neg q2, if_neg (show ¬ (t < n + 1 ∧ nI k = nI s) from fun z => q2 ⟨by omega, z.2⟩)]
theorem sLoad_mv {S S' : St} {t o k s : Nat} (h26 : ∀ q, S' 26 q = S 26 q) (h27 : ∀ q, ¬ q = t → S' 27 q = S 27 q) (hi : S 26 t = 0) (ho : S 27 t = nI o) (hk : S' 27 t = nI k) (hok : ¬ nI k = nI o) : ∀ (n : Nat), sLoad S' s n = if t < n ∧ nI o = nI s then sLoad S s n - 1 else if t < n ∧ nI k = nI s then sLoad S s n + 1 else sLoad S s n := by
  intro n
  induction n with
  | zero => rw [if_neg (by omega), if_neg (by omega)]; rfl
  | succ n ih =>
    have e1 : sLoad S' s (n + 1) = sLoad S' s n + (if S' 26 n = 0 ∧ S' 27 n = nI s then 1 else 0) := rfl
    have e2 : sLoad S s (n + 1) = sLoad S s n + (if S 26 n = 0 ∧ S 27 n = nI s then 1 else 0) := rfl
    by_cases e : n = t
    · subst e
      rw [if_neg (by omega), if_neg (by omega)] at ih
      rw [e1, e2, ih, h26, hk, ho]
      by_cases q : nI o = nI s
      · have q2 : ¬ nI k = nI s := fun z => hok (z.trans q.symm)
        rw [if_neg (fun z => q2 z.2), if_pos ⟨by omega, q⟩, if_pos ⟨hi, q⟩, Int32.add_sub_cancel, Int32.add_zero]
      · rw [if_neg (show ¬ (n < n + 1 ∧ nI o = nI s) from fun z => q z.2), if_neg (show ¬ (S 26 n = 0 ∧ nI o = nI s) from fun z => q z.2)]
        by_cases q2 : nI k = nI s
        · rw [if_pos ⟨hi, q2⟩, if_pos ⟨by omega, q2⟩, Int32.add_zero]
        · rw [if_neg (fun z => q2 z.2), if_neg (fun z => q2 z.2)]
    · rw [e1, e2, h26, h27 n e, ih]
      by_cases q : t < n ∧ nI o = nI s
      · rw [if_pos q, if_pos (show t < n + 1 ∧ nI o = nI s from ⟨by omega, q.2⟩)]
        exact i32_swap2 _ _ _
      · rw [if_neg q, if_neg (show ¬ (t < n + 1 ∧ nI o = nI s) from fun z => q ⟨by omega, z.2⟩)]
        by_cases q2 : t < n ∧ nI k = nI s
        · rw [if_pos q2, if_pos (show t < n + 1 ∧ nI k = nI s from ⟨by omega, q2.2⟩), Int32.add_assoc, Int32.add_assoc, Int32.add_comm 1]
        · rw [if_neg q2, if_neg (show ¬ (t < n + 1 ∧ nI k = nI s) from fun z => q2 ⟨by omega, z.2⟩)]
/-- the heap when a thing has been moved from the shelf s to the shelf k -/
def cMvH (h : Hp) (a s k : Nat) : Hp := cTak (cRel (am_setI h 1 14 (am_i h 1 14 + (am_i h s 4 + am_i h k 4))) s a) k a
section MV
variable {S : St} {h : Hp}
theorem cMvH_i {a s k : Nat} (s1 : ¬ s = 1) (k1 : ¬ k = 1) (sa : ¬ s = a) (ka : ¬ k = a) (sk : ¬ s = k) (a1 : ¬ a = 1) (x j : Nat) : am_i (cMvH h a s k) x j = if x = 1 ∧ j = 14 then am_i h 1 14 + (am_i h s 4 + am_i h k 4) else if x = s ∧ j = 5 then am_i h s 5 + am_i h a 0 else if x = s ∧ j = 6 then am_i h s 6 - 1 else if x = k ∧ j = 5 then am_i h k 5 - am_i h a 0 else if x = k ∧ j = 6 then am_i h k 6 + 1 else am_i h x j := by
  unfold cMvH
  have ks : ¬ k = s := fun z => sk z.symm
  have as : ¬ a = s := fun z => sa z.symm
  have s1' : ¬ 1 = s := fun z => s1 z.symm
  have k1' : ¬ 1 = k := fun z => k1 z.symm
  simp only [cTak_i ka, cRel_i sa, am_i_setI]
  by_cases h1 : x = 1
  · subst h1
    simp only [s1', k1', false_and, if_false]
  · by_cases h2 : x = s
    · subst h2
      simp only [h1, sk, ks, s1, k1, as, true_and, false_and, if_false, a1]
    · by_cases h3 : x = k
      · subst h3
        simp only [h1, h2, sk, s1, k1, as, a1, true_and, false_and, if_false]
      · simp only [h1, h2, h3, false_and, if_false]
theorem cMvH_r {a s k : Nat} (x j : Nat) : am_r (cMvH h a s k) x j = if x = a ∧ j = 8 then some k else am_r h x j := by
  unfold cMvH
  rw [cTak_r, cRel_r]
  by_cases e : x = a ∧ j = 8
  · rw [if_pos e, if_pos e]
  · rw [if_neg e, if_neg e, if_neg e]; rfl
theorem cMvH_Qt {a s k : Nat} (ha : am_k h a = 4) : Qt h (cMvH h a s k) := ((((((Qt.setI h 1 14 _).trans (Qt.setI _ s 5 _)).trans (Qt.setI _ s 6 _)).trans (Qt.setR 8 none ha)).trans (Qt.setI _ k 5 _)).trans (Qt.setI _ k 6 _)).trans (Qt.setR 8 (some k) ha)
def sMvT (S : St) (t k : Nat) : St := up2 (up2 S 10 4 (S 10 4 + (S 18 (onN S t) + S 18 k))) 27 t (nI k)
theorem sMvT_ne {t k a j : Nat} (e1 : ¬ (a = 10 ∧ j = 4)) (e2 : ¬ (a = 27 ∧ j = t)) : sMvT S t k a j = S a j := by unfold sMvT; rw [up2_ne e2, up2_ne e1]
theorem CR.move (hR : CR S h) (hW : MW S) {t k : Nat} (ht : t < cT S) (hin : S 26 t = 0) (hO : OW S t) (hk0 : k < cS S) (hne : ¬ k = onN S t) : CR (sMvT S t k) (cMvH h (thA h t) (shA h (onN S t)) (shA h k)) := by
  have h11 := hW.2.1.2
  have ho := hO.2
  have e1 := hR.th1' ht
  have e2 := hR.shn1 ho
  have e2k := hR.shn1 hk0
  have e3 : ¬ shA h (onN S t) = thA h t := (hR.sh_ob _ ho).ne (hR.th_ob t ht) (by decide)
  have e3k : ¬ shA h k = thA h t := (hR.sh_ob _ hk0).ne (hR.th_ob t ht) (by decide)
  have e4 : ¬ shA h (onN S t) = shA h k := hR.shInj ho hk0 (fun z => hne z.symm)
  have hi := fun x j => cMvH_i (h := h) e2 e2k e3 e3k e4 e1 x j
  have s27 : sMvT S t k 27 t = nI k := by unfold sMvT; exact up2_eq
  have sne : ∀ q, ¬ q = t → sMvT S t k 27 q = S 27 q := fun q e => sMvT_ne (by omega) (fun z => e z.2)
  have hok : ¬ nI k = nI (onN S t) := nI_ne16 (by omega) (by omega) hne
  refine hR.quiet (cMvH_Qt (hR.th_ob t ht).2.2) ⟨rfl, rfl, rfl, rfl⟩ ?_ (fun q hq => ?_) (fun q hq => ?_) (fun q hq => ?_) (fun q hq => ?_)
  · have e2' : ¬ 1 = shA h (onN S t) := fun z => e2 z.symm
    have e2k' : ¬ 1 = shA h k := fun z => e2k z.symm
    unfold CSc
    simp only [hi, e2', e2k', true_and, false_and, if_false]
    refine ⟨hR.c1, hR.c3, hR.c5, hR.c7, hR.c10, hR.c11, hR.c12, hR.c13, ?_⟩
    simp only [if_true]
    rw [hR.c14, hR.sh4 _ ho, hR.sh4 _ hk0]
    rfl
  · have n1 := hR.shn1 hq
    have hf := sFree_mv (S := S) (S' := sMvT S t k) (t := t) (o := onN S t) (k := k) (s := q) (sMvT_ne (by omega) (by omega)) (fun z => sMvT_ne (by omega) (by omega)) sne (fun z => sMvT_ne (by omega) (by omega)) hin hO.1 s27 hok (cT S)
    have hl := sLoad_mv (S := S) (S' := sMvT S t k) (t := t) (o := onN S t) (k := k) (s := q) (fun z => sMvT_ne (by omega) (by omega)) sne hin hO.1 s27 hok (cT S)
    rw [hf, hl, sMvT_ne (a := 16) (by omega) (by omega), sMvT_ne (a := 17) (by omega) (by omega), sMvT_ne (a := 18) (by omega) (by omega), sMvT_ne (a := 19) (by omega) (by omega), sMvT_ne (a := 20) (by omega) (by omega)]
    simp only [hi, n1, false_and, if_false]
    by_cases e : q = onN S t
    · subst e
      simp only [true_and, and_true, ht, if_true, e4, false_and, if_false]
      refine ⟨hR.sh0 _ hq, hR.sh1 _ hq, hR.sh2 _ hq, hR.sh3 _ hq, hR.sh4 _ hq, ?_, ?_, hR.sh7 _ hq⟩
      · show am_i h (shA h (onN S t)) 5 + am_i h (thA h t) 0 = _
        rw [hR.sh5 _ hq, hR.th0 t ht]
      · show am_i h (shA h (onN S t)) 6 - 1 = _
        rw [hR.sh6 _ hq]
    · have n3 := hR.shInj hq ho e
      have n4 : ¬ nI (onN S t) = nI q := nI_ne16 (by omega) (by omega) (fun z => e z.symm)
      by_cases e5 : q = k
      · subst e5
        simp only [n3, n4, false_and, and_false, if_false, true_and, and_true, ht, if_true]
        refine ⟨hR.sh0 _ hq, hR.sh1 _ hq, hR.sh2 _ hq, hR.sh3 _ hq, hR.sh4 _ hq, ?_, ?_, hR.sh7 _ hq⟩
        · show am_i h (shA h q) 5 - am_i h (thA h t) 0 = _
          rw [hR.sh5 _ hq, hR.th0 t ht]
        · show am_i h (shA h q) 6 + 1 = _
          rw [hR.sh6 _ hq]
      · have n5 := hR.shInj hq hk0 e5
        have n6 : ¬ nI k = nI q := nI_ne16 (by omega) (by omega) (fun z => e5 z.symm)
        simp only [n3, n4, n5, n6, false_and, and_false, if_false]
        exact ⟨hR.sh0 _ hq, hR.sh1 _ hq, hR.sh2 _ hq, hR.sh3 _ hq, hR.sh4 _ hq, hR.sh5 _ hq, hR.sh6 _ hq, hR.sh7 _ hq⟩
  · have n1 := hR.th1' hq
    have n2 : ¬ thA h q = shA h (onN S t) := (hR.th_ob q hq).ne (hR.sh_ob _ ho) (by decide)
    have n2k : ¬ thA h q = shA h k := (hR.th_ob q hq).ne (hR.sh_ob _ hk0) (by decide)
    rw [sMvT_ne (a := 21) (by omega) (by omega), sMvT_ne (a := 22) (by omega) (by omega), sMvT_ne (a := 30) (by omega) (by omega), sMvT_ne (a := 31) (by omega) (by omega), sMvT_ne (a := 23) (by omega) (by omega), sMvT_ne (a := 24) (by omega) (by omega), sMvT_ne (a := 25) (by omega) (by omega), sMvT_ne (a := 26) (by omega) (by omega), sMvT_ne (a := 28) (by omega) (by omega), sMvT_ne (a := 29) (by omega) (by omega), cMvH_r]
    simp only [hi, n1, n2, n2k, false_and, if_false]
    refine ⟨hR.th0 _ hq, hR.th1 _ hq, hR.th2 _ hq, hR.th3 _ hq, hR.th4 _ hq, hR.th5 _ hq, hR.th6 _ hq, hR.th7 _ hq, hR.th9 _ hq, hR.th10 _ hq, ?_⟩
    by_cases e : q = t
    · subst e
      have eo : onN (sMvT S q k) q = k := by unfold onN; rw [s27]; exact nI_clamp (by omega)
      rw [if_pos ⟨rfl, trivial⟩, if_pos hin, eo]
    · have eo : onN (sMvT S t k) q = onN S q := by unfold onN; rw [sne q e]
      rw [if_neg (fun z => hR.thInj hq ht e z.1), eo]
      exact hR.th_p q hq
  · have n1 := hR.cl1' hq
    have n3 : ¬ clA h q = shA h (onN S t) := (hR.cl_ob q hq).ne (hR.sh_ob _ ho) (by decide)
    have n3k : ¬ clA h q = shA h k := (hR.cl_ob q hq).ne (hR.sh_ob _ hk0) (by decide)
    have m1 := hR.to1 hq
    have m3 : ¬ toA h q = shA h (onN S t) := (hR.cl_ta q hq).1.ne (hR.sh_ob _ ho) (by decide)
    have m3k : ¬ toA h q = shA h k := (hR.cl_ta q hq).1.ne (hR.sh_ob _ hk0) (by decide)
    rw [sMvT_ne (a := 34) (by omega) (by omega), sMvT_ne (a := 33) (by omega) (by omega)]
    simp only [hi, n1, n3, n3k, m1, m3, m3k, false_and, if_false]
    exact ⟨hR.cl1 _ hq, hR.cl2 _ hq, fun z hz => by rw [sMvT_ne (a := 32) (by omega) (by omega)]; exact hR.cl_tv q hq z hz⟩
  · have n1 := hR.ro1' hq
    have n3 : ¬ roA h q = shA h (onN S t) := (hR.ro_ob q hq).ne (hR.sh_ob _ ho) (by decide)
    have n3k : ¬ roA h q = shA h k := (hR.ro_ob q hq).ne (hR.sh_ob _ hk0) (by decide)
    rw [sMvT_ne (a := 11) (by omega) (by omega), sMvT_ne (a := 12) (by omega) (by omega), sMvT_ne (a := 13) (by omega) (by omega), sMvT_ne (a := 14) (by omega) (by omega), sMvT_ne (a := 15) (by omega) (by omega)]
    simp only [hi, n1, n3, n3k, false_and, if_false]
    exact ⟨hR.ro0 _ hq, hR.ro1 _ hq, hR.ro2 _ hq, hR.ro3 _ hq, hR.ro4 _ hq⟩
end MV
