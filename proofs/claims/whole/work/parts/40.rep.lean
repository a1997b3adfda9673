/-! THE CLASS: a thing leaves; a shelf is torn, mended; claims -/
section TR4
variable {S : St} {h : Hp}
theorem cLv_i {a s : Nat} {w : Int32} (e1 : ¬ a = 1) (e2 : ¬ s = 1) (e3 : ¬ s = a) (x j : Nat) : am_i (cLv h a s w) x j = if x = 1 ∧ j = 14 then am_i h 1 14 + 2 * am_i h s 4 else if x = a ∧ j = 7 then w else if x = s ∧ j = 5 then am_i h s 5 + am_i h a 0 else if x = s ∧ j = 6 then am_i h s 6 - 1 else am_i h x j := by
  have e1' : ¬ 1 = a := fun z => e1 z.symm
  have e2' : ¬ 1 = s := fun z => e2 z.symm
  have e3' : ¬ a = s := fun z => e3 z.symm
  unfold cLv cRel
  simp only [am_i_setI, am_i_setR]
  by_cases h1 : x = 1
  · subst h1
    simp only [e1', e2', false_and, if_false]
  · by_cases h2 : x = a
    · subst h2
      simp only [h1, e3', true_and, false_and, if_false]
    · by_cases h3 : x = s
      · subst h3
        simp only [h1, h2, e1, e2, e3, e1', e3', true_and, false_and, if_false]
        by_cases h5 : j = 5
        · subst h5; simp
        · by_cases h6 : j = 6
          · subst h6; simp
          · simp [h5, h6]
      · simp only [h1, h2, h3, false_and, if_false]
theorem cLv_r {a s : Nat} {w : Int32} (x j : Nat) : am_r (cLv h a s w) x j = if x = a ∧ j = 8 then none else am_r h x j := rfl
theorem cLv_Qt {a s : Nat} {w : Int32} (ha : am_k h a = 4) : Qt h (cLv h a s w) := ((((Qt.setI h 1 14 _).trans (Qt.setI _ s 5 _)).trans (Qt.setI _ s 6 _)).trans (Qt.setR 8 none ha)).trans (Qt.setI _ a 7 w)
theorem sLeave_ne {t : Nat} {w : Int32} {a k : Nat} (e1 : ¬ (a = 10 ∧ k = 4)) (e2 : ¬ (a = 26 ∧ k = t)) : sLeave S t w a k = S a k := by unfold sLeave; rw [up2_ne e2, up2_ne e1]
theorem nI_ne16 {a b : Nat} (ha : a < 100000) (hb : b < 100000) (e : ¬ a = b) : ¬ nI a = nI b := fun z => e ((nI_eq (by omega) (by omega)).mp z)
theorem CR.leave (hR : CR S h) (hW : MW S) {t : Nat} (ht : t < cT S) (hin : S 26 t = 0) (hO : OW S t) {w : Int32} (hw : ¬ w = 0) : CR (sLeave S t w) (cLv h (thA h t) (shA h (onN S t)) w) := by
  have h11 := hW.2.1.2
  have ho := hO.2
  have e1 := hR.th1' ht
  have e2 := hR.shn1 ho
  have e3 : ¬ shA h (onN S t) = thA h t := (hR.sh_ob _ ho).ne (hR.th_ob t ht) (by decide)
  have hi := fun x j => cLv_i (h := h) (w := w) e1 e2 e3 x j
  have s26 : sLeave S t w 26 t = w := by unfold sLeave; exact up2_eq
  have sne : ∀ k, ¬ k = t → sLeave S t w 26 k = S 26 k := fun k e => sLeave_ne (by omega) (fun z => e z.2)
  have hw' : ¬ sLeave S t w 26 t = 0 := by rw [s26]; exact hw
  refine hR.quiet (cLv_Qt (hR.th_ob t ht).2.2) ⟨rfl, rfl, rfl, rfl⟩ ?_ (fun k hk => ?_) (fun k hk => ?_) (fun k hk => ?_) (fun k hk => ?_)
  · have e1' : ¬ 1 = thA h t := fun z => e1 z.symm
    have e2' : ¬ 1 = shA h (onN S t) := fun z => e2 z.symm
    unfold CSc
    simp only [hi, e1', e2', true_and, false_and, if_false]
    refine ⟨hR.c1, hR.c3, hR.c5, hR.c7, hR.c10, hR.c11, hR.c12, hR.c13, ?_⟩
    simp only [if_true]
    rw [hR.c14, hR.sh4 _ ho]
    rfl
  · have n1 := hR.shn1 hk
    have n2 : ¬ shA h k = thA h t := (hR.sh_ob k hk).ne (hR.th_ob t ht) (by decide)
    have hf := sFree_lv (S := S) (S' := sLeave S t w) (t := t) (o := onN S t) (s := k) (sLeave_ne (by omega) (by omega)) sne (fun q => sLeave_ne (by omega) (by omega)) (fun q => sLeave_ne (by omega) (by omega)) hin hw' hO.1 (cT S)
    have hl := sLoad_lv (S := S) (S' := sLeave S t w) (t := t) (o := onN S t) (s := k) sne (fun q => sLeave_ne (by omega) (by omega)) hin hw' hO.1 (cT S)
    rw [hf, hl, sLeave_ne (a := 16) (by omega) (by omega), sLeave_ne (a := 17) (by omega) (by omega), sLeave_ne (a := 18) (by omega) (by omega), sLeave_ne (a := 19) (by omega) (by omega), sLeave_ne (a := 20) (by omega) (by omega)]
    simp only [hi, n1, n2, false_and, if_false]
    by_cases e : k = onN S t
    · subst e
      simp only [true_and, and_true, ht, if_true]
      refine ⟨hR.sh0 _ hk, hR.sh1 _ hk, hR.sh2 _ hk, hR.sh3 _ hk, hR.sh4 _ hk, ?_, ?_, hR.sh7 _ hk⟩
      · show am_i h (shA h (onN S t)) 5 + am_i h (thA h t) 0 = _
        rw [hR.sh5 _ hk, hR.th0 t ht]
      · show am_i h (shA h (onN S t)) 6 - 1 = _
        rw [hR.sh6 _ hk]
    · have n3 := hR.shInj hk ho e
      have n4 : ¬ nI (onN S t) = nI k := nI_ne16 (by omega) (by omega) (fun z => e z.symm)
      simp only [n3, n4, false_and, and_false, if_false]
      exact ⟨hR.sh0 _ hk, hR.sh1 _ hk, hR.sh2 _ hk, hR.sh3 _ hk, hR.sh4 _ hk, hR.sh5 _ hk, hR.sh6 _ hk, hR.sh7 _ hk⟩
  · have n1 := hR.th1' hk
    have n2 : ¬ thA h k = shA h (onN S t) := (hR.th_ob k hk).ne (hR.sh_ob _ ho) (by decide)
    have eo : onN (sLeave S t w) k = onN S k := by unfold onN; rw [sLeave_ne (a := 27) (by omega) (by omega)]
    rw [eo, sLeave_ne (a := 21) (by omega) (by omega), sLeave_ne (a := 22) (by omega) (by omega), sLeave_ne (a := 30) (by omega) (by omega), sLeave_ne (a := 31) (by omega) (by omega), sLeave_ne (a := 23) (by omega) (by omega), sLeave_ne (a := 24) (by omega) (by omega), sLeave_ne (a := 25) (by omega) (by omega), sLeave_ne (a := 28) (by omega) (by omega), sLeave_ne (a := 29) (by omega) (by omega), cLv_r]
    simp only [hi, n1, n2, false_and, if_false]
    by_cases e : k = t
    · subst e
      rw [s26]
      simp only [true_and, if_true, hw, if_false]
      exact ⟨hR.th0 _ hk, hR.th1 _ hk, hR.th2 _ hk, hR.th3 _ hk, hR.th4 _ hk, hR.th5 _ hk, hR.th6 _ hk, hR.th9 _ hk, hR.th10 _ hk, trivial⟩
    · have n3 := hR.thInj hk ht e
      rw [sne k e]
      simp only [n3, false_and, if_false]
      exact ⟨hR.th0 _ hk, hR.th1 _ hk, hR.th2 _ hk, hR.th3 _ hk, hR.th4 _ hk, hR.th5 _ hk, hR.th6 _ hk, hR.th7 _ hk, hR.th9 _ hk, hR.th10 _ hk, hR.th_p _ hk⟩
  · have n1 := hR.cl1' hk
    have n2 : ¬ clA h k = thA h t := (hR.cl_ob k hk).ne (hR.th_ob t ht) (by decide)
    have n3 : ¬ clA h k = shA h (onN S t) := (hR.cl_ob k hk).ne (hR.sh_ob _ ho) (by decide)
    have m1 := hR.to1 hk
    have m2 : ¬ toA h k = thA h t := (hR.cl_ta k hk).1.ne (hR.th_ob t ht) (by decide)
    have m3 : ¬ toA h k = shA h (onN S t) := (hR.cl_ta k hk).1.ne (hR.sh_ob _ ho) (by decide)
    rw [sLeave_ne (a := 34) (by omega) (by omega), sLeave_ne (a := 33) (by omega) (by omega)]
    simp only [hi, n1, n2, n3, m1, m2, m3, false_and, if_false]
    exact ⟨hR.cl1 _ hk, hR.cl2 _ hk, fun q hq => by rw [sLeave_ne (a := 32) (by omega) (by omega)]; exact hR.cl_tv k hk q hq⟩
  · have n1 := hR.ro1' hk
    have n2 : ¬ roA h k = thA h t := (hR.ro_ob k hk).ne (hR.th_ob t ht) (by decide)
    have n3 : ¬ roA h k = shA h (onN S t) := (hR.ro_ob k hk).ne (hR.sh_ob _ ho) (by decide)
    rw [sLeave_ne (a := 11) (by omega) (by omega), sLeave_ne (a := 12) (by omega) (by omega), sLeave_ne (a := 13) (by omega) (by omega), sLeave_ne (a := 14) (by omega) (by omega), sLeave_ne (a := 15) (by omega) (by omega)]
    simp only [hi, n1, n2, n3, false_and, if_false]
    exact ⟨hR.ro0 _ hk, hR.ro1 _ hk, hR.ro2 _ hk, hR.ro3 _ hk, hR.ro4 _ hk⟩
end TR4
