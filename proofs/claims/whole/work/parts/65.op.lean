/-! ONE CALL OF BOTH: the calls that write -/
theorem sLeave_till {S : St} {t : Nat} {w v : Int32} : sLeave (up2 S 10 3 v) t w = up2 (sLeave S t w) 10 3 v := by
  show up2 (up2 (up2 S 10 3 v) 10 4 (S 10 4 + 2 * S 18 (onN S t))) 26 t w = up2 (up2 (up2 S 10 4 (S 10 4 + 2 * S 18 (onN S t))) 26 t w) 10 3 v
  rw [up2_comm (S := S) (a := 10) (k := 3) (b := 10) (l := 4) (by omega), up2_comm (S := up2 S 10 4 (S 10 4 + 2 * S 18 (onN S t))) (a := 10) (k := 3) (b := 26) (l := t) (by omega)]
theorem sLeave_coins {S : St} {t : Nat} {w v : Int32} : sLeave (up2 S 28 t v) t w = up2 (sLeave S t w) 28 t v := by
  show up2 (up2 (up2 S 28 t v) 10 4 (S 10 4 + 2 * S 18 (onN S t))) 26 t w = up2 (up2 (up2 S 10 4 (S 10 4 + 2 * S 18 (onN S t))) 26 t w) 28 t v
  rw [up2_comm (S := S) (a := 28) (k := t) (b := 10) (l := 4) (by omega), up2_comm (S := up2 S 10 4 (S 10 4 + 2 * S 18 (onN S t))) (a := 28) (k := t) (b := 26) (l := t) (by omega)]
section OPW
variable {L : Nat} {xs : Nat → Int32} {S : St} {h : Hp}
theorem CR.shF (hR : CR S h) {k : Nat} (hk : k < cS S) : ¬ Fc (shA h k) := Fc.no (Or.inr (hR.sh_38 k hk))
theorem CR.thF (hR : CR S h) {k : Nat} (hk : k < cT S) : ¬ Fc (thA h k) := Fc.no (Or.inr (hR.th_38 k hk))
theorem CR.clF (hR : CR S h) {k : Nat} (hk : k < cC S) : ¬ Fc (clA h k) := Fc.no (Or.inr (hR.cl_38 k hk))
theorem CR.toF (hR : CR S h) {k : Nat} (hk : k < cC S) : ¬ Fc (toA h k) := Fc.no (Or.inr (hR.cl_t38 k hk))
theorem f1 : ¬ Fc 1 := Fc.no (Or.inl (by decide))
theorem Fm.lv {p q : Nat} {h0 h : Hp} (x : Fm p q h0 h) {a s : Nat} {w : Int32} (ha : ¬ Fc a) (hs : ¬ Fc s) : Fm p q h0 (cLv h a s w) :=
  ((((x.setI 14 _ f1).setI 5 _ hs).setI 6 _ hs).setR 8 none ha).setI 7 w ha
theorem Fm.mv {p q : Nat} {h0 h : Hp} (x : Fm p q h0 h) {a s k : Nat} (ha : ¬ Fc a) (hs : ¬ Fc s) (hk : ¬ Fc k) : Fm p q h0 (cMvH h a s k) :=
  ((((((x.setI 14 _ f1).setI 5 _ hs).setI 6 _ hs).setR 8 none ha).setI 5 _ hk).setI 6 _ hk).setR 8 (some k) ha
theorem op_hours (hI : IV L xs S h) (p q : Int32) : OpK nX5_hours nX6_hours [.int p, .int q] L xs h := by
  obtain ⟨hM, hR, hW, hSI, -⟩ := id hI
  have hc := bX5_hours 6 hR hW p q
  have hS := hSI.hours hW p q
  have hr := fun {g : Hp} (m : MOK g) => rX6_hours 5 m S p q
  unfold sHours at hS hr
  by_cases k : kHours p q = true
  · simp only [k, if_true] at hc hS hr
    exact op_mk hI hc (((Fm.rfl' h).setI 11 _ f1).setI 12 _ f1) (by decide) (by decide) (hR.hours p q) (fun m => hr m) hS
  · simp only [k, if_false] at hc hS hr
    exact op_rd hI hc (fun m => hr m)
theorem op_tear (hI : IV L xs S h) (x : Int32) : OpK nX5_tear nX6_tear [.int x] L xs h := by
  obtain ⟨hM, hR, hW, hSI, -⟩ := id hI
  rcases ix_cases (cS S) x with ⟨s, hs, rfl⟩ | hx
  · have hc := bX5_tear 4 hR hW s hs
    have hr := fun {g : Hp} (m : MOK g) => rX6_tear_in 5 m S hW s hs
    by_cases k : S 20 s = 0
    · simp only [k, if_true] at hc hr
      exact op_mk hI hc ((Fm.rfl' h).setI 7 _ (hR.shF hs)) (by decide) (by decide) (hR.tear hs 1) (fun m => hr m) (hSI.tear hW hs 1)
    · simp only [k, if_false] at hc hr
      exact op_rd hI hc (fun m => hr m)
  · exact op_rd hI (bX5_tear_out 4 hR hW x hx) (fun m => rX6_tear_out 5 m S hW x hx)
theorem op_mend (hI : IV L xs S h) (x : Int32) : OpK nX5_mend nX6_mend [.int x] L xs h := by
  obtain ⟨hM, hR, hW, hSI, -⟩ := id hI
  rcases ix_cases (cS S) x with ⟨s, hs, rfl⟩ | hx
  · have hc := bX5_mend 4 hR hW s hs
    have hr := fun {g : Hp} (m : MOK g) => rX6_mend_in 5 m S hW s hs
    by_cases k : ¬ S 20 s = 0
    · rw [if_pos k, if_pos k] at hc
      simp only [if_pos k] at hr
      exact op_mk hI hc ((Fm.rfl' h).setI 7 _ (hR.shF hs)) (by decide) (by decide) (hR.tear hs 0) (fun m => hr m) (hSI.tear hW hs 0)
    · rw [if_neg k, if_neg k] at hc
      simp only [if_neg k] at hr
      exact op_rd hI hc (fun m => hr m)
  · exact op_rd hI (bX5_mend_out 4 hR hW x hx) (fun m => rX6_mend_out 5 m S hW x hx)
theorem op_mark (hI : IV L xs S h) (x k v : Int32) : OpK nX5_mark nX6_mark [.int x, .int k, .int v] L xs h := by
  obtain ⟨hM, hR, hW, hSI, -⟩ := id hI
  rcases ix_cases (cC S) x with ⟨c, hc, rfl⟩ | hx
  · by_cases q : S 34 c = 0 ∧ sIn k 0 3 = 1 ∧ sIn v (-1) 15 = 1
    · obtain ⟨q1, q2, q3⟩ := q
      obtain ⟨e, b⟩ := RG_in2 (M := 3) (by decide) (by decide) (by decide) q2
      generalize k.toNatClampNeg = j at e b
      subst e
      exact op_mk hI (bX5_mark_ok 3 hR hW c j v hc (by omega) q3 q1 ((hSI.ti hc).mark q3)) ((Fm.rfl' h).setI j _ (hR.toF hc)) (by decide) (by decide) (hR.told hc (by omega) v) (fun m => rX6_mark_ok 3 m S hW c j v hc (by omega) q3 q1) (hSI.mark hW q3)
    · exact op_rd hI (bX5_mark_no 3 hR hW c k v hc q) (fun m => rX6_mark_no 3 m S hW c k v hc q)
  · exact op_rd hI (bX5_mark_out 3 hR hW x k v hx) (fun m => rX6_mark_out 3 m S hW x k v hx)
theorem Fm.fallN {h0 : Hp} : ∀ (n t : Nat) {S : St} {h : Hp}, t + n ≤ cT S → CR S h → MW S → Fm 0 0 h0 h → Fm 0 0 h0 (cFallN n t S h) := by
  intro n
  induction n with
  | zero => intro t S h _ _ _ x; exact x
  | succ n ih =>
    intro t S h hn hR hW x
    have e3 := sClk1_MW t hW
    refine ih (t + 1) (by rw [e3.2]; omega) (hR.fall (by omega)) e3.1 ?_
    unfold cFall
    split
    · exact ((x.setI 13 _ f1).setI 9 _ (hR.thF (by omega))).setI 7 _ (hR.thF (by omega))
    · exact x
theorem op_clock (hI : IV L xs S h) (n : Int32) : OpK nX5_clock nX6_clock [.int n] L xs h := by
  obtain ⟨hM, hR, hW, hSI, -⟩ := id hI
  have hc := bX5_clock 3 hR hW n
  have hS := hSI.clock hW n
  have hr := fun {g : Hp} (m : MOK g) => rX6_clock 6 m S hW n
  unfold sClk at hS hr
  by_cases k : kClk S n = true
  · simp only [k, if_true] at hc hS hr
    exact op_mk hI hc (Fm.fallN (cT S) 0 (by show 0 + cT S ≤ cT S; omega) (hR.minute _) hW ((Fm.rfl' h).setI 10 _ f1)) (by decide) (by decide) (fall_min hR hW n) (fun m => hr m) hS
  · simp only [k, if_false] at hc hS hr
    exact op_rd hI hc (fun m => hr m)
theorem op_give (hI : IV L xs S h) (x : Int32) : OpK nX5_give nX6_give [.int x] L xs h := by
  obtain ⟨hM, hR, hW, hSI, -⟩ := id hI
  rcases thOf_cases hW x with hx | ⟨t, ht, hx⟩
  · rcases sThOf_out hW hx with ⟨a, b⟩ | ⟨a, b, c⟩
    · have hr : MOK h → Res 7 nX6_give [.ref 10, .int x] (am_wi h S) (some (.int (-2))) (am_wi h S) := fun m => by rw [← b]; exact rX6_give_out 3 m S hW x hx
      rcases ix_cases (cT S) (x / 100) with ⟨k, hk, e⟩ | hn
      · exact op_rd hI (bX5_give_outA 2 hR hW x (-2) (bX5_fee_out2 2 hR hW x a) (by decide) k hk e) hr
      · exact op_rd hI (bX5_give_outB 2 hR hW x (-2) (bX5_fee_out2 2 hR hW x a) (by decide) hn) hr
    · exact op_rd hI (bX5_give_outB 2 hR hW x (-3) (bX5_fee_out3 2 hR hW x a c) (by decide) c) (fun m => by rw [← b]; exact rX6_give_out 3 m S hW x hx)
  · obtain ⟨f1', f2, f3⟩ := hSI.fw ht
    have hc := bX5_give 2 hR hW x t ht hx f1' f2 f3 (hSI.oa t ht)
    have hr := fun {g : Hp} (m : MOK g) => rX6_give_in 3 m S hW x t ht hx f1' f2 (hSI.oa t ht)
    have hS := hSI.give hW t
    unfold sGiveS at hS hr
    by_cases k : kGive S t = true
    · simp only [k, if_true] at hc hS hr
      have k2 := of_decide_eq_true k
      have h26 : S 26 t = 0 := by
        rcases sFeeV_in k2.1 with z | z
        · exact z
        · exact absurd z k2.2.1
      have hO := hSI.oa t ht h26
      have r1 := hR.leave hW ht h26 hO (w := 1) (by decide)
      have r2 := r1.till (am_i (cLv h (thA h t) (shA h (onN S t)) 1) 1 13 + sFeeV S t)
      have e13 : am_i (cLv h (thA h t) (shA h (onN S t)) 1) 1 13 = S 10 3 := r1.c13
      rw [e13, ← sLeave_till] at r2
      rw [e13] at hc
      exact op_mk hI hc (((Fm.rfl' h).lv (hR.thF ht) (hR.shF hO.2)).setI 13 _ f1) (by decide) (by decide) r2 (fun m => hr m) hS
    · simp only [k, if_false] at hc hS hr
      exact op_rd hI hc (fun m => hr m)
theorem op_pay (hI : IV L xs S h) (x : Int32) : OpK nX5_pay nX6_pay [.int x] L xs h := by
  obtain ⟨hM, hR, hW, hSI, -⟩ := id hI
  rcases thOf_cases hW x with hx | ⟨t, ht, hx⟩
  · rcases sThOf_out hW hx with ⟨a, b⟩ | ⟨a, b, c⟩
    · exact op_rd hI (bX5_pay_out2 3 hR hW x a) (fun m => by rw [← b]; exact rX6_pay_out 4 m S hW x hx)
    · exact op_rd hI (bX5_pay_out3 3 hR hW x a c) (fun m => by rw [← b]; exact rX6_pay_out 4 m S hW x hx)
  · obtain ⟨f1', f2, f3⟩ := hSI.fw ht
    have hc := bX5_pay 3 hR hW x t ht hx f1' f2 f3
    have hr := fun {g : Hp} (m : MOK g) => rX6_pay_in 4 m S hW x t ht hx f1' f2
    have hS := hSI.pay hW t
    unfold sPayS at hS hr
    unfold cPayH at hc
    by_cases k1 : ¬ S 26 t = 2
    · simp only [if_pos k1] at hc hS hr
      exact op_rd hI hc (fun m => hr m)
    · simp only [if_neg k1] at hc hS hr
      by_cases k2 : sOpen S = 0
      · simp only [if_pos k2] at hc hS hr
        exact op_rd hI hc (fun m => hr m)
      · simp only [if_neg k2] at hc hS hr
        have k26 : ¬ S 26 t = 0 := by rw [Decidable.not_not.mp k1]; decide
        exact op_mk hI hc ((((Fm.rfl' h).setI 13 _ f1).setI 9 _ (hR.thF ht)).setI 7 _ (hR.thF ht)) (by decide) (by decide) (((hR.till (S 10 3 + sStay S t)).coins (t := t) ht 0).how (t := t) (v := 3) ht k26 (by decide)) (fun m => hr m) hS
theorem op_sell (hI : IV L xs S h) (x c : Int32) : OpK nX5_sell nX6_sell [.int x, .int c] L xs h := by
  obtain ⟨hM, hR, hW, hSI, -⟩ := id hI
  rcases ix_cases (cT S) x with ⟨t, ht, rfl⟩ | hx
  · have hc := bX5_sell 3 hR hW t c ht (hSI.oa t ht)
    have hr := fun {g : Hp} (m : MOK g) => rX6_sell_in 5 m S hW t c ht (hSI.oa t ht)
    have hS := hSI.sell hW t c
    unfold sSellS at hS hr
    unfold cSellH at hc
    by_cases k1 : sIn c 0 100000 = 0
    · simp only [if_pos k1] at hc hS hr
      exact op_rd hI hc (fun m => hr m)
    · simp only [if_neg k1] at hc hS hr
      by_cases k2 : ¬ S 26 t = 0
      · simp only [if_pos k2] at hc hS hr
        exact op_rd hI hc (fun m => hr m)
      · simp only [if_neg k2] at hc hS hr
        have h26 := Decidable.not_not.mp k2
        by_cases k3 : ¬ 7 ≤ S 10 0 / 1440 - S 24 t / 1440
        · simp only [if_pos k3] at hc hS hr
          exact op_rd hI hc (fun m => hr m)
        · simp only [if_neg k3] at hc hS hr
          by_cases k4 : ¬ S 20 (onN S t) = 0
          · simp only [if_pos k4] at hc hS hr
            exact op_rd hI hc (fun m => hr m)
          · simp only [if_neg k4] at hc hS hr
            have hO := hSI.oa t ht h26
            have r1 := hR.sday ht (S 10 0 / 1440)
            have F1 : Fm 0 0 h (am_setI h (thA h t) 10 (S 10 0 / 1440)) := (Fm.rfl' h).setI 10 _ (hR.thF ht)
            by_cases k5 : S 31 t = 0
            · simp only [if_pos k5] at hc hS hr
              have r2 : CR (sLeave (up2 S 29 t (S 10 0 / 1440)) t 2) (cLv (am_setI h (thA h t) 10 (S 10 0 / 1440)) (thA h t) (shA h (onN S t)) 2) := r1.leave hW (t := t) ht h26 hO (w := 2) (by decide)
              have et : thA (cLv (am_setI h (thA h t) 10 (S 10 0 / 1440)) (thA h t) (shA h (onN S t)) 2) t = thA h t := congrFun ((cLv_Qt (h := am_setI h (thA h t) 10 (S 10 0 / 1440)) (hR.th_ob t ht).2.2).th r1.1) t
              have r3 := r2.coins (t := t) ht c
              rw [et, ← sLeave_coins] at r3
              exact op_mk hI hc ((F1.lv (hR.thF ht) (hR.shF hO.2)).setI 9 _ (hR.thF ht)) (by decide) (by decide) r3 (fun m => hr m) hS
            · simp only [if_neg k5] at hc hS hr
              have r2 : CR (sLeave (up2 S 29 t (S 10 0 / 1440)) t 5) (cLv (am_setI h (thA h t) 10 (S 10 0 / 1440)) (thA h t) (shA h (onN S t)) 5) := r1.leave hW (t := t) ht h26 hO (w := 5) (by decide)
              exact op_mk hI hc (F1.lv (hR.thF ht) (hR.shF hO.2)) (by decide) (by decide) r2 (fun m => hr m) hS
  · exact op_rd hI (bX5_sell_out 3 hR hW x c hx) (fun m => rX6_sell_out 5 m S hW x c hx)
theorem op_settle (hI : IV L xs S h) (x : Int32) : OpK nX5_settle nX6_settle [.int x] L xs h := by
  obtain ⟨hM, hR, hW, hSI, -⟩ := id hI
  have hTA : ∀ c, c < cC S → TI S c := fun c hc => hSI.ti hc
  rcases ix_cases (cC S) x with ⟨c, hc, rfl⟩ | hx
  · by_cases k1 : S 34 c = 0
    · by_cases k2 : 3 ≤ sTold S c 4
      · rcases means_cases hW c with ⟨m1, m2⟩ | ⟨m1, t, ht, m2, m3, m4, m5⟩ | ⟨m1, t, ht, m2⟩
        · refine op_rd hI (bX5_settle4 2 hR hW c hc hTA k1 k2 (fun k hk e => ?_)) (fun m => ?_)
          · rw [m2] at e
            exact absurd (show nI k < 0 by rw [← e]; decide) (nI_pos (by have := hW.2.2.1.2; omega))
          · have r := rX6_settle_no 3 m S hW c hc (fun z => by rw [m1] at z; exact absurd z.2.2 (by decide))
            rw [show sSetNo S c = -4 by unfold sSetNo; rw [if_neg (fun z => z k1), if_neg (fun z => z k2), if_pos m1]] at r
            exact r
        · have h26 : S 26 t = 0 := by
            unfold sIsM at m2
            split at m2
            · rename_i q; exact q.1
            · exact absurd m2 (by decide)
          have hO := hSI.oa t ht h26
          obtain ⟨f1', f2, f3⟩ := hSI.fw ht
          have hc' := bX5_settle 2 hR hW c hc hTA k1 k2 t ht m3 (by rw [m1]; decide) f1' f2 f3 h26 hO
          have hr := fun {g : Hp} (m : MOK g) => rX6_settle_yes 3 m S hW c t hc ht k1 k2 m1 m4 f1' f2 hO
          have hS := hSI.settle hW hc t
          unfold cSet cSetH at hc'
          unfold sSet sSetS at hr
          unfold sSetS at hS
          rw [con_eq hW c t ht (cC S)] at hc'
          by_cases k3 : sCon S c (nI t) (cC S) = true
          · simp only [if_pos k3] at hc' hS hr
            exact op_rd hI hc' (fun m => hr m)
          · simp only [if_neg k3] at hc' hS hr
            by_cases k4 : sOpen S = 0
            · simp only [if_pos k4] at hc' hS hr
              exact op_rd hI hc' (fun m => hr m)
            · simp only [if_neg k4] at hc' hS hr
              by_cases k5 : ¬ S 20 (onN S t) = 0
              · simp only [if_pos k5] at hc' hS hr
                exact op_rd hI hc' (fun m => hr m)
              · simp only [if_neg k5] at hc' hS hr
                have r1 := hR.leave hW ht h26 hO (w := 1) (by decide)
                have r2 := r1.till (am_i (cLv h (thA h t) (shA h (onN S t)) 1) 1 13 + (sFee S t + 500))
                have e13 : am_i (cLv h (thA h t) (shA h (onN S t)) 1) 1 13 = S 10 3 := r1.c13
                have ecl : ∀ v, clA (am_setI (cLv h (thA h t) (shA h (onN S t)) 1) 1 13 v) c = clA h c := fun v => congrFun ((cLv_Qt (h := h) (w := 1) (s := shA h (onN S t)) (hR.th_ob t ht).2.2).cl hR.1) c
                rw [e13, ← sLeave_till] at r2
                rw [e13] at hc'
                have r3 := r2.done (c := c) hc 1
                rw [ecl] at r3
                have r4 := r3.got (c := c) hc (nI t)
                have ecl2 : clA (am_setI (am_setI (cLv h (thA h t) (shA h (onN S t)) 1) 1 13 (S 10 3 + (sFee S t + 500))) (clA h c) 1 1) c = clA h c := ecl (S 10 3 + (sFee S t + 500))
                rw [ecl2] at r4
                exact op_mk hI hc' (((((Fm.rfl' h).lv (hR.thF ht) (hR.shF hO.2)).setI 13 _ f1).setI 1 _ (hR.clF hc)).setI 2 _ (hR.clF hc)) (by decide) (by decide) r4 (fun m => hr m) hS
        · refine op_rd hI (bX5_settle5 2 hR hW c hc hTA k1 k2 t ht m2 m1) (fun m => ?_)
          have r := rX6_settle_no 3 m S hW c hc (fun z => m1 (by rw [z.2.2]; decide))
          rw [show sSetNo S c = -5 by unfold sSetNo; rw [if_neg (fun z => z k1), if_neg (fun z => z k2), if_neg (fun z => m1 (by rw [z]; decide))]] at r
          exact r
      · refine op_rd hI (bX5_settle3 2 hR hW c hc hTA k1 k2) (fun m => ?_)
        have r := rX6_settle_no 3 m S hW c hc (fun z => k2 z.2.1)
        rw [show sSetNo S c = -3 by unfold sSetNo; rw [if_neg (fun z => z k1), if_pos k2]] at r
        exact r
    · refine op_rd hI (bX5_settle2 2 hR hW c hc hTA k1) (fun m => ?_)
      have r := rX6_settle_no 3 m S hW c hc (fun z => k1 z.1)
      rw [show sSetNo S c = -2 by unfold sSetNo; rw [if_pos k1]] at r
      exact r
  · exact op_rd hI (bX5_settle_out 2 hR hW x hx) (fun m => rX6_settle_out 3 m S hW x hx)
theorem Fm.td {h0 : Hp} : ∀ (n : Nat) {S : St} {h : Hp}, CR S h → MW S → OA S → Fm 0 0 h0 h → Fm 0 0 h0 (cTdH n S h) := by
  intro n
  induction n with
  | zero => intro S h _ _ _ x; exact x
  | succ n ih =>
    intro S h hR hW hA x
    by_cases c0 : (sPk2 S (cT S)).2.1 < 0
    · simp only [cTdH, c0, if_true]
      exact x
    · simp only [cTdH, c0, if_false]
      obtain ⟨p1, p2, p3, p4, p5⟩ := sPk_get hW c0
      refine ih (S := sMv S) (hR.mb hW hA c0) hW (sMv_OA hW hA c0) ?_
      unfold cMB
      rw [if_neg c0]
      exact x.mv (hR.thF p1) (hR.shF (hA _ p1 p3).2) (hR.shF p2)
theorem op_tidy (hI : IV L xs S h) (x : Int32) : OpK nX5_tidy nX6_tidy [.int x] L xs h := by
  obtain ⟨hM, hR, hW, hSI, -⟩ := id hI
  by_cases q : sIn x 0 50 = 1 ∧ sOpen S = 0
  · obtain ⟨e, b⟩ := RG_in2 (M := 50) (by decide) (by decide) (by decide) q.1
    generalize x.toNatClampNeg = n at e b
    subst e
    exact op_mk hI (bX5_tidy_ok 2 hR hW hSI.sr hSI.oa n b q.2) (Fm.td n hR hW hSI.oa (Fm.rfl' h)) (by decide) (by decide) (CR.td n hR hW hSI.oa).1 (fun m => rX6_tidy_ok 3 m S hW hSI.oa n b q.2) (SI.td n hSI hW)
  · exact op_rd hI (bX5_tidy_no 2 hR hW x q) (fun m => rX6_tidy_no 3 m S hW x q)
end OPW
