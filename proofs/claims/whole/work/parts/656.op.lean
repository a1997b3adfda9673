/-! ONE CALL OF BOTH: op_settle -/
theorem clA_setI (h : Hp) (a k : Nat) (v : Int32) : clA (am_setI h a k v) = clA h := by unfold clA; rw [am_r_setI]
section OPW6
variable {L : Nat} {xs : Nat → Int32} {S : St} {h : Hp}
theorem op_settle (hI : IV L xs S h) (x : Int32) : OpK nX5_settle nX6_settle [.int x] L xs h := by
  obtain ⟨hM, hR, hW, hSI, -⟩ := id hI
  have hTA : ∀ c, c < cC S → TI S c := fun c hc => hSI.ti hc
  rcases ix_cases (cC S) x with ⟨c, hc, rfl⟩ | hx
  · by_cases k1 : S 34 c = 0
    · by_cases k2 : 3 ≤ sTold S c 4
      · rcases means_cases hW c with ⟨m1, m2⟩ | ⟨m1, t, ht, m2, m3, m4, m5⟩ | ⟨m1, t, ht, m2⟩
        · refine op_rd hI (bX5_settle4 2 hR hW c hc hTA k1 k2 (fun k hk e => ?_)) (fun m => ?_)
          · rw [m2] at e
            exact absurd (show nI k < 0 by rw [← e]; decide) (nI_pos (by have := hW.2.2.1.2; omega))
          · have r := rX6_settle_no 3 m S hW c hc (fun z => by rw [m1] at z; exact absurd z.2.2 (by decide))
            rw [show sSetNo S c = -4 by unfold sSetNo; rw [if_neg (fun z => z k1), if_neg (fun z => z k2), if_pos m1]] at r
            exact r
        · have h26 : S 26 t = 0 := by
            unfold sIsM at m2
            split at m2
            · rename_i q; exact q.1
            · exact absurd m2 (by decide)
          have hO := hSI.oa t ht h26
          obtain ⟨f1', f2, f3⟩ := hSI.fw ht
          have hc' := bX5_settle 2 hR hW c hc hTA k1 k2 t ht m3 (by rw [m1]; decide) f1' f2 f3 h26 hO
          have hr := fun {g : Hp} (m : MOK g) => rX6_settle_yes 3 m S hW c t hc ht k1 k2 m1 m4 f1' f2 hO
          have hS := hSI.settle hW hc t
          unfold cSet cSetH at hc'
          unfold sSet sSetS at hr
          unfold sSetS at hS
          rw [con_eq hW c t ht (cC S)] at hc'
          by_cases k3 : sCon S c (nI t) (cC S) = true
          · simp only [if_pos k3] at hc' hS hr
            exact op_rd hI hc' (fun m => hr m)
          · simp only [if_neg k3] at hc' hS hr
            by_cases k4 : sOpen S = 0
            · simp only [if_pos k4] at hc' hS hr
              exact op_rd hI hc' (fun m => hr m)
            · simp only [if_neg k4] at hc' hS hr
              by_cases k5 : ¬ S 20 (onN S t) = 0
              · simp only [if_pos k5] at hc' hS hr
                exact op_rd hI hc' (fun m => hr m)
              · simp only [if_neg k5] at hc' hS hr
                have r1 := hR.leave hW ht h26 hO (w := 1) (by decide)
                have r2 := r1.till (am_i (cLv h (thA h t) (shA h (onN S t)) 1) 1 13 + (sFee S t + 500))
                have e13 : am_i (cLv h (thA h t) (shA h (onN S t)) 1) 1 13 = S 10 3 := r1.c13
                have ecl : ∀ v, clA (am_setI (cLv h (thA h t) (shA h (onN S t)) 1) 1 13 v) c = clA h c := fun v => by rw [clA_setI]; exact congrFun ((cLv_Qt (h := h) (w := 1) (s := shA h (onN S t)) (hR.th_ob t ht).2.2).cl hR.1) c
                rw [e13, ← sLeave_till] at r2
                rw [e13] at hc'
                have r3 := r2.done (c := c) hc 1
                rw [ecl] at r3
                have r4 := r3.got (c := c) hc (nI t)
                have ecl2 : clA (am_setI (am_setI (cLv h (thA h t) (shA h (onN S t)) 1) 1 13 (S 10 3 + (sFee S t + 500))) (clA h c) 1 1) c = clA h c := by rw [clA_setI]; exact ecl (S 10 3 + (sFee S t + 500))
                rw [ecl2] at r4
                exact op_mk hI hc' (((((Fm.rfl' h).lv (hR.thF ht) (hR.shF hO.2)).setI 13 _ f1).setI 1 _ (hR.clF hc)).setI 2 _ (hR.clF hc)) (by decide) (by decide) r4 (fun m => hr m) hS
        · refine op_rd hI (bX5_settle5 2 hR hW c hc hTA k1 k2 t ht m2 m1) (fun m => ?_)
          have r := rX6_settle_no 3 m S hW c hc (fun z => m1 (by rw [z.2.2]; decide))
          rw [show sSetNo S c = -5 by unfold sSetNo; rw [if_neg (fun z => z k1), if_neg (fun z => z k2), if_neg (fun z => m1 (by rw [z]; decide))]] at r
          exact r
      · refine op_rd hI (bX5_settle3 2 hR hW c hc hTA k1 k2) (fun m => ?_)
        have r := rX6_settle_no 3 m S hW c hc (fun z => k2 z.2.1)
        rw [show sSetNo S c = -3 by unfold sSetNo; rw [if_neg (fun z => z k1), if_pos k2]] at r
        exact r
    · refine op_rd hI (bX5_settle2 2 hR hW c hc hTA k1) (fun m => ?_)
      have r := rX6_settle_no 3 m S hW c hc (fun z => k1 z.1)
      rw [show sSetNo S c = -2 by unfold sSetNo; rw [if_pos k1]] at r
      exact r
  · exact op_rd hI (bX5_settle_out 2 hR hW x hx) (fun m => rX6_settle_out 3 m S hW x hx)
end OPW6
