/-! ONE CALL OF BOTH: op_sell -/
section OPW5
variable {L : Nat} {xs : Nat → Int32} {S : St} {h : Hp}
theorem op_sell (hI : IV L xs S h) (x c : Int32) : OpK nX5_sell nX6_sell [.int x, .int c] L xs h := by
  obtain ⟨hM, hR, hW, hSI, -⟩ := id hI
  rcases ix_cases (cT S) x with ⟨t, ht, rfl⟩ | hx
  · have hc := bX5_sell 3 hR hW t c ht (hSI.oa t ht)
    have hr := fun {g : Hp} (m : MOK g) => rX6_sell_in 5 m S hW t c ht (hSI.oa t ht)
    have hS := hSI.sell hW t c
    unfold sSellS at hS hr
    unfold cSellH at hc
    by_cases k1 : sIn c 0 100000 = 0
    · simp only [if_pos k1] at hc hS hr
      exact op_rd hI hc (fun m => hr m)
    · simp only [if_neg k1] at hc hS hr
      by_cases k2 : ¬ S 26 t = 0
      · simp only [if_pos k2] at hc hS hr
        exact op_rd hI hc (fun m => hr m)
      · simp only [if_neg k2] at hc hS hr
        have h26 := Decidable.not_not.mp k2
        by_cases k3 : ¬ 7 ≤ S 10 0 / 1440 - S 24 t / 1440
        · simp only [if_pos k3] at hc hS hr
          exact op_rd hI hc (fun m => hr m)
        · simp only [if_neg k3] at hc hS hr
          by_cases k4 : ¬ S 20 (onN S t) = 0
          · simp only [if_pos k4] at hc hS hr
            exact op_rd hI hc (fun m => hr m)
          · simp only [if_neg k4] at hc hS hr
            have hO := hSI.oa t ht h26
            have r1 := hR.sday ht (S 10 0 / 1440)
            have F1 : Fm 0 0 h (am_setI h (thA h t) 10 (S 10 0 / 1440)) := (Fm.rfl' h).setI 10 _ (hR.thF ht)
            by_cases k5 : S 31 t = 0
            · simp only [if_pos k5] at hc hS hr
              have r2 : CR (sLeave (up2 S 29 t (S 10 0 / 1440)) t 2) (cLv (am_setI h (thA h t) 10 (S 10 0 / 1440)) (thA h t) (shA h (onN S t)) 2) := r1.leave hW (t := t) ht h26 hO (w := 2) (by decide)
              have et : thA (cLv (am_setI h (thA h t) 10 (S 10 0 / 1440)) (thA h t) (shA h (onN S t)) 2) t = thA h t := congrFun ((cLv_Qt (h := am_setI h (thA h t) 10 (S 10 0 / 1440)) (hR.th_ob t ht).2.2).th r1.1) t
              have r3 := r2.coins (t := t) ht c
              rw [et, ← sLeave_coins] at r3
              exact op_mk hI hc ((F1.lv (hR.thF ht) (hR.shF hO.2)).setI 9 _ (hR.thF ht)) (by decide) (by decide) r3 (fun m => hr m) hS
            · simp only [if_neg k5] at hc hS hr
              have r2 : CR (sLeave (up2 S 29 t (S 10 0 / 1440)) t 5) (cLv (am_setI h (thA h t) 10 (S 10 0 / 1440)) (thA h t) (shA h (onN S t)) 5) := r1.leave hW (t := t) ht h26 hO (w := 5) (by decide)
              exact op_mk hI hc (F1.lv (hR.thF ht) (hR.shF hO.2)) (by decide) (by decide) r2 (fun m => hr m) hS
  · exact op_rd hI (bX5_sell_out 3 hR hW x c hx) (fun m => rX6_sell_out 5 m S hW x c hx)
end OPW5
