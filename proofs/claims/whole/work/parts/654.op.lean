/-! ONE CALL OF BOTH: op_pay -/
section OPW4
variable {L : Nat} {xs : Nat → Int32} {S : St} {h : Hp}
theorem op_pay (hI : IV L xs S h) (x : Int32) : OpK nX5_pay nX6_pay [.int x] L xs h := by
  obtain ⟨hM, hR, hW, hSI, -⟩ := id hI
  rcases thOf_cases hW x with hx | ⟨t, ht, hx⟩
  · rcases sThOf_out hW hx with ⟨a, b⟩ | ⟨a, b, c⟩
    · exact op_rd hI (bX5_pay_out2 3 hR hW x a) (fun m => by rw [← b]; exact rX6_pay_out 4 m S hW x hx)
    · exact op_rd hI (bX5_pay_out3 3 hR hW x a c) (fun m => by rw [← b]; exact rX6_pay_out 4 m S hW x hx)
  · obtain ⟨f1', f2, f3⟩ := hSI.fw ht
    have hc := bX5_pay 3 hR hW x t ht hx f1' f2 f3
    have hr := fun {g : Hp} (m : MOK g) => rX6_pay_in 4 m S hW x t ht hx f1' f2
    have hS := hSI.pay hW t
    unfold sPayS at hS hr
    unfold cPayH at hc
    by_cases k1 : ¬ S 26 t = 2
    · simp only [if_pos k1] at hc hS hr
      exact op_rd hI hc (fun m => hr m)
    · simp only [if_neg k1] at hc hS hr
      by_cases k2 : sOpen S = 0
      · simp only [if_pos k2] at hc hS hr
        exact op_rd hI hc (fun m => hr m)
      · simp only [if_neg k2] at hc hS hr
        have k26 : ¬ S 26 t = 0 := by rw [Decidable.not_not.mp k1]; decide
        exact op_mk hI hc ((((Fm.rfl' h).setI 13 _ f1).setI 9 _ (hR.thF ht)).setI 7 _ (hR.thF ht)) (by decide) (by decide) (((hR.till (S 10 3 + sStay S t)).coins (t := t) ht 0).how (t := t) (v := 3) ht k26 (by decide)) (fun m => hr m) hS
end OPW4
