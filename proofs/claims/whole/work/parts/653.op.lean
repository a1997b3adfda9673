/-! ONE CALL OF BOTH: op_give -/
section OPW3
variable {L : Nat} {xs : Nat → Int32} {S : St} {h : Hp}
theorem op_give (hI : IV L xs S h) (x : Int32) : OpK nX5_give nX6_give [.int x] L xs h := by
  obtain ⟨hM, hR, hW, hSI, -⟩ := id hI
  rcases thOf_cases hW x with hx | ⟨t, ht, hx⟩
  · rcases sThOf_out hW hx with ⟨a, b⟩ | ⟨a, b, c⟩
    · have hr : MOK h → Res 7 nX6_give [.ref 10, .int x] (am_wi h S) (some (.int (-2))) (am_wi h S) := fun m => by rw [← b]; exact rX6_give_out 3 m S hW x hx
      rcases ix_cases (cT S) (x / 100) with ⟨k, hk, e⟩ | hn
      · exact op_rd hI (bX5_give_outA 2 hR hW x (-2) (bX5_fee_out2 2 hR hW x a) (by decide) k hk e) hr
      · exact op_rd hI (bX5_give_outB 2 hR hW x (-2) (bX5_fee_out2 2 hR hW x a) (by decide) hn) hr
    · exact op_rd hI (bX5_give_outB 2 hR hW x (-3) (bX5_fee_out3 2 hR hW x a c) (by decide) c) (fun m => by rw [← b]; exact rX6_give_out 3 m S hW x hx)
  · obtain ⟨f1', f2, f3⟩ := hSI.fw ht
    have hc := bX5_give 2 hR hW x t ht hx f1' f2 f3 (hSI.oa t ht)
    have hr := fun {g : Hp} (m : MOK g) => rX6_give_in 3 m S hW x t ht hx f1' f2 (hSI.oa t ht)
    have hS := hSI.give hW t
    unfold sGiveS at hS hr
    by_cases k : kGive S t = true
    · simp only [k, if_true] at hc hS hr
      have k2 := of_decide_eq_true k
      have h26 : S 26 t = 0 := by
        rcases sFeeV_in k2.1 with z | z
        · exact z
        · exact absurd z k2.2.1
      have hO := hSI.oa t ht h26
      have r1 := hR.leave hW ht h26 hO (w := 1) (by decide)
      have r2 := r1.till (am_i (cLv h (thA h t) (shA h (onN S t)) 1) 1 13 + sFeeV S t)
      have e13 : am_i (cLv h (thA h t) (shA h (onN S t)) 1) 1 13 = S 10 3 := r1.c13
      rw [e13, ← sLeave_till] at r2
      rw [e13] at hc
      exact op_mk hI hc (((Fm.rfl' h).lv (hR.thF ht) (hR.shF hO.2)).setI 13 _ f1) (by decide) (by decide) r2 (fun m => hr m) hS
    · simp only [k, if_false] at hc hS hr
      exact op_rd hI hc (fun m => hr m)
end OPW3
