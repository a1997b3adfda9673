/-! ONE CALL OF BOTH: op_hours, op_tear, op_mend, op_mark -/
section OPW1
variable {L : Nat} {xs : Nat → Int32} {S : St} {h : Hp}
theorem op_hours (hI : IV L xs S h) (p q : Int32) : OpK nX5_hours nX6_hours [.int p, .int q] L xs h := by
  obtain ⟨hM, hR, hW, hSI, -⟩ := id hI
  have hc := bX5_hours 6 hR hW p q
  have hS := hSI.hours hW p q
  have hr := fun {g : Hp} (m : MOK g) => rX6_hours 5 m S p q
  unfold sHours at hS hr
  by_cases k : kHours p q = true
  · simp only [k, if_true] at hc hS hr
    exact op_mk hI hc (((Fm.rfl' h).setI 11 _ f1).setI 12 _ f1) (by decide) (by decide) (hR.hours p q) (fun m => hr m) hS
  · simp only [k, if_false] at hc hS hr
    exact op_rd hI hc (fun m => hr m)
theorem op_tear (hI : IV L xs S h) (x : Int32) : OpK nX5_tear nX6_tear [.int x] L xs h := by
  obtain ⟨hM, hR, hW, hSI, -⟩ := id hI
  rcases ix_cases (cS S) x with ⟨s, hs, rfl⟩ | hx
  · have hc := bX5_tear 4 hR hW s hs
    have hr := fun {g : Hp} (m : MOK g) => rX6_tear_in 5 m S hW s hs
    by_cases k : S 20 s = 0
    · simp only [k, if_true] at hc hr
      exact op_mk hI hc ((Fm.rfl' h).setI 7 _ (hR.shF hs)) (by decide) (by decide) (hR.tear hs 1) (fun m => hr m) (hSI.tear hW hs 1)
    · simp only [k, if_false] at hc hr
      exact op_rd hI hc (fun m => hr m)
  · exact op_rd hI (bX5_tear_out 4 hR hW x hx) (fun m => rX6_tear_out 5 m S hW x hx)
theorem op_mend (hI : IV L xs S h) (x : Int32) : OpK nX5_mend nX6_mend [.int x] L xs h := by
  obtain ⟨hM, hR, hW, hSI, -⟩ := id hI
  rcases ix_cases (cS S) x with ⟨s, hs, rfl⟩ | hx
  · have hc := bX5_mend 4 hR hW s hs
    have hr := fun {g : Hp} (m : MOK g) => rX6_mend_in 5 m S hW s hs
    by_cases k : ¬ S 20 s = 0
    · rw [if_pos k, if_pos k] at hc
      simp only [if_pos k] at hr
      exact op_mk hI hc ((Fm.rfl' h).setI 7 _ (hR.shF hs)) (by decide) (by decide) (hR.tear hs 0) (fun m => hr m) (hSI.tear hW hs 0)
    · rw [if_neg k, if_neg k] at hc
      simp only [if_neg k] at hr
      exact op_rd hI hc (fun m => hr m)
  · exact op_rd hI (bX5_mend_out 4 hR hW x hx) (fun m => rX6_mend_out 5 m S hW x hx)
theorem op_mark (hI : IV L xs S h) (x k v : Int32) : OpK nX5_mark nX6_mark [.int x, .int k, .int v] L xs h := by
  obtain ⟨hM, hR, hW, hSI, -⟩ := id hI
  rcases ix_cases (cC S) x with ⟨c, hc, rfl⟩ | hx
  · by_cases q : S 34 c = 0 ∧ sIn k 0 3 = 1 ∧ sIn v (-1) 15 = 1
    · obtain ⟨q1, q2, q3⟩ := q
      obtain ⟨e, b⟩ := RG_in2 (M := 3) (by decide) (by decide) (by decide) q2
      generalize k.toNatClampNeg = j at e b
      subst e
      exact op_mk hI (bX5_mark_ok 3 hR hW c j v hc (by omega) q3 q1 ((hSI.ti hc).mark q3)) ((Fm.rfl' h).setI j _ (hR.toF hc)) (by decide) (by decide) (hR.told hc (by omega) v) (fun m => rX6_mark_ok 3 m S hW c j v hc (by omega) q3 q1) (hSI.mark hW q3)
    · exact op_rd hI (bX5_mark_no 3 hR hW c k v hc q) (fun m => rX6_mark_no 3 m S hW c k v hc q)
  · exact op_rd hI (bX5_mark_out 3 hR hW x k v hx) (fun m => rX6_mark_out 3 m S hW x k v hx)
end OPW1
