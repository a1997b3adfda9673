/-! ONE CALL OF BOTH: Fm.td, op_tidy -/
section OPW7
variable {L : Nat} {xs : Nat → Int32} {S : St} {h : Hp}
theorem Fm.td {h0 : Hp} : ∀ (n : Nat) {S : St} {h : Hp}, CR S h → MW S → OA S → Fm 0 0 h0 h → Fm 0 0 h0 (cTdH n S h) := by
  intro n
  induction n with
  | zero => intro S h _ _ _ x; exact x
  | succ n ih =>
    intro S h hR hW hA x
    by_cases c0 : (sPk2 S (cT S)).2.1 < 0
    · simp only [cTdH, c0, if_true]
      exact x
    · simp only [cTdH, c0, if_false]
      obtain ⟨p1, p2, p3, p4, p5⟩ := sPk_get hW c0
      refine ih (S := sMv S) (hR.mb hW hA c0) hW (sMv_OA hW hA c0) ?_
      unfold cMB
      rw [if_neg c0]
      exact x.mv (hR.thF p1) (hR.shF (hA _ p1 p3).2) (hR.shF p2)
theorem op_tidy (hI : IV L xs S h) (x : Int32) : OpK nX5_tidy nX6_tidy [.int x] L xs h := by
  obtain ⟨hM, hR, hW, hSI, -⟩ := id hI
  by_cases q : sIn x 0 50 = 1 ∧ sOpen S = 0
  · obtain ⟨e, b⟩ := RG_in2 (M := 50) (by decide) (by decide) (by decide) q.1
    generalize x.toNatClampNeg = n at e b
    subst e
    exact op_mk hI (bX5_tidy_ok 2 hR hW hSI.sr hSI.oa n b q.2) (Fm.td n hR hW hSI.oa (Fm.rfl' h)) (by decide) (by decide) (CR.td n hR hW hSI.oa).1 (fun m => rX6_tidy_ok 3 m S hW hSI.oa n b q.2) (SI.td n hSI hW)
  · exact op_rd hI (bX5_tidy_no 2 hR hW x q) (fun m => rX6_tidy_no 3 m S hW x q)
end OPW7
