/-! ONE CALL OF BOTH: Fm.fallN, op_clock -/
section OPW2
variable {L : Nat} {xs : Nat → Int32} {S : St} {h : Hp}
theorem Fm.fallN {h0 : Hp} : ∀ (n t : Nat) {S : St} {h : Hp}, t + n ≤ cT S → CR S h → MW S → Fm 0 0 h0 h → Fm 0 0 h0 (cFallN n t S h) := by
  intro n
  induction n with
  | zero => intro t S h _ _ _ x; exact x
  | succ n ih =>
    intro t S h hn hR hW x
    have e3 := sClk1_MW t hW
    refine ih (t + 1) (by rw [e3.2]; omega) (hR.fall (by omega)) e3.1 ?_
    unfold cFall
    split
    · exact ((x.setI 13 _ f1).setI 9 _ (hR.thF (by omega))).setI 7 _ (hR.thF (by omega))
    · exact x
theorem op_clock (hI : IV L xs S h) (n : Int32) : OpK nX5_clock nX6_clock [.int n] L xs h := by
  obtain ⟨hM, hR, hW, hSI, -⟩ := id hI
  have hc := bX5_clock 3 hR hW n
  have hS := hSI.clock hW n
  have hr := fun {g : Hp} (m : MOK g) => rX6_clock 6 m S hW n
  unfold sClk at hS hr
  by_cases k : kClk S n = true
  · simp only [k, if_true] at hc hS hr
    exact op_mk hI hc (Fm.fallN (cT S) 0 (by show 0 + cT S ≤ cT S; omega) (hR.minute _) hW ((Fm.rfl' h).setI 10 _ f1)) (by decide) (by decide) (fall_min hR hW n) (fun m => hr m) hS
  · simp only [k, if_false] at hc hS hr
    exact op_rd hI hc (fun m => hr m)
end OPW2
