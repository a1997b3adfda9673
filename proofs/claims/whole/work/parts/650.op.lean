/-! ONE CALL OF BOTH: the calls that write -/
theorem sLeave_till {S : St} {t : Nat} {w v : Int32} : sLeave (up2 S 10 3 v) t w = up2 (sLeave S t w) 10 3 v := by
  show up2 (up2 (up2 S 10 3 v) 10 4 (S 10 4 + 2 * S 18 (onN S t))) 26 t w = up2 (up2 (up2 S 10 4 (S 10 4 + 2 * S 18 (onN S t))) 26 t w) 10 3 v
  rw [up2_comm (S := S) (a := 10) (k := 3) (b := 10) (l := 4) (by omega), up2_comm (S := up2 S 10 4 (S 10 4 + 2 * S 18 (onN S t))) (a := 10) (k := 3) (b := 26) (l := t) (by omega)]
theorem sLeave_coins {S : St} {t : Nat} {w v : Int32} : sLeave (up2 S 28 t v) t w = up2 (sLeave S t w) 28 t v := by
  show up2 (up2 (up2 S 28 t v) 10 4 (S 10 4 + 2 * S 18 (onN S t))) 26 t w = up2 (up2 (up2 S 10 4 (S 10 4 + 2 * S 18 (onN S t))) 26 t w) 28 t v
  rw [up2_comm (S := S) (a := 28) (k := t) (b := 10) (l := 4) (by omega), up2_comm (S := up2 S 10 4 (S 10 4 + 2 * S 18 (onN S t))) (a := 28) (k := t) (b := 26) (l := t) (by omega)]
section OPW
variable {L : Nat} {xs : Nat → Int32} {S : St} {h : Hp}
theorem CR.shF (hR : CR S h) {k : Nat} (hk : k < cS S) : ¬ Fc (shA h k) := Fc.no (Or.inr (hR.sh_38 k hk))
theorem CR.thF (hR : CR S h) {k : Nat} (hk : k < cT S) : ¬ Fc (thA h k) := Fc.no (Or.inr (hR.th_38 k hk))
theorem CR.clF (hR : CR S h) {k : Nat} (hk : k < cC S) : ¬ Fc (clA h k) := Fc.no (Or.inr (hR.cl_38 k hk))
theorem CR.toF (hR : CR S h) {k : Nat} (hk : k < cC S) : ¬ Fc (toA h k) := Fc.no (Or.inr (hR.cl_t38 k hk))
theorem f1 : ¬ Fc 1 := Fc.no (Or.inl (by decide))
theorem Fm.lv {p q : Nat} {h0 h : Hp} (x : Fm p q h0 h) {a s : Nat} {w : Int32} (ha : ¬ Fc a) (hs : ¬ Fc s) : Fm p q h0 (cLv h a s w) :=
  ((((x.setI 14 _ f1).setI 5 _ hs).setI 6 _ hs).setR 8 none ha).setI 7 w ha
theorem Fm.mv {p q : Nat} {h0 h : Hp} (x : Fm p q h0 h) {a s k : Nat} (ha : ¬ Fc a) (hs : ¬ Fc s) (hk : ¬ Fc k) : Fm p q h0 (cMvH h a s k) :=
  ((((((x.setI 14 _ f1).setI 5 _ hs).setI 6 _ hs).setR 8 none ha).setI 5 _ hk).setI 6 _ hk).setR 8 (some k) ha
end OPW
