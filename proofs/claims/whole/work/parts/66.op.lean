/-! ONE CALL OF BOTH: the calls that make cells -/
theorem cN2_i (h : Hp) (v0 v1 v2 v3 v4 : Int32) (j : Nat) : am_i (cN2 h v0 v1 v2 v3 v4) (am_n h) j = if j = 4 then v4 else if j = 3 then v3 else if j = 2 then v2 else if j = 1 then v1 else if j = 0 then v0 else 0 := by
  unfold cN2
  simp only [am_i_setI, am_i_new, true_and]
theorem cN3_i (h : Hp) (v0 v1 v2 v3 v4 : Int32) (j : Nat) : am_i (cN3 h v0 v1 v2 v3 v4) (am_n h) j = if j = 5 then v1 else if j = 4 then v4 else if j = 3 then v3 else if j = 2 then v2 else if j = 1 then v1 else if j = 0 then v0 else 0 := by
  unfold cN3
  simp only [am_i_setI, am_i_new, true_and]
theorem cN1_i (h : Hp) (j : Nat) : am_i (cN1 h) (am_n h) j = if j = 2 then -1 else 0 := by
  have e : ¬ am_n h = am_n h + 1 := by omega
  unfold cN1
  simp only [am_i_setI, am_i_setR, true_and, e, false_and, if_false]
  rw [(congrFun ((Ext.new (am_new h 1 0 3) 7 4 4).2 (am_n h) (Nat.lt_succ_self _)).2.2.1 j), am_i_new]
theorem cN1_t (h : Hp) (j : Nat) (hj : j < 4) : am_i (cN1 h) (am_n h + 1) j = -1 := by
  have e : ¬ am_n h + 1 = am_n h := by omega
  unfold cN1
  simp only [am_i_setI, am_i_setR, true_and, e, false_and, if_false]
  match j, hj with
  | 0, _ => rfl
  | 1, _ => rfl
  | 2, _ => rfl
  | 3, _ => rfl
theorem cN1_r (h : Hp) : am_r (cN1 h) (am_n h) 0 = some (am_n h + 1) := by
  show (if am_n h = am_n h ∧ 0 = 0 then some (am_n h + 1) else _) = _
  rw [if_pos ⟨rfl, rfl⟩]
theorem Ext.eSh {h g : Hp} (x : Ext h g) (c : COK h) (k : Nat) : shA g k = shA h k := by unfold shA; rw [(x.2 2 c.a2.1.2.1).2.2.2]
theorem Ext.eCl {h g : Hp} (x : Ext h g) (c : COK h) (k : Nat) : clA g k = clA h k := by unfold clA; rw [(x.2 4 c.a4.1.2.1).2.2.2]
theorem Ext.eTo {S : St} {h g : Hp} (x : Ext h g) (hR : CR S h) {k : Nat} (hk : k < cC S) : toA g k = toA h k := by unfold toA; rw [x.eCl hR.1, (x.2 _ (hR.cl_ob k hk).2.1).2.2.2]
section OPN
variable {L : Nat} {xs : Nat → Int32} {S : St} {h : Hp}
theorem op_prices (hI : IV L xs S h) (day b1 a1 s1 c1 : Int32) : OpK nX5_prices nX6_prices [.int day, .int b1, .int a1, .int s1, .int c1] L xs h := by
  obtain ⟨hM, hR, hW, hSI, -⟩ := id hI
  have h5 := hW.1.2
  have hc := bX5_prices 4 hR hW day b1 a1 s1 c1 (fun z => by
    have := cnt_pos hW.1.1 (Int32.not_le.mpr z)
    exact Int32.le_trans (by decide) (hSI.row (k := cR S - 1) (by omega)))
  have hr := fun {g : Hp} (m : MOK g) => rX6_prices 5 m S hW day b1 a1 s1 c1
  unfold sPr at hr
  by_cases k : kPr S day b1 a1 s1 c1 = true
  · simp only [k, if_true] at hc hr
    have k2 := of_decide_eq_true k
    have h12 : cR S < 12 := cnt_ne hW.1.1 (show (12 : Int32) = nI 12 from rfl) (by decide) k2.2.1 h5
    have F : ¬ Fc (am_n h) := Fc.no (Or.inr hM.1)
    have X := cN2_ext h day b1 a1 s1 c1
    have v := sPrY_v (S := S) (day := day) (b1 := b1) (a1 := a1) (s1 := s1) (c1 := c1)
    have r : CR (sPrY S day b1 a1 s1 c1) (cEnt (cN2 h day b1 a1 s1 c1) 5 (cR S) (am_n h) 7 (nI (cR S) + 1)) := by
      refine (hR.ext X).gRow hM.1 (cN2_ob h day b1 a1 s1 c1 hR.pos) ⟨?_, ?_, ?_, ?_, ?_⟩ (sPrY_R hW) (by unfold sPrY; exact up2_eq) (fun j e => sPrY_ne (by omega) (by omega)) (fun a q q1 q2 q3 => sPrY_ne (by omega) (fun z => ?_))
      · rw [cN2_i, v.1]; rfl
      · rw [cN2_i, v.2.1]; rfl
      · rw [cN2_i, v.2.2.1]; rfl
      · rw [cN2_i, v.2.2.2.1]; rfl
      · rw [cN2_i, v.2.2.2.2]; rfl
      · rw [uN_r z.2.1] at q3; omega
    have Fx : Fm (0 + 1) (0 + 5) h (cEnt (cN2 h day b1 a1 s1 c1) 5 (cR S) (am_n h) 7 (nI (cR S) + 1)) := (((((((((Fm.rfl' h).new 2 0 5).setI 0 _ F).setI 1 _ F).setI 2 _ F).setI 3 _ F).setI 4 _ F).setR _ _ (Fc.no (Or.inl (by decide)))).setI 7 _ f1)
    exact op_mk hI hc Fx (by decide) (by decide) r (fun m => hr m) (hSI.prices hW day b1 a1 s1 c1 h12 k2.1)
  · simp only [k, if_false] at hc hr
    exact op_rd hI hc (fun m => hr m)
theorem op_shelf (hI : IV L xs S h) (r1 h1 c1 d1 : Int32) (hc1 : c1 = 0 ∨ c1 = 1) : OpK nX5_shelf nX6_shelf [.int r1, .int h1, .int c1, .int d1] L xs h := by
  obtain ⟨hM, hR, hW, hSI, -⟩ := id hI
  have h5 := hW.2.1.2
  have hc := bX5_shelf 5 hR hW r1 h1 c1 d1 hc1
  have hr := fun {g : Hp} (m : MOK g) => rX6_shelf 5 m S hW r1 h1 c1 d1 hc1
  unfold sSh at hr
  by_cases k : kSh S r1 h1 d1 = true
  · simp only [k, if_true] at hc hr
    have k2 := of_decide_eq_true k
    have h16 : cS S < 16 := cnt_ne hW.2.1.1 (show (16 : Int32) = nI 16 from rfl) (by decide) k2.2.2.2 h5
    have F : ¬ Fc (am_n h) := Fc.no (Or.inr hM.1)
    have X := cN3_ext h (nI (cS S)) r1 h1 c1 d1
    have v := sShY_v (S := S) (r1 := r1) (h1 := h1) (c1 := c1) (d1 := d1)
    have r : CR (sShY S r1 h1 c1 d1) (cEnt (cN3 h (nI (cS S)) r1 h1 c1 d1) 2 (cS S) (am_n h) 1 (nI (cS S) + 1)) := by
      refine (hR.ext X).gShelf hSI.oa hW hM.1 (cN3_ob h (nI (cS S)) r1 h1 c1 d1 hR.pos) (fun q hq e => ?_) ⟨?_, ?_, ?_, ?_, ?_, ?_, ?_, ?_⟩ (sShY_S hW) (by unfold sShY; exact up2_eq) (fun j e => sShY_ne (by omega) (by omega)) (fun a q q1 q2 q3 => sShY_ne (by omega) (fun z => ?_))
      · rw [X.eSh hR.1] at e
        have := (hR.sh_ob q hq).2.1
        omega
      · rw [cN3_i]; rfl
      · rw [cN3_i, v.1]; rfl
      · rw [cN3_i, v.2.1]; rfl
      · rw [cN3_i, v.2.2.1]; rfl
      · rw [cN3_i, v.2.2.2]; rfl
      · rw [cN3_i, v.1]; rfl
      · rw [cN3_i]; rfl
      · rw [cN3_i, sShY_ne (by omega) (by omega), hSI.z20 (Nat.le_refl _)]; rfl
      · rw [uN_s z.1 (by omega)] at q3; omega
    have Fx : Fm (0 + 1) (0 + 8) h (cEnt (cN3 h (nI (cS S)) r1 h1 c1 d1) 2 (cS S) (am_n h) 1 (nI (cS S) + 1)) := ((((((((((Fm.rfl' h).new 3 0 8).setI 0 _ F).setI 1 _ F).setI 2 _ F).setI 3 _ F).setI 4 _ F).setI 5 _ F).setR _ _ (Fc.no (Or.inl (by decide)))).setI 1 _ f1)
    exact op_mk hI hc Fx (by decide) (by decide) r (fun m => hr m) (hSI.shelf hW r1 h1 c1 d1 h16 k2.1 k2.2.2.1)
  · simp only [k, if_false] at hc hr
    exact op_rd hI hc (fun m => hr m)
theorem op_claim (hI : IV L xs S h) : OpK nX5_claim nX6_claim [] L xs h := by
  obtain ⟨hM, hR, hW, hSI, -⟩ := id hI
  have h5 := hW.2.2.2.2
  have hc := bX5_claim 5 hR hW
  by_cases k : S 10 29 < 40
  · simp only [k, if_true] at hc
    have h40 : cC S < 40 := by rw [hW.2.2.2.1] at k; exact (nI_ltI (b := 40) (by omega) (by decide)).mp k
    have F : ¬ Fc (am_n h) := Fc.no (Or.inr hM.1)
    have F2 : ¬ Fc (am_n h + 1) := Fc.no (Or.inr (by have := hM.1; omega))
    have X := cN1_ext h
    have r : CR (sClaimS S) (cEnt (cN1 h) 4 (cC S) (am_n h) 5 (nI (cC S) + 1)) := by
      refine (hR.ext X).gClaim hM.1 (b2 := am_n h + 1) (by have := hM.1; omega) (cN1_o h hR.pos) (cN1_a h) (cN1_r h) (fun q hq => ⟨fun e => ?_, fun e => ?_⟩) ⟨?_, ?_, fun j hj => ?_⟩ (sClaimS_C hW) (by unfold sClaimS; exact up2_eq) (fun j e => sClaimS_ne (by omega) (by omega) (by omega)) (fun a q q1 q2 q3 => sClaimS_ne (by omega) (fun z => ?_) (fun z => ?_))
      · rw [X.eCl hR.1] at e
        have := (hR.cl_ob q hq).2.1
        omega
      · rw [X.eTo hR hq] at e
        have := (hR.cl_ta q hq).1.2.1
        omega
      · rw [cN1_i, sClaimS_ne (by omega) (by omega) (by omega), hSI.z34 (Nat.le_refl _)]; rfl
      · rw [cN1_i, sClaimS_33]; rfl
      · rw [cN1_t h j hj, sClaimS_32 hj]
      · obtain ⟨z1, z2⟩ := z
        subst z1
        rw [uN_33] at q3
        omega
      · obtain ⟨z1, z2⟩ := z
        subst z1
        rw [uN_32] at q3
        omega
    have Fx : Fm (0 + 1 + 1) (0 + 3 + 4) h (cEnt (cN1 h) 4 (cC S) (am_n h) 5 (nI (cC S) + 1)) := (((((((((((Fm.rfl' h).new 1 0 3).new 7 4 4).setR 0 _ F).setI 0 _ F2).setI 1 _ F2).setI 2 _ F2).setI 3 _ F2).setI 2 _ F).setR _ _ (Fc.no (Or.inl (by decide)))).setI 5 _ f1)
    exact op_mk hI hc Fx (by decide) (by decide) r (fun m => rX6_claim 6 m S hW h40) (hSI.claim hW h40)
  · simp only [k, if_false] at hc
    exact op_rd hI hc (fun m => rX6_claim_no 6 m S hW (fun z => k (by rw [hW.2.2.2.1]; exact nI_lt (b := 40) z (by decide))))
theorem sBest_fit {t : Nat} : ∀ {n : Nat}, n ≤ 16 → ¬ sBest S t n < 0 → ∃ k, k < n ∧ sBest S t n = nI k ∧ ¬ sFits S t k = 0 := by
  intro n
  induction n with
  | zero => intro _ h; exact absurd (show (-1 : Int32) < 0 by decide) h
  | succ n ih =>
    intro hn h
    unfold sBest at h ⊢
    split
    · rename_i q; rw [if_pos q] at h; obtain ⟨k, h1, h2⟩ := ih (by omega) h; exact ⟨k, by omega, h2⟩
    · rename_i q
      rw [if_neg q] at h
      split
      · exact ⟨n, by omega, rfl, q⟩
      · rename_i q2; rw [if_neg q2] at h; obtain ⟨k, h1, h2⟩ := ih (by omega) h; exact ⟨k, by omega, h2⟩
theorem op_put (hI : IV L xs S h) (s1 h1 c1 l1 m1 d1 : Int32) (hc1 : c1 = 0 ∨ c1 = 1) (hl1 : l1 = 0 ∨ l1 = 1) : OpK nX5_put nX6_put [.int s1, .int h1, .int c1, .int l1, .int m1, .int d1] L xs h := by
  obtain ⟨hM, hR, hW, hSI, -⟩ := id hI
  have h12 := hW.2.2.1.2
  have h16 := hW.2.1.2
  have hc := bX5_put 2 hR hW hSI.sr hM.1 s1 h1 c1 l1 m1 d1 hc1 hl1
  have hr := fun {g : Hp} (m : MOK g) => rX6_put 3 m S hW s1 h1 c1 l1 m1 d1 hc1 hl1
  unfold cPutT at hc
  unfold sPutB at hr
  by_cases k1 : kPut s1 h1 m1 d1 = false
  · simp only [if_pos k1] at hc hr
    exact op_rd hI hc (fun m => hr m)
  · simp only [if_neg k1] at hc hr
    by_cases k2 : sOpen S = 0
    · simp only [if_pos k2] at hc hr
      exact op_rd hI hc (fun m => hr m)
    · simp only [if_neg k2] at hc hr
      by_cases k3 : S 10 12 = 120
      · simp only [if_pos k3] at hc hr
        exact op_rd hI hc (fun m => hr m)
      · simp only [if_neg k3] at hc hr
        have h120 : cT S < 120 := cnt_ne hW.2.2.1.1 (show (120 : Int32) = nI 120 from rfl) (by decide) k3 h12
        have kk : sIn s1 1 20 = 1 ∧ sIn h1 0 2 = 1 ∧ sIn m1 0 65535 = 1 ∧ sIn d1 0 100000 = 1 := by
          have : kPut s1 h1 m1 d1 = true := by
            cases e : kPut s1 h1 m1 d1
            · exact absurd e k1
            · rfl
          exact of_decide_eq_true this
        have F : ¬ Fc (am_n h) := Fc.no (Or.inr hM.1)
        have hR1 := sPut1_CR hR s1 h1 c1 l1 m1 d1 (S 10 0)
        have hT1 := sPut1_TW hR hM.1 s1 h1 c1 l1 m1 d1
        have hS1 := hSI.put1 hW s1 h1 c1 l1 m1 d1
        have Fx : Fm (0 + 1) (0 + 11) h (cN4 h s1 h1 c1 l1 m1 d1 (S 10 0)) := (((((((((((Fm.rfl' h).new 4 0 11).setI 0 _ F).setI 1 _ F).setI 2 _ F).setI 3 _ F).setI 4 _ F).setI 5 _ F).setI 6 _ F).setI 7 _ F).setI 10 _ F)
        unfold cPutH at hc
        unfold sPutS at hr
        by_cases k4 : sBest (sPut1 S s1 h1 c1 l1 m1 d1) (cT S) (cS (sPut1 S s1 h1 c1 l1 m1 d1)) < 0
        · simp only [if_pos k4] at hc hr
          exact op_mk hI hc Fx (by decide) (by decide) hR1 (fun m => hr m) hS1
        · simp only [if_neg k4] at hc hr
          obtain ⟨k, hk, ek, hf⟩ := sBest_fit (S := sPut1 S s1 h1 c1 l1 m1 d1) hS1.1.2.1.2 k4
          have hk2 : k < 16 := by have := hS1.1.2.1.2; omega
          rw [ek, nI_clamp (by omega)] at hc hr
          have e21 : sPut1 S s1 h1 c1 l1 m1 d1 21 (cT S) = s1 := by unfold sPut1; rw [up2_ne (by omega), up2_ne (by omega), up2_ne (by omega), up2_ne (by omega), up2_ne (by omega), up2_eq]
          have e24 : sPut1 S s1 h1 c1 l1 m1 d1 24 (cT S) = d1 := by unfold sPut1; exact up2_eq
          have hS2 := hS1.2.put2 hS1.1 (k := k) h120 hk (by show RG (sPut1 S s1 h1 c1 l1 m1 d1 21 (cT S)) 20; rw [e21]; exact RG_in2 (by decide) (by decide) (by decide) kk.1) (by show RG (sPut1 S s1 h1 c1 l1 m1 d1 24 (cT S)) 100000; rw [e24]; exact RG_in2 (by decide) (by decide) (by decide) kk.2.2.2) hf
          have r := hR1.put hS1.1 (k := k) hT1 hk h120
          have Fs := hR1.shF hk
          have Fy : Fm (0 + 1) (0 + 11) h (cPut2 (sPut1 S s1 h1 c1 l1 m1 d1) (cN4 h s1 h1 c1 l1 m1 d1 (S 10 0)) (am_n h) (cT S) k) := ((((((Fx.setR _ _ (Fc.no (Or.inl (by decide)))).setI 3 _ f1).setI 5 _ Fs).setI 6 _ Fs).setR 8 _ F).setI 14 _ f1)
          exact op_mk hI hc Fy (by decide) (by decide) r (fun m => hr m) hS2
end OPN
