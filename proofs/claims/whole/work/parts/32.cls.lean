/-! THE CLASS: its small methods, over S -/
/-- a Thing's cell that shows row t of S -/
def TV (S : St) (h : Hp) (a t : Nat) : Prop := Ob h a 4 ∧ am_i h a 0 = S 21 t ∧ am_i h a 1 = S 22 t ∧ am_i h a 2 = S 30 t ∧ am_i h a 4 = S 23 t ∧ am_i h a 5 = S 24 t
theorem CR.tv {S : St} {h : Hp} (hR : CR S h) {t : Nat} (ht : t < cT S) : TV S h (thA h t) t := ⟨hR.th_ob t ht, hR.th0 t ht, hR.th1 t ht, hR.th2 t ht, hR.th4 t ht, hR.th5 t ht⟩
theorem cMis_eq2 {S : St} {t s : Nat} (h0 : RG (S 10 0) 100000) (h1 : RG (S 24 t) 100000) (h2 : RG (S 18 s) 99) : cMis (S 18 s) (S 24 t) (S 10 0) = sMis S t s := by
  unfold cMis sMis
  have e : cWant (S 24 t) (S 10 0) = sWant S t := cWant_eq h1 h0
  rw [e]
  have h3 := sWant_RG h1 h0
  exact ab_gap ⟨h2.1, by have := h2.2; omega⟩ ⟨h3.1, by have := h3.2; omega⟩
section BR
variable {h : Hp} {S : St}
theorem bX4_wanted (d : Nat) (hS : SR S) {a t : Nat} (hV : TV S h a t) (ht : RG (S 24 t) 100000) : Res (d + 1) nX4_wanted [.ref a, .int (S 10 0)] h (some (.int (sWant S t))) h := by
  have q := rX4_wanted (h := h) d a hV.1 (S 10 0)
  rw [hV.2.2.2.2.2, cWant_eq ht hS.1] at q
  exact q
theorem bX4_misfitOn (d : Nat) (hR : CR S h) (hS : SR S) {a t s : Nat} (hV : TV S h a t) (ht : RG (S 24 t) 100000) (hs : s < cS S) : Res (d + 2) nX4_misfitOn [.ref a, .ref (shA h s), .int (S 10 0)] h (some (.int (sMis S t s))) h := by
  have q := rX4_misfitOn (h := h) d a hV.1 (shA h s) (hR.sh_ob s hs) (S 10 0)
  rw [hV.2.2.2.2.2, hR.sh4 s hs, cMis_eq2 hS.1 ht (hS.2.2 s hs)] at q
  exact q
theorem bX4_misfitHere (d : Nat) (hR : CR S h) (hS : SR S) {t : Nat} (ht : t < cT S) (h26 : S 26 t = 0) (hO : OW S t) : Res (d + 3) nX4_misfitHere [.ref (thA h t), .int (S 10 0)] h (some (.int (sMis S t (onN S t)))) h := by
  have q := rX4_misfitHere (h := h) d (thA h t) (hR.th_ob t ht) (shA h (onN S t)) (hR.sh_ob _ hO.2) (by rw [hR.th_p t ht, if_pos h26]) (S 10 0)
  rw [hR.th5 t ht, hR.sh4 _ hO.2, cMis_eq2 hS.1 (hS.2.1 t ht) (hS.2.2 _ hO.2)] at q
  exact q
theorem bX4_misfitHereN (d : Nat) (hR : CR S h) {t : Nat} (ht : t < cT S) (h26 : ¬ S 26 t = 0) (now : Int32) : Res (d + 3) nX4_misfitHere [.ref (thA h t), .int now] h (some (.int (-1))) h :=
  rX4_misfitHereN (h := h) d (thA h t) (hR.th_ob t ht) (by rw [hR.th_p t ht, if_neg h26]) now
theorem bX4_placeNumber (d : Nat) (hR : CR S h) {t : Nat} (ht : t < cT S) (h26 : S 26 t = 0) (hO : OW S t) : Res (d + 1) nX4_placeNumber [.ref (thA h t)] h (some (.int (S 27 t))) h := by
  have q := rX4_placeNumber (h := h) d (thA h t) (hR.th_ob t ht) (shA h (onN S t)) (hR.sh_ob _ hO.2) (by rw [hR.th_p t ht, if_pos h26])
  rw [hR.sh0 _ hO.2, ← hO.1] at q
  exact q
theorem bX4_placeNumberN (d : Nat) (hR : CR S h) {t : Nat} (ht : t < cT S) (h26 : ¬ S 26 t = 0) : Res (d + 1) nX4_placeNumber [.ref (thA h t)] h (some (.int (-1))) h :=
  rX4_placeNumberN (h := h) d (thA h t) (hR.th_ob t ht) (by rw [hR.th_p t ht, if_neg h26])
theorem bX4_isStuck (d : Nat) (hR : CR S h) {t : Nat} (ht : t < cT S) (h26 : S 26 t = 0) (hO : OW S t) : Res (d + 1) nX4_isStuck [.ref (thA h t)] h (some (.int (if S 20 (onN S t) = 0 then 0 else 1))) h := by
  have q := rX4_isStuck (h := h) d (thA h t) (hR.th_ob t ht) (shA h (onN S t)) (hR.sh_ob _ hO.2) (by rw [hR.th_p t ht, if_pos h26])
  rw [hR.sh7 _ hO.2] at q
  exact q
theorem bX4_isStuckN (d : Nat) (hR : CR S h) {t : Nat} (ht : t < cT S) (h26 : ¬ S 26 t = 0) : Res (d + 1) nX4_isStuck [.ref (thA h t)] h (some (.int 0)) h :=
  rX4_isStuckN (h := h) d (thA h t) (hR.th_ob t ht) (by rw [hR.th_p t ht, if_neg h26])
theorem bX4_dueDay (d : Nat) (hR : CR S h) {t : Nat} (ht : t < cT S) : Res (d + 2) nX4_dueDay [.ref (thA h t)] h (some (.int (S 24 t / 1440))) h := by
  have q := rX4_dueDay (h := h) d (thA h t) (hR.th_ob t ht)
  rw [hR.th5 t ht] at q
  exact q
theorem bX4_markAt (d : Nat) (hR : CR S h) {t : Nat} (ht : t < cT S) (k : Int32) : Res (d + 1) nX4_markAt [.ref (thA h t), .int k] h (some (.int (sMk (S 23 t) k))) h := by
  have q := rX4_markAt (h := h) d (thA h t) (hR.th_ob t ht) k
  rw [hR.th4 t ht] at q
  exact q
theorem bX3_fits (d : Nat) (hR : CR S h) {a t s : Nat} (hV : TV S h a t) (hs : s < cS S) : Res (d + 2) nX3_fits [.ref (shA h s), .ref a] h (some (.int (sFits S t s))) h := by
  have q := rX3_fits (h := h) d a hV.1 (shA h s) (hR.sh_ob s hs)
  have e : cFits h (shA h s) a = sFits S t s := by
    unfold cFits cSuit sFits sSuit
    rw [hR.sh7 s hs, hR.sh2 s hs, hR.sh3 s hs, hR.sh5 s hs, hV.2.1, hV.2.2.1, hV.2.2.2.1]
    by_cases q1 : S 20 s = 0 <;> by_cases q2 : S 22 t ≤ S 17 s <;> by_cases q3 : S 19 s = S 30 t <;> simp [q1, q2, q3]
  rw [e] at q
  exact q
end BR

set_option maxRecDepth 4000 in
theorem bX5_today (d : Nat) {h : Hp} {S : St} (hR : CR S h) (hW : MW S)  : Res (d + 2) nX5_today [.ref 1] h (some (.int (S 10 0 / 1440))) h := by
  have hC := hR.1
  have h5 := hW.1.2
  have h11 := hW.2.1.2
  have h12 := hW.2.2.1.2
  have h29 := hW.2.2.2.2
  refine Res_intro (ls := [some (.ref 1)]) aX5_today rfl rfl rfl rfl ?_
  show WP kX5_today _ _ _ _ _ _
  refine wp_aload_n eX5_today_0 rfl ?_
  refine wp_getI (v := S 10 0) eX5_today_1 (show Ob h 1 5 from hC.ob) rfl hR.c10 ?_
  refine wp_stat (rv := (some (.int ((S 10 0) / 1440)))) (h' := h) (r := []) eX5_today_4 [.int (S 10 0)] rfl rfl rfl rfl (rX5_dayOf _ _) ?_
  exact wp_iret eX5_today_7 ⟨congrArg (fun z => some (Value.int z)) (rfl), rfl⟩

set_option maxRecDepth 4000 in
theorem bX5_isOpen (d : Nat) {h : Hp} {S : St} (hR : CR S h) (hW : MW S)  : Res (d + 1) nX5_isOpen [.ref 1] h (some (.int (sOpen S))) h := by
  have hC := hR.1
  have h5 := hW.1.2
  have h11 := hW.2.1.2
  have h12 := hW.2.2.1.2
  have h29 := hW.2.2.2.2
  refine Res_intro (ls := [some (.ref 1), none]) aX5_isOpen rfl rfl rfl rfl ?_
  show WP kX5_isOpen _ _ _ _ _ _
  refine wp_aload_n eX5_isOpen_0 rfl ?_
  refine wp_getI (v := S 10 0) eX5_isOpen_1 (show Ob h 1 5 from hC.ob) rfl hR.c10 ?_
  refine wp_sipush (v := 1440) eX5_isOpen_4 rfl ?_
  refine wp_irem eX5_isOpen_7 (by decide) ?_
  refine wp_istore_n (ls' := [some (.ref 1), some (.int (md (S 10 0) 1440))]) eX5_isOpen_8 rfl rfl ?_
  refine wp_iload_n eX5_isOpen_9 rfl ?_
  refine wp_aload_n eX5_isOpen_10 rfl ?_
  refine wp_getI (v := S 10 1) eX5_isOpen_11 (show Ob h 1 5 from hC.ob) rfl hR.c11 ?_
  refine wp_icmp eX5_isOpen_14 (fun (c_14 : (md (S 10 0) 1440) < (S 10 1)) => ?_) (fun (c_14 : ¬ ((md (S 10 0) 1440) < (S 10 1))) => ?_)
  · refine wp_iconst (v := 0) eX5_isOpen_29 rfl ?_
    exact wp_zret eX5_isOpen_30 (by first | exact Or.inl rfl | exact Or.inr rfl | assumption) ⟨congrArg (fun z => some (Value.int z)) (by unfold sOpen; (repeat' split) <;> first | rfl | (exfalso; simp_all; done) | (exfalso; simp only [Int32.lt_iff_toInt_lt, Int32.le_iff_toInt_le, ← Int32.toInt_inj, Int32.reduceToInt] at *; omega)), rfl⟩
  · refine wp_iload_n eX5_isOpen_17 rfl ?_
    refine wp_aload_n eX5_isOpen_18 rfl ?_
    refine wp_getI (v := S 10 2) eX5_isOpen_19 (show Ob h 1 5 from hC.ob) rfl hR.c12 ?_
    refine wp_icmp eX5_isOpen_22 (fun (c_22 : (S 10 2) ≤ (md (S 10 0) 1440)) => ?_) (fun (c_22 : ¬ ((S 10 2) ≤ (md (S 10 0) 1440))) => ?_)
    · refine wp_iconst (v := 0) eX5_isOpen_29 rfl ?_
      exact wp_zret eX5_isOpen_30 (by first | exact Or.inl rfl | exact Or.inr rfl | assumption) ⟨congrArg (fun z => some (Value.int z)) (by unfold sOpen; (repeat' split) <;> first | rfl | (exfalso; simp_all; done) | (exfalso; simp only [Int32.lt_iff_toInt_lt, Int32.le_iff_toInt_le, ← Int32.toInt_inj, Int32.reduceToInt] at *; omega)), rfl⟩
    · refine wp_iconst (v := 1) eX5_isOpen_25 rfl ?_
      refine wp_goto eX5_isOpen_26 ?_
      exact wp_zret eX5_isOpen_30 (by first | exact Or.inl rfl | exact Or.inr rfl | assumption) ⟨congrArg (fun z => some (Value.int z)) (by unfold sOpen; (repeat' split) <;> first | rfl | (exfalso; simp_all; done) | (exfalso; simp only [Int32.lt_iff_toInt_lt, Int32.le_iff_toInt_le, ← Int32.toInt_inj, Int32.reduceToInt] at *; omega)), rfl⟩

set_option maxRecDepth 4000 in
theorem bX5_shelfAt (d : Nat) {h : Hp} {S : St} (hR : CR S h) (hW : MW S) (k : Nat) (hk : k < cS S) : Res (d + 2) nX5_shelfAt [.ref 1, .int (nI k)] h (some (.ref (shA h k))) h := by
  have hC := hR.1
  have h5 := hW.1.2
  have h11 := hW.2.1.2
  have h12 := hW.2.2.1.2
  have h29 := hW.2.2.2.2
  refine Res_intro (ls := [some (.ref 1), some (.int (nI k))]) aX5_shelfAt rfl rfl rfl rfl ?_
  show WP kX5_shelfAt _ _ _ _ _ _
  refine wp_iload_n eX5_shelfAt_0 rfl ?_
  refine wp_iconst (v := 0) eX5_shelfAt_1 rfl ?_
  refine wp_aload_n eX5_shelfAt_2 rfl ?_
  refine wp_getI (v := S 10 11) eX5_shelfAt_3 (show Ob h 1 5 from hC.ob) rfl hR.c1 ?_
  refine wp_iconst (v := 1) eX5_shelfAt_6 rfl ?_
  refine wp_isub eX5_shelfAt_7 ?_
  refine wp_stat (rv := (some (.int (sIn (nI k) 0 ((S 10 11) - 1))))) (h' := h) (r := []) eX5_shelfAt_8 [.int (nI k), .int 0, .int ((S 10 11) - 1)] rfl rfl rfl rfl (rX5_isWithin _ _ _ _) ?_
  refine wp_ifF eX5_shelfAt_11 (show ¬ ((sIn (nI k) 0 ((S 10 11) - 1)) = 0) from (by rw [sIn_in hW.2.1.1 hk (by omega)]; decide)) ?_
  refine wp_aload_n eX5_shelfAt_14 rfl ?_
  refine wp_getR (v := 2) eX5_shelfAt_15 (show Ob h 1 5 from hC.ob) rfl hC.r0 ?_
  refine wp_iload_n eX5_shelfAt_18 rfl ?_
  refine wp_aal (v := shA h k) (t := k) eX5_shelfAt_19 (show Ar h 2 9 16 from hC.a2) rfl rfl (by omega) rfl (hR.sh_r k (by omega)) ?_
  refine wp_goto eX5_shelfAt_20 ?_
  exact wp_aret eX5_shelfAt_24 ⟨congrArg (fun z => some (Value.ref z)) (rfl), rfl⟩

set_option maxRecDepth 4000 in
theorem bX5_shelfAtN (d : Nat) {h : Hp} {S : St} (hR : CR S h) (hW : MW S) (x : Int32) (hx : ∀ c, c < cS S → ¬ x = nI c) : Res (d + 2) nX5_shelfAt [.ref 1, .int x] h (some (va_rf none)) h := by
  have hC := hR.1
  have h5 := hW.1.2
  have h11 := hW.2.1.2
  have h12 := hW.2.2.1.2
  have h29 := hW.2.2.2.2
  refine Res_intro (ls := [some (.ref 1), some (.int x)]) aX5_shelfAt rfl rfl rfl rfl ?_
  show WP kX5_shelfAt _ _ _ _ _ _
  refine wp_iload_n eX5_shelfAt_0 rfl ?_
  refine wp_iconst (v := 0) eX5_shelfAt_1 rfl ?_
  refine wp_aload_n eX5_shelfAt_2 rfl ?_
  refine wp_getI (v := S 10 11) eX5_shelfAt_3 (show Ob h 1 5 from hC.ob) rfl hR.c1 ?_
  refine wp_iconst (v := 1) eX5_shelfAt_6 rfl ?_
  refine wp_isub eX5_shelfAt_7 ?_
  refine wp_stat (rv := (some (.int (sIn x 0 ((S 10 11) - 1))))) (h' := h) (r := []) eX5_shelfAt_8 [.int x, .int 0, .int ((S 10 11) - 1)] rfl rfl rfl rfl (rX5_isWithin _ _ _ _) ?_
  refine wp_ifT eX5_shelfAt_11 (show (sIn x 0 ((S 10 11) - 1)) = 0 from (sIn_out hW.2.1.1 hx (by omega))) ?_
  refine wp_null eX5_shelfAt_23 ?_
  exact wp_aretO eX5_shelfAt_24 ⟨congrArg (fun z => some (va_rf z)) (rfl), rfl⟩

set_option maxRecDepth 4000 in
theorem bX5_thingAt (d : Nat) {h : Hp} {S : St} (hR : CR S h) (hW : MW S) (k : Nat) (hk : k < cT S) : Res (d + 2) nX5_thingAt [.ref 1, .int (nI k)] h (some (.ref (thA h k))) h := by
  have hC := hR.1
  have h5 := hW.1.2
  have h11 := hW.2.1.2
  have h12 := hW.2.2.1.2
  have h29 := hW.2.2.2.2
  refine Res_intro (ls := [some (.ref 1), some (.int (nI k))]) aX5_thingAt rfl rfl rfl rfl ?_
  show WP kX5_thingAt _ _ _ _ _ _
  refine wp_iload_n eX5_thingAt_0 rfl ?_
  refine wp_iconst (v := 0) eX5_thingAt_1 rfl ?_
  refine wp_aload_n eX5_thingAt_2 rfl ?_
  refine wp_getI (v := S 10 12) eX5_thingAt_3 (show Ob h 1 5 from hC.ob) rfl hR.c3 ?_
  refine wp_iconst (v := 1) eX5_thingAt_6 rfl ?_
  refine wp_isub eX5_thingAt_7 ?_
  refine wp_stat (rv := (some (.int (sIn (nI k) 0 ((S 10 12) - 1))))) (h' := h) (r := []) eX5_thingAt_8 [.int (nI k), .int 0, .int ((S 10 12) - 1)] rfl rfl rfl rfl (rX5_isWithin _ _ _ _) ?_
  refine wp_ifF eX5_thingAt_11 (show ¬ ((sIn (nI k) 0 ((S 10 12) - 1)) = 0) from (by rw [sIn_in hW.2.2.1.1 hk (by omega)]; decide)) ?_
  refine wp_aload_n eX5_thingAt_14 rfl ?_
  refine wp_getR (v := 3) eX5_thingAt_15 (show Ob h 1 5 from hC.ob) rfl hC.r2 ?_
  refine wp_iload_n eX5_thingAt_18 rfl ?_
  refine wp_aal (v := thA h k) (t := k) eX5_thingAt_19 (show Ar h 3 10 120 from hC.a3) rfl rfl (by omega) rfl (hR.th_r k (by omega)) ?_
  refine wp_goto eX5_thingAt_20 ?_
  exact wp_aret eX5_thingAt_24 ⟨congrArg (fun z => some (Value.ref z)) (rfl), rfl⟩

set_option maxRecDepth 4000 in
theorem bX5_thingAtN (d : Nat) {h : Hp} {S : St} (hR : CR S h) (hW : MW S) (x : Int32) (hx : ∀ c, c < cT S → ¬ x = nI c) : Res (d + 2) nX5_thingAt [.ref 1, .int x] h (some (va_rf none)) h := by
  have hC := hR.1
  have h5 := hW.1.2
  have h11 := hW.2.1.2
  have h12 := hW.2.2.1.2
  have h29 := hW.2.2.2.2
  refine Res_intro (ls := [some (.ref 1), some (.int x)]) aX5_thingAt rfl rfl rfl rfl ?_
  show WP kX5_thingAt _ _ _ _ _ _
  refine wp_iload_n eX5_thingAt_0 rfl ?_
  refine wp_iconst (v := 0) eX5_thingAt_1 rfl ?_
  refine wp_aload_n eX5_thingAt_2 rfl ?_
  refine wp_getI (v := S 10 12) eX5_thingAt_3 (show Ob h 1 5 from hC.ob) rfl hR.c3 ?_
  refine wp_iconst (v := 1) eX5_thingAt_6 rfl ?_
  refine wp_isub eX5_thingAt_7 ?_
  refine wp_stat (rv := (some (.int (sIn x 0 ((S 10 12) - 1))))) (h' := h) (r := []) eX5_thingAt_8 [.int x, .int 0, .int ((S 10 12) - 1)] rfl rfl rfl rfl (rX5_isWithin _ _ _ _) ?_
  refine wp_ifT eX5_thingAt_11 (show (sIn x 0 ((S 10 12) - 1)) = 0 from (sIn_out hW.2.2.1.1 hx (by omega))) ?_
  refine wp_null eX5_thingAt_23 ?_
  exact wp_aretO eX5_thingAt_24 ⟨congrArg (fun z => some (va_rf z)) (rfl), rfl⟩

set_option maxRecDepth 4000 in
theorem bX5_claimAt (d : Nat) {h : Hp} {S : St} (hR : CR S h) (hW : MW S) (k : Nat) (hk : k < cC S) : Res (d + 2) nX5_claimAt [.ref 1, .int (nI k)] h (some (.ref (clA h k))) h := by
  have hC := hR.1
  have h5 := hW.1.2
  have h11 := hW.2.1.2
  have h12 := hW.2.2.1.2
  have h29 := hW.2.2.2.2
  refine Res_intro (ls := [some (.ref 1), some (.int (nI k))]) aX5_claimAt rfl rfl rfl rfl ?_
  show WP kX5_claimAt _ _ _ _ _ _
  refine wp_iload_n eX5_claimAt_0 rfl ?_
  refine wp_iconst (v := 0) eX5_claimAt_1 rfl ?_
  refine wp_aload_n eX5_claimAt_2 rfl ?_
  refine wp_getI (v := S 10 29) eX5_claimAt_3 (show Ob h 1 5 from hC.ob) rfl hR.c5 ?_
  refine wp_iconst (v := 1) eX5_claimAt_6 rfl ?_
  refine wp_isub eX5_claimAt_7 ?_
  refine wp_stat (rv := (some (.int (sIn (nI k) 0 ((S 10 29) - 1))))) (h' := h) (r := []) eX5_claimAt_8 [.int (nI k), .int 0, .int ((S 10 29) - 1)] rfl rfl rfl rfl (rX5_isWithin _ _ _ _) ?_
  refine wp_ifF eX5_claimAt_11 (show ¬ ((sIn (nI k) 0 ((S 10 29) - 1)) = 0) from (by rw [sIn_in hW.2.2.2.1 hk (by omega)]; decide)) ?_
  refine wp_aload_n eX5_claimAt_14 rfl ?_
  refine wp_getR (v := 4) eX5_claimAt_15 (show Ob h 1 5 from hC.ob) rfl hC.r4 ?_
  refine wp_iload_n eX5_claimAt_18 rfl ?_
  refine wp_aal (v := clA h k) (t := k) eX5_claimAt_19 (show Ar h 4 11 40 from hC.a4) rfl rfl (by omega) rfl (hR.cl_r k (by omega)) ?_
  refine wp_goto eX5_claimAt_20 ?_
  exact wp_aret eX5_claimAt_24 ⟨congrArg (fun z => some (Value.ref z)) (rfl), rfl⟩

set_option maxRecDepth 4000 in
theorem bX5_claimAtN (d : Nat) {h : Hp} {S : St} (hR : CR S h) (hW : MW S) (x : Int32) (hx : ∀ c, c < cC S → ¬ x = nI c) : Res (d + 2) nX5_claimAt [.ref 1, .int x] h (some (va_rf none)) h := by
  have hC := hR.1
  have h5 := hW.1.2
  have h11 := hW.2.1.2
  have h12 := hW.2.2.1.2
  have h29 := hW.2.2.2.2
  refine Res_intro (ls := [some (.ref 1), some (.int x)]) aX5_claimAt rfl rfl rfl rfl ?_
  show WP kX5_claimAt _ _ _ _ _ _
  refine wp_iload_n eX5_claimAt_0 rfl ?_
  refine wp_iconst (v := 0) eX5_claimAt_1 rfl ?_
  refine wp_aload_n eX5_claimAt_2 rfl ?_
  refine wp_getI (v := S 10 29) eX5_claimAt_3 (show Ob h 1 5 from hC.ob) rfl hR.c5 ?_
  refine wp_iconst (v := 1) eX5_claimAt_6 rfl ?_
  refine wp_isub eX5_claimAt_7 ?_
  refine wp_stat (rv := (some (.int (sIn x 0 ((S 10 29) - 1))))) (h' := h) (r := []) eX5_claimAt_8 [.int x, .int 0, .int ((S 10 29) - 1)] rfl rfl rfl rfl (rX5_isWithin _ _ _ _) ?_
  refine wp_ifT eX5_claimAt_11 (show (sIn x 0 ((S 10 29) - 1)) = 0 from (sIn_out hW.2.2.2.1 hx (by omega))) ?_
  refine wp_null eX5_claimAt_23 ?_
  exact wp_aretO eX5_claimAt_24 ⟨congrArg (fun z => some (va_rf z)) (rfl), rfl⟩

theorem cnt_pos {x : Int32} {n : Nat} (hx : x = nI n) (h : ¬ x ≤ 0) : 0 < n := by
  rcases Nat.eq_zero_or_pos n with z | z
  · subst z; rw [hx] at h; exact absurd (by decide) h
  · exact z

set_option maxRecDepth 4000 in
theorem bX5_lastRowDay (d : Nat) {h : Hp} {S : St} (hR : CR S h) (hW : MW S)  : Res (d + 1) nX5_lastRowDay [.ref 1] h (some (.int (if S 10 5 ≤ 0 then -1 else S 11 (cR S - 1)))) h := by
  have hC := hR.1
  have h5 := hW.1.2
  have h11 := hW.2.1.2
  have h12 := hW.2.2.1.2
  have h29 := hW.2.2.2.2
  refine Res_intro (ls := [some (.ref 1), none]) aX5_lastRowDay rfl rfl rfl rfl ?_
  show WP kX5_lastRowDay _ _ _ _ _ _
  refine wp_aload_n eX5_lastRowDay_0 rfl ?_
  refine wp_getI (v := S 10 5) eX5_lastRowDay_1 (show Ob h 1 5 from hC.ob) rfl hR.c7 ?_
  refine wp_if eX5_lastRowDay_4 (fun (c_4 : (S 10 5) ≤ 0) => ?_) (fun (c_4 : ¬ ((S 10 5) ≤ 0)) => ?_)
  · refine wp_null eX5_lastRowDay_21 ?_
    refine wp_astore_nO (ls' := [some (.ref 1), some (va_rf none)]) eX5_lastRowDay_22 rfl rfl ?_
    refine wp_aload_nO eX5_lastRowDay_23 rfl ?_
    refine wp_ifnonnullF eX5_lastRowDay_24 ?_
    refine wp_iconst (v := (-1)) eX5_lastRowDay_27 rfl ?_
    refine wp_goto eX5_lastRowDay_28 ?_
    exact wp_iret eX5_lastRowDay_35 ⟨congrArg (fun z => some (Value.int z)) (by split <;> first | rfl | (exfalso; simp_all; done)), rfl⟩
  · refine wp_aload_n eX5_lastRowDay_7 rfl ?_
    refine wp_getR (v := 5) eX5_lastRowDay_8 (show Ob h 1 5 from hC.ob) rfl hC.r6 ?_
    refine wp_aload_n eX5_lastRowDay_11 rfl ?_
    refine wp_getI (v := S 10 5) eX5_lastRowDay_12 (show Ob h 1 5 from hC.ob) rfl hR.c7 ?_
    refine wp_iconst (v := 1) eX5_lastRowDay_15 rfl ?_
    refine wp_isub eX5_lastRowDay_16 ?_
    refine wp_top (y := nI (cR S - 1)) (cnt_pred hW.1.1 c_4 (by omega)) ?_
    have hpos : 0 < cR S := cnt_pos hW.1.1 c_4
    refine wp_aal (v := roA h (cR S - 1)) (t := cR S - 1) eX5_lastRowDay_17 (show Ar h 5 12 12 from hC.a5) rfl rfl (by omega) rfl (hR.ro_r (cR S - 1) (by omega)) ?_
    refine wp_goto eX5_lastRowDay_18 ?_
    refine wp_astore_n (ls' := [some (.ref 1), some (.ref (roA h (cR S - 1)))]) eX5_lastRowDay_22 rfl rfl ?_
    refine wp_aload_n eX5_lastRowDay_23 rfl ?_
    refine wp_ifnonnullT eX5_lastRowDay_24 ?_
    refine wp_aload_n eX5_lastRowDay_31 rfl ?_
    refine wp_getI (v := S 11 (cR S - 1)) eX5_lastRowDay_32 (show Ob h (roA h (cR S - 1)) 2 from hR.ro_ob (cR S - 1) (by omega)) rfl (hR.ro0 (cR S - 1) (by omega)) ?_
    exact wp_iret eX5_lastRowDay_35 ⟨congrArg (fun z => some (Value.int z)) (by split <;> first | rfl | (exfalso; simp_all; done)), rfl⟩
