/-! THE CLASS: put -/
def TW (S : St) (h : Hp) (a u : Nat) : Prop := TV S h a u ∧ 38 ≤ a ∧ am_i h a 3 = S 31 u ∧ am_i h a 6 = S 10 0 ∧ am_i h a 7 = 0 ∧ am_i h a 9 = 0 ∧ am_i h a 10 = -1 ∧ ∀ t, t < cT S → ¬ thA h t = a
theorem cN4_i (h : Hp) (v0 v1 v2 v3 v4 v5 v6 : Int32) (j : Nat) : am_i (cN4 h v0 v1 v2 v3 v4 v5 v6) (am_n h) j = if j = 10 then -1 else if j = 7 then 0 else if j = 6 then v6 else if j = 5 then v5 else if j = 4 then v4 else if j = 3 then v3 else if j = 2 then v2 else if j = 1 then v1 else if j = 0 then v0 else 0 := by
  unfold cN4
  simp only [am_i_setI, am_i_new, true_and]
theorem sPut1_ne {S : St} {s1 h1 c1 l1 m1 d1 : Int32} {a k : Nat} (e : ¬ k = cT S ∨ a = 10) : sPut1 S s1 h1 c1 l1 m1 d1 a k = S a k := by
  unfold sPut1
  rw [up2_ne (by omega), up2_ne (by omega), up2_ne (by omega), up2_ne (by omega), up2_ne (by omega), up2_ne (by omega)]
theorem sPut1_CR {S : St} {h : Hp} (hR : CR S h) (s1 h1 c1 l1 m1 d1 v6 : Int32) : CR (sPut1 S s1 h1 c1 l1 m1 d1) (cN4 h s1 h1 c1 l1 m1 d1 v6) :=
  (hR.ext (cN4_ext h _ _ _ _ _ _ _)).rows (fun k => sPut1_ne (Or.inr rfl)) (fun a k h1 h2 h3 => by
    by_cases q : 21 ≤ a ∧ a ≤ 31
    · rw [uN_t q.1 q.2] at h3
      exact sPut1_ne (Or.inl (by omega))
    · unfold sPut1
      rw [up2_ne (by omega), up2_ne (by omega), up2_ne (by omega), up2_ne (by omega), up2_ne (by omega), up2_ne (by omega)])
theorem sPut1_TW {S : St} {h : Hp} (hR : CR S h) (h38 : 38 ≤ am_n h) (s1 h1 c1 l1 m1 d1 : Int32) : TW (sPut1 S s1 h1 c1 l1 m1 d1) (cN4 h s1 h1 c1 l1 m1 d1 (S 10 0)) (am_n h) (cT S) := by
  refine ⟨⟨cN4_ob h _ _ _ _ _ _ _ hR.pos, ?_, ?_, ?_, ?_, ?_⟩, h38, ?_, ?_, ?_, ?_, ?_, ?_⟩
  · rw [cN4_i]; unfold sPut1; rw [up2_ne (by omega), up2_ne (by omega), up2_ne (by omega), up2_ne (by omega), up2_ne (by omega), up2_eq]; rfl
  · rw [cN4_i]; unfold sPut1; rw [up2_ne (by omega), up2_ne (by omega), up2_ne (by omega), up2_ne (by omega), up2_eq]; rfl
  · rw [cN4_i]; unfold sPut1; rw [up2_ne (by omega), up2_ne (by omega), up2_ne (by omega), up2_eq]; rfl
  · rw [cN4_i]; unfold sPut1; rw [up2_ne (by omega), up2_eq]; rfl
  · rw [cN4_i]; unfold sPut1; rw [up2_eq]; rfl
  · rw [cN4_i]; unfold sPut1; rw [up2_ne (by omega), up2_ne (by omega), up2_eq]; rfl
  · rw [cN4_i, sPut1_ne (Or.inr rfl)]; rfl
  · rw [cN4_i]; rfl
  · rw [cN4_i]; rfl
  · rw [cN4_i]; rfl
  · intro t ht e
    have ht : t < cT S := ht
    have := (hR.th_ob t ht).2.1
    have e2 : thA (cN4 h s1 h1 c1 l1 m1 d1 (S 10 0)) t = thA h t := by
      unfold thA
      rw [((cN4_ext h s1 h1 c1 l1 m1 d1 (S 10 0)).2 3 hR.1.a3.1.2.1).2.2.2]
    rw [e2] at e
    omega
theorem kPut_iff (s1 h1 m1 d1 : Int32) : kPut s1 h1 m1 d1 = false ↔ (sIn s1 1 20 = 0 ∨ sIn h1 0 2 = 0 ∨ sIn m1 0 65535 = 0 ∨ sIn d1 0 100000 = 0) := by
  unfold kPut
  rw [decide_eq_false_iff_not]
  rcases sIn_01 s1 1 20 with a | a <;> rcases sIn_01 h1 0 2 with b | b <;> rcases sIn_01 m1 0 65535 with c | c <;> rcases sIn_01 d1 0 100000 with e | e <;> simp [a, b, c, e]

def cPutT (S : St) (h : Hp) (s1 h1 c1 l1 m1 d1 : Int32) : Hp := if kPut s1 h1 m1 d1 = false then h else if sOpen S = 0 then h else if S 10 12 = 120 then h else cPutH (sPut1 S s1 h1 c1 l1 m1 d1) (cN4 h s1 h1 c1 l1 m1 d1 (S 10 0)) (am_n h) (cT S)
theorem RG_in {x : Int32} (h : sIn x 0 100000 = 1) : RG x 100000 := by
  unfold sIn at h
  split at h
  · rename_i q
    obtain ⟨n, hn, e⟩ := nI_of (Int32.not_lt.mpr q.1)
    subst e
    rcases Nat.lt_or_ge 100000 n with y | y
    · exact absurd q.2 (Int32.not_le.mpr (show (100000 : Int32) < nI n from nI_lt y hn))
    · exact RG.of y (by decide)
  · exact absurd h (by decide)
theorem sPut1_SR {S : St} {s1 h1 c1 l1 m1 d1 : Int32} (hS : SR S) : SR (sPut1 S s1 h1 c1 l1 m1 d1) := by
  refine ⟨?_, fun t ht => ?_, fun s hs => ?_⟩
  · rw [sPut1_ne (Or.inr rfl)]; exact hS.1
  · rw [sPut1_ne (S := S) (Or.inl (Nat.ne_of_lt ht))]; exact hS.2.1 t ht
  · have e : sPut1 S s1 h1 c1 l1 m1 d1 18 s = S 18 s := by unfold sPut1; rw [up2_ne (by omega), up2_ne (by omega), up2_ne (by omega), up2_ne (by omega), up2_ne (by omega), up2_ne (by omega)]
    rw [e]; exact hS.2.2 s hs

set_option maxRecDepth 4000 in
theorem bX5_put (d : Nat) {h : Hp} {S : St} (hR : CR S h) (hW : MW S) (hS : SR S) (h38 : 38 ≤ am_n h) (s1 h1 c1 l1 m1 d1 : Int32) (hc1 : c1 = 0 ∨ c1 = 1) (hl1 : l1 = 0 ∨ l1 = 1) : Res (d + 5) nX5_put [.ref 1, .int s1, .int h1, .int c1, .int l1, .int m1, .int d1] h (some (.int (sPutA S s1 h1 c1 l1 m1 d1))) (cPutT S h s1 h1 c1 l1 m1 d1) := by
  have hC := hR.1
  have h5 := hW.1.2
  have h11 := hW.2.1.2
  have h12 := hW.2.2.1.2
  have h29 := hW.2.2.2.2
  have z1 := sIn_01 s1 1 20
  have z2 := sIn_01 h1 0 2
  have z3 := sIn_01 m1 0 65535
  have z4 := sIn_01 d1 0 100000
  have hT12 : (S 10 12).toInt ≤ 120 := by rw [hW.2.2.1.1, nI_toInt (by omega)]; omega
  refine Res_intro (ls := [some (.ref 1), some (.int s1), some (.int h1), some (.int c1), some (.int l1), some (.int m1), some (.int d1), none, none, none]) aX5_put rfl rfl rfl rfl ?_
  show WP kX5_put _ _ _ _ _ _
  refine wp_iload_n eX5_put_0 rfl ?_
  refine wp_iconst (v := 1) eX5_put_1 rfl ?_
  refine wp_bipush (v := 20) eX5_put_2 rfl ?_
  refine wp_stat (rv := (some (.int (sIn s1 1 20)))) (h' := h) (r := []) eX5_put_4 [.int s1, .int 1, .int 20] rfl rfl rfl rfl (rX5_isWithin _ _ _ _) ?_
  refine wp_if eX5_put_7 (fun (c_7 : (sIn s1 1 20) = 0) => ?_) (fun (c_7 : ¬ ((sIn s1 1 20) = 0)) => ?_)
  · refine wp_bipush (v := (-2)) eX5_put_41 rfl ?_
    exact wp_iret eX5_put_43 ⟨congrArg (fun z => some (Value.int z)) (by simp only [sPutA, cPutT, kPut_iff]; (repeat' split) <;> first | rfl | (exfalso; simp_all; done) | (exfalso; simp only [Int32.lt_iff_toInt_lt, Int32.le_iff_toInt_le, ← Int32.toInt_inj, Int32.reduceToInt] at *; omega)), by simp only [sPutA, cPutT, kPut_iff]; (repeat' split) <;> first | rfl | (exfalso; simp_all; done) | (exfalso; simp only [Int32.lt_iff_toInt_lt, Int32.le_iff_toInt_le, ← Int32.toInt_inj, Int32.reduceToInt] at *; omega)⟩
  · refine wp_iload_n eX5_put_10 rfl ?_
    refine wp_iconst (v := 0) eX5_put_11 rfl ?_
    refine wp_iconst (v := 2) eX5_put_12 rfl ?_
    refine wp_stat (rv := (some (.int (sIn h1 0 2)))) (h' := h) (r := []) eX5_put_13 [.int h1, .int 0, .int 2] rfl rfl rfl rfl (rX5_isWithin _ _ _ _) ?_
    refine wp_if eX5_put_16 (fun (c_16 : (sIn h1 0 2) = 0) => ?_) (fun (c_16 : ¬ ((sIn h1 0 2) = 0)) => ?_)
    · refine wp_bipush (v := (-2)) eX5_put_41 rfl ?_
      exact wp_iret eX5_put_43 ⟨congrArg (fun z => some (Value.int z)) (by simp only [sPutA, cPutT, kPut_iff]; (repeat' split) <;> first | rfl | (exfalso; simp_all; done) | (exfalso; simp only [Int32.lt_iff_toInt_lt, Int32.le_iff_toInt_le, ← Int32.toInt_inj, Int32.reduceToInt] at *; omega)), by simp only [sPutA, cPutT, kPut_iff]; (repeat' split) <;> first | rfl | (exfalso; simp_all; done) | (exfalso; simp only [Int32.lt_iff_toInt_lt, Int32.le_iff_toInt_le, ← Int32.toInt_inj, Int32.reduceToInt] at *; omega)⟩
    · refine wp_iload eX5_put_19 rfl ?_
      refine wp_iconst (v := 0) eX5_put_21 rfl ?_
      refine wp_ldc (v := 65535) eX5_put_22 rfl ?_
      refine wp_stat (rv := (some (.int (sIn m1 0 65535)))) (h' := h) (r := []) eX5_put_24 [.int m1, .int 0, .int 65535] rfl rfl rfl rfl (rX5_isWithin _ _ _ _) ?_
      refine wp_if eX5_put_27 (fun (c_27 : (sIn m1 0 65535) = 0) => ?_) (fun (c_27 : ¬ ((sIn m1 0 65535) = 0)) => ?_)
      · refine wp_bipush (v := (-2)) eX5_put_41 rfl ?_
        exact wp_iret eX5_put_43 ⟨congrArg (fun z => some (Value.int z)) (by simp only [sPutA, cPutT, kPut_iff]; (repeat' split) <;> first | rfl | (exfalso; simp_all; done) | (exfalso; simp only [Int32.lt_iff_toInt_lt, Int32.le_iff_toInt_le, ← Int32.toInt_inj, Int32.reduceToInt] at *; omega)), by simp only [sPutA, cPutT, kPut_iff]; (repeat' split) <;> first | rfl | (exfalso; simp_all; done) | (exfalso; simp only [Int32.lt_iff_toInt_lt, Int32.le_iff_toInt_le, ← Int32.toInt_inj, Int32.reduceToInt] at *; omega)⟩
      · refine wp_iload eX5_put_30 rfl ?_
        refine wp_iconst (v := 0) eX5_put_32 rfl ?_
        refine wp_ldc (v := 100000) eX5_put_33 rfl ?_
        refine wp_stat (rv := (some (.int (sIn d1 0 100000)))) (h' := h) (r := []) eX5_put_35 [.int d1, .int 0, .int 100000] rfl rfl rfl rfl (rX5_isWithin _ _ _ _) ?_
        refine wp_if eX5_put_38 (fun (c_38 : ¬ (sIn d1 0 100000) = 0) => ?_) (fun (c_38 : ¬ (¬ (sIn d1 0 100000) = 0)) => ?_)
        · refine wp_aload_n eX5_put_44 rfl ?_
          refine wp_virt (rv := (some (.int (sOpen S)))) (h' := h) (r := []) eX5_put_45 [] rfl rfl rfl (show Ob h 1 5 from hC.ob) (bX5_isOpen _ hR hW) ?_
          refine wp_if eX5_put_48 (fun (c_48 : ¬ (sOpen S) = 0) => ?_) (fun (c_48 : ¬ (¬ (sOpen S) = 0)) => ?_)
          · refine wp_aload_n eX5_put_54 rfl ?_
            refine wp_getI (v := S 10 12) eX5_put_55 (show Ob h 1 5 from hC.ob) rfl hR.c3 ?_
            refine wp_bipush (v := 120) eX5_put_58 rfl ?_
            refine wp_icmp eX5_put_60 (fun (c_60 : (S 10 12) < 120) => ?_) (fun (c_60 : ¬ ((S 10 12) < 120)) => ?_)
            · refine wp_new (a := am_n h) (h' := am_new h 4 0 11) eX5_put_66 rfl rfl ?_
              refine wp_dup eX5_put_69 rfl ?_
              refine wp_iload_n eX5_put_70 rfl ?_
              refine wp_iload_n eX5_put_71 rfl ?_
              refine wp_iload_n eX5_put_72 rfl ?_
              refine wp_iload eX5_put_73 rfl ?_
              refine wp_iload eX5_put_75 rfl ?_
              refine wp_iload eX5_put_77 rfl ?_
              refine wp_aload_n eX5_put_79 rfl ?_
              refine wp_getI (v := S 10 0) eX5_put_80 (show Ob (am_new h 4 0 11) 1 5 from (Ext.new h 4 0 11).gr.ob hC.ob) rfl (by rw [((Ext.new h 4 0 11).2 1 hC.ob.2.1).2.2.1]; exact hR.c10) ?_
              refine wp_spec (rv := none) (h' := cN4 h s1 h1 c1 l1 m1 d1 (S 10 0)) (r := [.ref (am_n h)]) eX5_put_83 [.int s1, .int h1, .int c1, .int l1, .int m1, .int d1, .int (S 10 0)] rfl rfl rfl rfl (show Res (_ + 1) nX4_init _ _ none (cN4 h s1 h1 c1 l1 m1 d1 (S 10 0)) from rX4_init (h := am_new h 4 0 11) _ (am_n h) (Ob.fresh h 4 0 11 hR.pos) _ _ _ _ _ _ _ hc1 hl1) ?_
              have hk0 : ¬ kPut s1 h1 m1 d1 = false := by rw [kPut_iff]; rintro (z | z | z | z) <;> simp_all
              have hk1 : ¬ S 10 12 = 120 := fun z => by rw [z] at c_60; exact absurd c_60 (by decide)
              have e1 : sPutA S s1 h1 c1 l1 m1 d1 = sPutR (sPut1 S s1 h1 c1 l1 m1 d1) (cT S) := by unfold sPutA; rw [if_neg hk0, if_neg c_48, if_neg hk1]
              have e2 : cPutT S h s1 h1 c1 l1 m1 d1 = cPutH (sPut1 S s1 h1 c1 l1 m1 d1) (cN4 h s1 h1 c1 l1 m1 d1 (S 10 0)) (am_n h) (cT S) := by unfold cPutT; rw [if_neg hk0, if_neg c_48, if_neg hk1]
              rw [e1, e2]
              have hT120 : cT S < 120 := cnt_ne hW.2.2.1.1 (show (120 : Int32) = nI 120 from rfl) (by decide) hk1 h12
              have hR1 := sPut1_CR hR s1 h1 c1 l1 m1 d1 (S 10 0)
              have hW1 : MW (sPut1 S s1 h1 c1 l1 m1 d1) := hW
              have hV1 := sPut1_TW hR h38 s1 h1 c1 l1 m1 d1
              have hd : (sPut1 S s1 h1 c1 l1 m1 d1) 24 (cT S) = d1 := by unfold sPut1; exact up2_eq
              have hS1 : SR (sPut1 S s1 h1 c1 l1 m1 d1) := sPut1_SR hS
              have hu1 : RG ((sPut1 S s1 h1 c1 l1 m1 d1) 24 (cT S)) 100000 := by rw [hd]; exact RG_in (by rcases sIn_01 d1 0 100000 with z | z; exact absurd z c_38; exact z)
              have hut1 : (sPut1 S s1 h1 c1 l1 m1 d1) 10 12 = nI (cT S) := hW.2.2.1.1
              generalize hgS : sPut1 S s1 h1 c1 l1 m1 d1 = S1 at *
              generalize hgH : cN4 h s1 h1 c1 l1 m1 d1 (S 10 0) = g at *
              unfold sPutR cPutH
              rcases Decidable.em (sBest S1 (cT S) (cS S1) < 0) with q | q
              · rw [if_pos q, if_pos q]
                exact lX5_put_no d hR1 hW1 hS1 (am_n h) (cT S) hV1.1 hu1 hut1 hT120 _ _ _ _ _ _ _ _ _ q
              · obtain ⟨k, hk, ek⟩ := sBest_get hW1.2.1.2 q
                rw [if_neg q, if_neg q, ek, nI_clamp (by have := hW1.2.1.2; omega)]
                exact lX5_put_yes d hR1 hW1 hS1 (am_n h) (cT S) hV1.1 hu1 hut1 hT120 _ _ _ _ _ _ _ _ _ k hk ek hV1.2.1
            · refine wp_bipush (v := (-4)) eX5_put_63 rfl ?_
              exact wp_iret eX5_put_65 ⟨congrArg (fun z => some (Value.int z)) (by simp only [sPutA, cPutT, kPut_iff]; (repeat' split) <;> first | rfl | (exfalso; simp_all; done) | (exfalso; simp only [Int32.lt_iff_toInt_lt, Int32.le_iff_toInt_le, ← Int32.toInt_inj, Int32.reduceToInt] at *; omega)), by simp only [sPutA, cPutT, kPut_iff]; (repeat' split) <;> first | rfl | (exfalso; simp_all; done) | (exfalso; simp only [Int32.lt_iff_toInt_lt, Int32.le_iff_toInt_le, ← Int32.toInt_inj, Int32.reduceToInt] at *; omega)⟩
          · refine wp_bipush (v := (-3)) eX5_put_51 rfl ?_
            exact wp_iret eX5_put_53 ⟨congrArg (fun z => some (Value.int z)) (by simp only [sPutA, cPutT, kPut_iff]; (repeat' split) <;> first | rfl | (exfalso; simp_all; done) | (exfalso; simp only [Int32.lt_iff_toInt_lt, Int32.le_iff_toInt_le, ← Int32.toInt_inj, Int32.reduceToInt] at *; omega)), by simp only [sPutA, cPutT, kPut_iff]; (repeat' split) <;> first | rfl | (exfalso; simp_all; done) | (exfalso; simp only [Int32.lt_iff_toInt_lt, Int32.le_iff_toInt_le, ← Int32.toInt_inj, Int32.reduceToInt] at *; omega)⟩
        · refine wp_bipush (v := (-2)) eX5_put_41 rfl ?_
          exact wp_iret eX5_put_43 ⟨congrArg (fun z => some (Value.int z)) (by simp only [sPutA, cPutT, kPut_iff]; (repeat' split) <;> first | rfl | (exfalso; simp_all; done) | (exfalso; simp only [Int32.lt_iff_toInt_lt, Int32.le_iff_toInt_le, ← Int32.toInt_inj, Int32.reduceToInt] at *; omega)), by simp only [sPutA, cPutT, kPut_iff]; (repeat' split) <;> first | rfl | (exfalso; simp_all; done) | (exfalso; simp only [Int32.lt_iff_toInt_lt, Int32.le_iff_toInt_le, ← Int32.toInt_inj, Int32.reduceToInt] at *; omega)⟩
