/-! THE CLASS: what it shows -/
theorem sThOf_in {S : St} {x : Int32} {t : Nat} (ht : t < 1000) (h : sThOf S x = nI t) : cTkt x = 1 ∧ x / 100 = nI t := by
  unfold sThOf at h
  unfold cTkt
  split at h
  · exact absurd (show nI t < 0 by rw [← h]; decide) (nI_pos (by omega))
  · rename_i q
    rw [if_neg q]
    split at h
    · exact ⟨rfl, h⟩
    · exact absurd (show nI t < 0 by rw [← h]; decide) (nI_pos (by omega))
theorem sThOf_out {S : St} {x : Int32} (hW : MW S) (h : sThOf S x < 0) : (cTkt x = 0 ∧ sThOf S x = -2) ∨ (cTkt x = 1 ∧ sThOf S x = -3 ∧ ∀ c, c < cT S → ¬ x / 100 = nI c) := by
  unfold sThOf at h ⊢
  unfold cTkt
  split
  · exact Or.inl ⟨rfl, rfl⟩
  · rename_i q
    rw [if_neg q] at h
    split
    · rename_i q2
      rw [if_pos q2] at h
      exfalso
      have h0 : ¬ x < 0 := fun z => q (Or.inl z)
      obtain ⟨k, hk, e⟩ := nI_of h0
      rw [e, show (100 : Int32) = nI 100 from rfl, pk_div hk (by decide) (by decide)] at h
      exact nI_pos (Nat.lt_of_le_of_lt (Nat.div_le_self _ _) hk) h
    · rename_i q2
      exact Or.inr ⟨rfl, rfl, fun c hc e => q2 (by rw [e, hW.2.2.1.1]; exact nI_lt hc (by have := hW.2.2.1.2; omega))⟩
theorem sClOf_mk (S : St) (c k : Nat) (hk : k < 4) : S 32 (4 * c + k) = sClOf S c (nI (10 + k)) := by
  match k, hk with
  | 0, _ => rfl
  | 1, _ => rfl
  | 2, _ => rfl
  | 3, _ => rfl
def cCon (S : St) (c t : Nat) : Nat → Bool
  | 0 => false
  | n + 1 => cCon S c t n || decide (¬ n = c ∧ S 34 n = 0 ∧ 3 ≤ sTold S n 4 ∧ ¬ sIsM S n t = 0 ∧ sMeans S n (cT S) = 1)
theorem cCon_up {S : St} {c t k : Nat} : ∀ {n : Nat}, k ≤ n → cCon S c t k = true → cCon S c t n = true := by
  intro n
  induction n with
  | zero => intro h1 h2; rw [show k = 0 by omega] at h2; exact h2
  | succ n ih =>
    intro h1 h2
    by_cases e : k = n + 1
    · rw [← e]; exact h2
    · simp only [cCon, Bool.or_eq_true]; exact Or.inl (ih (by omega) h2)

set_option maxRecDepth 4000 in
theorem bX5_means (d : Nat) {h : Hp} {S : St} (hR : CR S h) (hW : MW S) (c : Nat) (hc : c < cC S) (hT : TI S c) : Res (d + 4) nX5_means [.ref 1, .int (nI c)] h (some (.int (sMeans S c (cT S)))) h := by
  have hC := hR.1
  have h5 := hW.1.2
  have h11 := hW.2.1.2
  have h12 := hW.2.2.1.2
  have h29 := hW.2.2.2.2
  refine Res_intro (ls := [some (.ref 1), some (.int (nI c)), none]) aX5_means rfl rfl rfl rfl ?_
  show WP kX5_means _ _ _ _ _ _
  refine wp_aload_n eX5_means_0 rfl ?_
  refine wp_iload_n eX5_means_1 rfl ?_
  refine wp_virt (rv := (some (.ref (clA h c)))) (h' := h) (r := []) eX5_means_2 [.int (nI c)] rfl rfl rfl (show Ob h 1 5 from hC.ob) (bX5_claimAt _ hR hW _ (by omega)) ?_
  refine wp_astore_n (ls' := [some (.ref 1), some (.int (nI c)), some (.ref (clA h c))]) eX5_means_5 rfl rfl ?_
  refine wp_aload_n eX5_means_6 rfl ?_
  refine wp_ifnonnullT eX5_means_7 ?_
  refine wp_aload_n eX5_means_14 rfl ?_
  refine wp_aload_n eX5_means_15 rfl ?_
  refine wp_virt (rv := (some (.int (sMeans S c (cT S))))) (h' := h) (r := []) eX5_means_16 [.ref (clA h c)] rfl rfl rfl (show Ob h 1 5 from hC.ob) (bX5_meantBy _ hR hW _ (by omega) hT) ?_
  exact wp_iret eX5_means_19 ⟨congrArg (fun z => some (Value.int z)) (rfl), rfl⟩

set_option maxRecDepth 4000 in
theorem bX5_means_out (d : Nat) {h : Hp} {S : St} (hR : CR S h) (hW : MW S) (x : Int32) (hx : ∀ c, c < cC S → ¬ x = nI c) : Res (d + 4) nX5_means [.ref 1, .int x] h (some (.int (-1))) h := by
  have hC := hR.1
  have h5 := hW.1.2
  have h11 := hW.2.1.2
  have h12 := hW.2.2.1.2
  have h29 := hW.2.2.2.2
  refine Res_intro (ls := [some (.ref 1), some (.int x), none]) aX5_means rfl rfl rfl rfl ?_
  show WP kX5_means _ _ _ _ _ _
  refine wp_aload_n eX5_means_0 rfl ?_
  refine wp_iload_n eX5_means_1 rfl ?_
  refine wp_virt (rv := (some (va_rf none))) (h' := h) (r := []) eX5_means_2 [.int x] rfl rfl rfl (show Ob h 1 5 from hC.ob) (bX5_claimAtN _ hR hW _ hx) ?_
  refine wp_astore_nO (ls' := [some (.ref 1), some (.int x), some (va_rf none)]) eX5_means_5 rfl rfl ?_
  refine wp_aload_nO eX5_means_6 rfl ?_
  refine wp_ifnonnullF eX5_means_7 ?_
  refine wp_iconst (v := (-1)) eX5_means_10 rfl ?_
  refine wp_goto eX5_means_11 ?_
  exact wp_iret eX5_means_19 ⟨congrArg (fun z => some (Value.int z)) (rfl), rfl⟩

set_option maxRecDepth 4000 in
theorem bX5_thing_in (d : Nat) {h : Hp} {S : St} (hR : CR S h) (hW : MW S) (hS : SR S) (hA : OA S) (t : Nat) (w : Int32) (ht : t < cT S) (h26 : S 26 t = 0) : Res (d + 4) nX5_thing [.ref 1, .int (nI t), .int w] h (some (.int (sThing S t w))) h := by
  have hC := hR.1
  have h5 := hW.1.2
  have h11 := hW.2.1.2
  have h12 := hW.2.2.1.2
  have h29 := hW.2.2.2.2
  refine Res_intro (ls := [some (.ref 1), some (.int (nI t)), some (.int w), none]) aX5_thing rfl rfl rfl rfl ?_
  show WP kX5_thing _ _ _ _ _ _
  refine wp_aload_n eX5_thing_0 rfl ?_
  refine wp_iload_n eX5_thing_1 rfl ?_
  refine wp_virt (rv := (some (.ref (thA h t)))) (h' := h) (r := []) eX5_thing_2 [.int (nI t)] rfl rfl rfl (show Ob h 1 5 from hC.ob) (bX5_thingAt _ hR hW _ (by omega)) ?_
  refine wp_astore_n (ls' := [some (.ref 1), some (.int (nI t)), some (.int w), some (.ref (thA h t))]) eX5_thing_5 rfl rfl ?_
  refine wp_aload_n eX5_thing_6 rfl ?_
  refine wp_ifnonnullT eX5_thing_7 ?_
  refine wp_iload_n eX5_thing_12 rfl ?_
  by_cases c_13_0 : w = 0
  · refine wp_switch (t := 80) eX5_thing_13 (am_swI (off := 67) (by rw [c_13_0]; decide) (by rw [c_13_0]; decide) (by rw [c_13_0]; rfl) rfl) ?_
    refine wp_aload_n eX5_thing_80 rfl ?_
    refine wp_getI (v := S 21 t) eX5_thing_81 (show Ob h (thA h t) 4 from hR.th_ob t (by omega)) rfl (hR.th0 t (by omega)) ?_
    exact wp_iret eX5_thing_84 ⟨congrArg (fun z => some (Value.int z)) (by unfold sThing; simp_all), rfl⟩
  by_cases c_13_1 : w = 1
  · refine wp_switch (t := 85) eX5_thing_13 (am_swI (off := 72) (by rw [c_13_1]; decide) (by rw [c_13_1]; decide) (by rw [c_13_1]; rfl) rfl) ?_
    refine wp_aload_n eX5_thing_85 rfl ?_
    refine wp_getI (v := S 22 t) eX5_thing_86 (show Ob h (thA h t) 4 from hR.th_ob t (by omega)) rfl (hR.th1 t (by omega)) ?_
    exact wp_iret eX5_thing_89 ⟨congrArg (fun z => some (Value.int z)) (by unfold sThing; simp_all), rfl⟩
  by_cases c_13_2 : w = 2
  · refine wp_switch (t := 90) eX5_thing_13 (am_swI (off := 77) (by rw [c_13_2]; decide) (by rw [c_13_2]; decide) (by rw [c_13_2]; rfl) rfl) ?_
    refine wp_aload_n eX5_thing_90 rfl ?_
    refine wp_getI (v := S 30 t) eX5_thing_91 (show Ob h (thA h t) 4 from hR.th_ob t (by omega)) rfl (hR.th2 t (by omega)) ?_
    refine wp_stat (rv := (some (.int (if S 30 t = 0 then 0 else 1)))) (h' := h) (r := []) eX5_thing_94 [.int (S 30 t)] rfl rfl rfl rfl (rX5_asNumber _ _) ?_
    exact wp_iret eX5_thing_97 ⟨congrArg (fun z => some (Value.int z)) (by unfold sThing; simp_all), rfl⟩
  by_cases c_13_3 : w = 3
  · refine wp_switch (t := 98) eX5_thing_13 (am_swI (off := 85) (by rw [c_13_3]; decide) (by rw [c_13_3]; decide) (by rw [c_13_3]; rfl) rfl) ?_
    refine wp_aload_n eX5_thing_98 rfl ?_
    refine wp_getI (v := S 31 t) eX5_thing_99 (show Ob h (thA h t) 4 from hR.th_ob t (by omega)) rfl (hR.th3 t (by omega)) ?_
    refine wp_stat (rv := (some (.int (if S 31 t = 0 then 0 else 1)))) (h' := h) (r := []) eX5_thing_102 [.int (S 31 t)] rfl rfl rfl rfl (rX5_asNumber _ _) ?_
    exact wp_iret eX5_thing_105 ⟨congrArg (fun z => some (Value.int z)) (by unfold sThing; simp_all), rfl⟩
  by_cases c_13_4 : w = 4
  · refine wp_switch (t := 106) eX5_thing_13 (am_swI (off := 93) (by rw [c_13_4]; decide) (by rw [c_13_4]; decide) (by rw [c_13_4]; rfl) rfl) ?_
    refine wp_aload_n eX5_thing_106 rfl ?_
    refine wp_getI (v := S 23 t) eX5_thing_107 (show Ob h (thA h t) 4 from hR.th_ob t (by omega)) rfl (hR.th4 t (by omega)) ?_
    exact wp_iret eX5_thing_110 ⟨congrArg (fun z => some (Value.int z)) (by unfold sThing; simp_all), rfl⟩
  by_cases c_13_5 : w = 5
  · refine wp_switch (t := 111) eX5_thing_13 (am_swI (off := 98) (by rw [c_13_5]; decide) (by rw [c_13_5]; decide) (by rw [c_13_5]; rfl) rfl) ?_
    refine wp_aload_n eX5_thing_111 rfl ?_
    refine wp_getI (v := S 24 t) eX5_thing_112 (show Ob h (thA h t) 4 from hR.th_ob t (by omega)) rfl (hR.th5 t (by omega)) ?_
    exact wp_iret eX5_thing_115 ⟨congrArg (fun z => some (Value.int z)) (by unfold sThing; simp_all), rfl⟩
  by_cases c_13_6 : w = 6
  · refine wp_switch (t := 116) eX5_thing_13 (am_swI (off := 103) (by rw [c_13_6]; decide) (by rw [c_13_6]; decide) (by rw [c_13_6]; rfl) rfl) ?_
    refine wp_aload_n eX5_thing_116 rfl ?_
    refine wp_getI (v := S 25 t) eX5_thing_117 (show Ob h (thA h t) 4 from hR.th_ob t (by omega)) rfl (hR.th6 t (by omega)) ?_
    exact wp_iret eX5_thing_120 ⟨congrArg (fun z => some (Value.int z)) (by unfold sThing; simp_all), rfl⟩
  by_cases c_13_7 : w = 7
  · refine wp_switch (t := 121) eX5_thing_13 (am_swI (off := 108) (by rw [c_13_7]; decide) (by rw [c_13_7]; decide) (by rw [c_13_7]; rfl) rfl) ?_
    refine wp_aload_n eX5_thing_121 rfl ?_
    refine wp_getI (v := S 26 t) eX5_thing_122 (show Ob h (thA h t) 4 from hR.th_ob t (by omega)) rfl (hR.th7 t (by omega)) ?_
    exact wp_iret eX5_thing_125 ⟨congrArg (fun z => some (Value.int z)) (by unfold sThing; simp_all), rfl⟩
  by_cases c_13_8 : w = 8
  · refine wp_switch (t := 126) eX5_thing_13 (am_swI (off := 113) (by rw [c_13_8]; decide) (by rw [c_13_8]; decide) (by rw [c_13_8]; rfl) rfl) ?_
    refine wp_aload_n eX5_thing_126 rfl ?_
    refine wp_virt (rv := (some (.int (S 27 t)))) (h' := h) (r := []) eX5_thing_127 [] rfl rfl rfl (show Ob h (thA h t) 4 from hR.th_ob t (by omega)) (bX4_placeNumber _ hR ht h26 (hA t ht h26)) ?_
    exact wp_iret eX5_thing_130 ⟨congrArg (fun z => some (Value.int z)) (by unfold sThing; simp_all), rfl⟩
  by_cases c_13_9 : w = 9
  · refine wp_switch (t := 131) eX5_thing_13 (am_swI (off := 118) (by rw [c_13_9]; decide) (by rw [c_13_9]; decide) (by rw [c_13_9]; rfl) rfl) ?_
    refine wp_aload_n eX5_thing_131 rfl ?_
    refine wp_aload_n eX5_thing_132 rfl ?_
    refine wp_getI (v := S 10 0) eX5_thing_133 (show Ob h 1 5 from hC.ob) rfl hR.c10 ?_
    refine wp_virt (rv := (some (.int (sWant S t)))) (h' := h) (r := []) eX5_thing_136 [.int (S 10 0)] rfl rfl rfl (show Ob h (thA h t) 4 from hR.th_ob t (by omega)) (bX4_wanted _ hS (hR.tv ht) (hS.2.1 t ht)) ?_
    exact wp_iret eX5_thing_139 ⟨congrArg (fun z => some (Value.int z)) (by unfold sThing; simp_all), rfl⟩
  by_cases c_13_10 : w = 10
  · refine wp_switch (t := 140) eX5_thing_13 (am_swI (off := 127) (by rw [c_13_10]; decide) (by rw [c_13_10]; decide) (by rw [c_13_10]; rfl) rfl) ?_
    refine wp_aload_n eX5_thing_140 rfl ?_
    refine wp_aload_n eX5_thing_141 rfl ?_
    refine wp_getI (v := S 10 0) eX5_thing_142 (show Ob h 1 5 from hC.ob) rfl hR.c10 ?_
    refine wp_virt (rv := (some (.int (sMis S t (onN S t))))) (h' := h) (r := []) eX5_thing_145 [.int (S 10 0)] rfl rfl rfl (show Ob h (thA h t) 4 from hR.th_ob t (by omega)) (bX4_misfitHere _ hR hS ht h26 (hA t ht h26)) ?_
    exact wp_iret eX5_thing_148 ⟨congrArg (fun z => some (Value.int z)) (by unfold sThing; simp_all), rfl⟩
  by_cases c_13_11 : w = 11
  · refine wp_switch (t := 149) eX5_thing_13 (am_swI (off := 136) (by rw [c_13_11]; decide) (by rw [c_13_11]; decide) (by rw [c_13_11]; rfl) rfl) ?_
    refine wp_aload_n eX5_thing_149 rfl ?_
    refine wp_getI (v := S 28 t) eX5_thing_150 (show Ob h (thA h t) 4 from hR.th_ob t (by omega)) rfl (hR.th9 t (by omega)) ?_
    exact wp_iret eX5_thing_153 ⟨congrArg (fun z => some (Value.int z)) (by unfold sThing; simp_all), rfl⟩
  by_cases c_13_12 : w = 12
  · refine wp_switch (t := 154) eX5_thing_13 (am_swI (off := 141) (by rw [c_13_12]; decide) (by rw [c_13_12]; decide) (by rw [c_13_12]; rfl) rfl) ?_
    refine wp_aload_n eX5_thing_154 rfl ?_
    refine wp_getI (v := S 29 t) eX5_thing_155 (show Ob h (thA h t) 4 from hR.th_ob t (by omega)) rfl (hR.th10 t (by omega)) ?_
    exact wp_iret eX5_thing_158 ⟨congrArg (fun z => some (Value.int z)) (by unfold sThing; simp_all), rfl⟩
  refine wp_switch (t := 159) eX5_thing_13 (am_swO (am_out12 c_13_0 c_13_1 c_13_2 c_13_3 c_13_4 c_13_5 c_13_6 c_13_7 c_13_8 c_13_9 c_13_10 c_13_11 c_13_12) rfl) ?_
  refine wp_iconst (v := (-1)) eX5_thing_159 rfl ?_
  exact wp_iret eX5_thing_160 ⟨congrArg (fun z => some (Value.int z)) (by unfold sThing; simp_all), rfl⟩

set_option maxRecDepth 4000 in
theorem bX5_thing_inN (d : Nat) {h : Hp} {S : St} (hR : CR S h) (hW : MW S) (hS : SR S) (hA : OA S) (t : Nat) (w : Int32) (ht : t < cT S) (h26 : ¬ S 26 t = 0) : Res (d + 4) nX5_thing [.ref 1, .int (nI t), .int w] h (some (.int (sThing S t w))) h := by
  have hC := hR.1
  have h5 := hW.1.2
  have h11 := hW.2.1.2
  have h12 := hW.2.2.1.2
  have h29 := hW.2.2.2.2
  refine Res_intro (ls := [some (.ref 1), some (.int (nI t)), some (.int w), none]) aX5_thing rfl rfl rfl rfl ?_
  show WP kX5_thing _ _ _ _ _ _
  refine wp_aload_n eX5_thing_0 rfl ?_
  refine wp_iload_n eX5_thing_1 rfl ?_
  refine wp_virt (rv := (some (.ref (thA h t)))) (h' := h) (r := []) eX5_thing_2 [.int (nI t)] rfl rfl rfl (show Ob h 1 5 from hC.ob) (bX5_thingAt _ hR hW _ (by omega)) ?_
  refine wp_astore_n (ls' := [some (.ref 1), some (.int (nI t)), some (.int w), some (.ref (thA h t))]) eX5_thing_5 rfl rfl ?_
  refine wp_aload_n eX5_thing_6 rfl ?_
  refine wp_ifnonnullT eX5_thing_7 ?_
  refine wp_iload_n eX5_thing_12 rfl ?_
  by_cases c_13_0 : w = 0
  · refine wp_switch (t := 80) eX5_thing_13 (am_swI (off := 67) (by rw [c_13_0]; decide) (by rw [c_13_0]; decide) (by rw [c_13_0]; rfl) rfl) ?_
    refine wp_aload_n eX5_thing_80 rfl ?_
    refine wp_getI (v := S 21 t) eX5_thing_81 (show Ob h (thA h t) 4 from hR.th_ob t (by omega)) rfl (hR.th0 t (by omega)) ?_
    exact wp_iret eX5_thing_84 ⟨congrArg (fun z => some (Value.int z)) (by unfold sThing; simp_all), rfl⟩
  by_cases c_13_1 : w = 1
  · refine wp_switch (t := 85) eX5_thing_13 (am_swI (off := 72) (by rw [c_13_1]; decide) (by rw [c_13_1]; decide) (by rw [c_13_1]; rfl) rfl) ?_
    refine wp_aload_n eX5_thing_85 rfl ?_
    refine wp_getI (v := S 22 t) eX5_thing_86 (show Ob h (thA h t) 4 from hR.th_ob t (by omega)) rfl (hR.th1 t (by omega)) ?_
    exact wp_iret eX5_thing_89 ⟨congrArg (fun z => some (Value.int z)) (by unfold sThing; simp_all), rfl⟩
  by_cases c_13_2 : w = 2
  · refine wp_switch (t := 90) eX5_thing_13 (am_swI (off := 77) (by rw [c_13_2]; decide) (by rw [c_13_2]; decide) (by rw [c_13_2]; rfl) rfl) ?_
    refine wp_aload_n eX5_thing_90 rfl ?_
    refine wp_getI (v := S 30 t) eX5_thing_91 (show Ob h (thA h t) 4 from hR.th_ob t (by omega)) rfl (hR.th2 t (by omega)) ?_
    refine wp_stat (rv := (some (.int (if S 30 t = 0 then 0 else 1)))) (h' := h) (r := []) eX5_thing_94 [.int (S 30 t)] rfl rfl rfl rfl (rX5_asNumber _ _) ?_
    exact wp_iret eX5_thing_97 ⟨congrArg (fun z => some (Value.int z)) (by unfold sThing; simp_all), rfl⟩
  by_cases c_13_3 : w = 3
  · refine wp_switch (t := 98) eX5_thing_13 (am_swI (off := 85) (by rw [c_13_3]; decide) (by rw [c_13_3]; decide) (by rw [c_13_3]; rfl) rfl) ?_
    refine wp_aload_n eX5_thing_98 rfl ?_
    refine wp_getI (v := S 31 t) eX5_thing_99 (show Ob h (thA h t) 4 from hR.th_ob t (by omega)) rfl (hR.th3 t (by omega)) ?_
    refine wp_stat (rv := (some (.int (if S 31 t = 0 then 0 else 1)))) (h' := h) (r := []) eX5_thing_102 [.int (S 31 t)] rfl rfl rfl rfl (rX5_asNumber _ _) ?_
    exact wp_iret eX5_thing_105 ⟨congrArg (fun z => some (Value.int z)) (by unfold sThing; simp_all), rfl⟩
  by_cases c_13_4 : w = 4
  · refine wp_switch (t := 106) eX5_thing_13 (am_swI (off := 93) (by rw [c_13_4]; decide) (by rw [c_13_4]; decide) (by rw [c_13_4]; rfl) rfl) ?_
    refine wp_aload_n eX5_thing_106 rfl ?_
    refine wp_getI (v := S 23 t) eX5_thing_107 (show Ob h (thA h t) 4 from hR.th_ob t (by omega)) rfl (hR.th4 t (by omega)) ?_
    exact wp_iret eX5_thing_110 ⟨congrArg (fun z => some (Value.int z)) (by unfold sThing; simp_all), rfl⟩
  by_cases c_13_5 : w = 5
  · refine wp_switch (t := 111) eX5_thing_13 (am_swI (off := 98) (by rw [c_13_5]; decide) (by rw [c_13_5]; decide) (by rw [c_13_5]; rfl) rfl) ?_
    refine wp_aload_n eX5_thing_111 rfl ?_
    refine wp_getI (v := S 24 t) eX5_thing_112 (show Ob h (thA h t) 4 from hR.th_ob t (by omega)) rfl (hR.th5 t (by omega)) ?_
    exact wp_iret eX5_thing_115 ⟨congrArg (fun z => some (Value.int z)) (by unfold sThing; simp_all), rfl⟩
  by_cases c_13_6 : w = 6
  · refine wp_switch (t := 116) eX5_thing_13 (am_swI (off := 103) (by rw [c_13_6]; decide) (by rw [c_13_6]; decide) (by rw [c_13_6]; rfl) rfl) ?_
    refine wp_aload_n eX5_thing_116 rfl ?_
    refine wp_getI (v := S 25 t) eX5_thing_117 (show Ob h (thA h t) 4 from hR.th_ob t (by omega)) rfl (hR.th6 t (by omega)) ?_
    exact wp_iret eX5_thing_120 ⟨congrArg (fun z => some (Value.int z)) (by unfold sThing; simp_all), rfl⟩
  by_cases c_13_7 : w = 7
  · refine wp_switch (t := 121) eX5_thing_13 (am_swI (off := 108) (by rw [c_13_7]; decide) (by rw [c_13_7]; decide) (by rw [c_13_7]; rfl) rfl) ?_
    refine wp_aload_n eX5_thing_121 rfl ?_
    refine wp_getI (v := S 26 t) eX5_thing_122 (show Ob h (thA h t) 4 from hR.th_ob t (by omega)) rfl (hR.th7 t (by omega)) ?_
    exact wp_iret eX5_thing_125 ⟨congrArg (fun z => some (Value.int z)) (by unfold sThing; simp_all), rfl⟩
  by_cases c_13_8 : w = 8
  · refine wp_switch (t := 126) eX5_thing_13 (am_swI (off := 113) (by rw [c_13_8]; decide) (by rw [c_13_8]; decide) (by rw [c_13_8]; rfl) rfl) ?_
    refine wp_aload_n eX5_thing_126 rfl ?_
    refine wp_virt (rv := (some (.int (-1)))) (h' := h) (r := []) eX5_thing_127 [] rfl rfl rfl (show Ob h (thA h t) 4 from hR.th_ob t (by omega)) (bX4_placeNumberN _ hR ht h26) ?_
    exact wp_iret eX5_thing_130 ⟨congrArg (fun z => some (Value.int z)) (by unfold sThing; simp_all), rfl⟩
  by_cases c_13_9 : w = 9
  · refine wp_switch (t := 131) eX5_thing_13 (am_swI (off := 118) (by rw [c_13_9]; decide) (by rw [c_13_9]; decide) (by rw [c_13_9]; rfl) rfl) ?_
    refine wp_aload_n eX5_thing_131 rfl ?_
    refine wp_aload_n eX5_thing_132 rfl ?_
    refine wp_getI (v := S 10 0) eX5_thing_133 (show Ob h 1 5 from hC.ob) rfl hR.c10 ?_
    refine wp_virt (rv := (some (.int (sWant S t)))) (h' := h) (r := []) eX5_thing_136 [.int (S 10 0)] rfl rfl rfl (show Ob h (thA h t) 4 from hR.th_ob t (by omega)) (bX4_wanted _ hS (hR.tv ht) (hS.2.1 t ht)) ?_
    exact wp_iret eX5_thing_139 ⟨congrArg (fun z => some (Value.int z)) (by unfold sThing; simp_all), rfl⟩
  by_cases c_13_10 : w = 10
  · refine wp_switch (t := 140) eX5_thing_13 (am_swI (off := 127) (by rw [c_13_10]; decide) (by rw [c_13_10]; decide) (by rw [c_13_10]; rfl) rfl) ?_
    refine wp_aload_n eX5_thing_140 rfl ?_
    refine wp_aload_n eX5_thing_141 rfl ?_
    refine wp_getI (v := S 10 0) eX5_thing_142 (show Ob h 1 5 from hC.ob) rfl hR.c10 ?_
    refine wp_virt (rv := (some (.int (-1)))) (h' := h) (r := []) eX5_thing_145 [.int (S 10 0)] rfl rfl rfl (show Ob h (thA h t) 4 from hR.th_ob t (by omega)) (bX4_misfitHereN _ hR ht h26 _) ?_
    exact wp_iret eX5_thing_148 ⟨congrArg (fun z => some (Value.int z)) (by unfold sThing; simp_all), rfl⟩
  by_cases c_13_11 : w = 11
  · refine wp_switch (t := 149) eX5_thing_13 (am_swI (off := 136) (by rw [c_13_11]; decide) (by rw [c_13_11]; decide) (by rw [c_13_11]; rfl) rfl) ?_
    refine wp_aload_n eX5_thing_149 rfl ?_
    refine wp_getI (v := S 28 t) eX5_thing_150 (show Ob h (thA h t) 4 from hR.th_ob t (by omega)) rfl (hR.th9 t (by omega)) ?_
    exact wp_iret eX5_thing_153 ⟨congrArg (fun z => some (Value.int z)) (by unfold sThing; simp_all), rfl⟩
  by_cases c_13_12 : w = 12
  · refine wp_switch (t := 154) eX5_thing_13 (am_swI (off := 141) (by rw [c_13_12]; decide) (by rw [c_13_12]; decide) (by rw [c_13_12]; rfl) rfl) ?_
    refine wp_aload_n eX5_thing_154 rfl ?_
    refine wp_getI (v := S 29 t) eX5_thing_155 (show Ob h (thA h t) 4 from hR.th_ob t (by omega)) rfl (hR.th10 t (by omega)) ?_
    exact wp_iret eX5_thing_158 ⟨congrArg (fun z => some (Value.int z)) (by unfold sThing; simp_all), rfl⟩
  refine wp_switch (t := 159) eX5_thing_13 (am_swO (am_out12 c_13_0 c_13_1 c_13_2 c_13_3 c_13_4 c_13_5 c_13_6 c_13_7 c_13_8 c_13_9 c_13_10 c_13_11 c_13_12) rfl) ?_
  refine wp_iconst (v := (-1)) eX5_thing_159 rfl ?_
  exact wp_iret eX5_thing_160 ⟨congrArg (fun z => some (Value.int z)) (by unfold sThing; simp_all), rfl⟩

set_option maxRecDepth 4000 in
theorem bX5_thing_out (d : Nat) {h : Hp} {S : St} (hR : CR S h) (hW : MW S) (x w : Int32) (hx : ∀ c, c < cT S → ¬ x = nI c) : Res (d + 4) nX5_thing [.ref 1, .int x, .int w] h (some (.int (-1))) h := by
  have hC := hR.1
  have h5 := hW.1.2
  have h11 := hW.2.1.2
  have h12 := hW.2.2.1.2
  have h29 := hW.2.2.2.2
  refine Res_intro (ls := [some (.ref 1), some (.int x), some (.int w), none]) aX5_thing rfl rfl rfl rfl ?_
  show WP kX5_thing _ _ _ _ _ _
  refine wp_aload_n eX5_thing_0 rfl ?_
  refine wp_iload_n eX5_thing_1 rfl ?_
  refine wp_virt (rv := (some (va_rf none))) (h' := h) (r := []) eX5_thing_2 [.int x] rfl rfl rfl (show Ob h 1 5 from hC.ob) (bX5_thingAtN _ hR hW _ hx) ?_
  refine wp_astore_nO (ls' := [some (.ref 1), some (.int x), some (.int w), some (va_rf none)]) eX5_thing_5 rfl rfl ?_
  refine wp_aload_nO eX5_thing_6 rfl ?_
  refine wp_ifnonnullF eX5_thing_7 ?_
  refine wp_iconst (v := (-1)) eX5_thing_10 rfl ?_
  exact wp_iret eX5_thing_11 ⟨congrArg (fun z => some (Value.int z)) (rfl), rfl⟩

set_option maxRecDepth 4000 in
theorem bX5_shelfOf (d : Nat) {h : Hp} {S : St} (hR : CR S h) (hW : MW S) (s : Nat) (w : Int32) (hs : s < cS S) : Res (d + 3) nX5_shelfOf [.ref 1, .int (nI s), .int w] h (some (.int (sShOf S s w))) h := by
  have hC := hR.1
  have h5 := hW.1.2
  have h11 := hW.2.1.2
  have h12 := hW.2.2.1.2
  have h29 := hW.2.2.2.2
  refine Res_intro (ls := [some (.ref 1), some (.int (nI s)), some (.int w), none]) aX5_shelfOf rfl rfl rfl rfl ?_
  show WP kX5_shelfOf _ _ _ _ _ _
  refine wp_aload_n eX5_shelfOf_0 rfl ?_
  refine wp_iload_n eX5_shelfOf_1 rfl ?_
  refine wp_virt (rv := (some (.ref (shA h s)))) (h' := h) (r := []) eX5_shelfOf_2 [.int (nI s)] rfl rfl rfl (show Ob h 1 5 from hC.ob) (bX5_shelfAt _ hR hW _ (by omega)) ?_
  refine wp_astore_n (ls' := [some (.ref 1), some (.int (nI s)), some (.int w), some (.ref (shA h s))]) eX5_shelfOf_5 rfl rfl ?_
  refine wp_aload_n eX5_shelfOf_6 rfl ?_
  refine wp_ifnonnullT eX5_shelfOf_7 ?_
  refine wp_iload_n eX5_shelfOf_12 rfl ?_
  by_cases c_13_0 : w = 0
  · refine wp_switch (t := 56) eX5_shelfOf_13 (am_swI (off := 43) (by rw [c_13_0]; decide) (by rw [c_13_0]; decide) (by rw [c_13_0]; rfl) rfl) ?_
    refine wp_aload_n eX5_shelfOf_56 rfl ?_
    refine wp_getI (v := S 16 s) eX5_shelfOf_57 (show Ob h (shA h s) 3 from hR.sh_ob s (by omega)) rfl (hR.sh1 s (by omega)) ?_
    exact wp_iret eX5_shelfOf_60 ⟨congrArg (fun z => some (Value.int z)) (by unfold sShOf; simp_all), rfl⟩
  by_cases c_13_1 : w = 1
  · refine wp_switch (t := 61) eX5_shelfOf_13 (am_swI (off := 48) (by rw [c_13_1]; decide) (by rw [c_13_1]; decide) (by rw [c_13_1]; rfl) rfl) ?_
    refine wp_aload_n eX5_shelfOf_61 rfl ?_
    refine wp_getI (v := S 17 s) eX5_shelfOf_62 (show Ob h (shA h s) 3 from hR.sh_ob s (by omega)) rfl (hR.sh2 s (by omega)) ?_
    exact wp_iret eX5_shelfOf_65 ⟨congrArg (fun z => some (Value.int z)) (by unfold sShOf; simp_all), rfl⟩
  by_cases c_13_2 : w = 2
  · refine wp_switch (t := 66) eX5_shelfOf_13 (am_swI (off := 53) (by rw [c_13_2]; decide) (by rw [c_13_2]; decide) (by rw [c_13_2]; rfl) rfl) ?_
    refine wp_aload_n eX5_shelfOf_66 rfl ?_
    refine wp_getI (v := S 19 s) eX5_shelfOf_67 (show Ob h (shA h s) 3 from hR.sh_ob s (by omega)) rfl (hR.sh3 s (by omega)) ?_
    refine wp_stat (rv := (some (.int (if S 19 s = 0 then 0 else 1)))) (h' := h) (r := []) eX5_shelfOf_70 [.int (S 19 s)] rfl rfl rfl rfl (rX5_asNumber _ _) ?_
    exact wp_iret eX5_shelfOf_73 ⟨congrArg (fun z => some (Value.int z)) (by unfold sShOf; simp_all), rfl⟩
  by_cases c_13_3 : w = 3
  · refine wp_switch (t := 74) eX5_shelfOf_13 (am_swI (off := 61) (by rw [c_13_3]; decide) (by rw [c_13_3]; decide) (by rw [c_13_3]; rfl) rfl) ?_
    refine wp_aload_n eX5_shelfOf_74 rfl ?_
    refine wp_getI (v := S 18 s) eX5_shelfOf_75 (show Ob h (shA h s) 3 from hR.sh_ob s (by omega)) rfl (hR.sh4 s (by omega)) ?_
    exact wp_iret eX5_shelfOf_78 ⟨congrArg (fun z => some (Value.int z)) (by unfold sShOf; simp_all), rfl⟩
  by_cases c_13_4 : w = 4
  · refine wp_switch (t := 79) eX5_shelfOf_13 (am_swI (off := 66) (by rw [c_13_4]; decide) (by rw [c_13_4]; decide) (by rw [c_13_4]; rfl) rfl) ?_
    refine wp_aload_n eX5_shelfOf_79 rfl ?_
    refine wp_getI (v := sFree S s (cT S)) eX5_shelfOf_80 (show Ob h (shA h s) 3 from hR.sh_ob s (by omega)) rfl (hR.sh5 s (by omega)) ?_
    exact wp_iret eX5_shelfOf_83 ⟨congrArg (fun z => some (Value.int z)) (by unfold sShOf; simp_all), rfl⟩
  by_cases c_13_5 : w = 5
  · refine wp_switch (t := 84) eX5_shelfOf_13 (am_swI (off := 71) (by rw [c_13_5]; decide) (by rw [c_13_5]; decide) (by rw [c_13_5]; rfl) rfl) ?_
    refine wp_aload_n eX5_shelfOf_84 rfl ?_
    refine wp_getI (v := sLoad S s (cT S)) eX5_shelfOf_85 (show Ob h (shA h s) 3 from hR.sh_ob s (by omega)) rfl (hR.sh6 s (by omega)) ?_
    exact wp_iret eX5_shelfOf_88 ⟨congrArg (fun z => some (Value.int z)) (by unfold sShOf; simp_all), rfl⟩
  by_cases c_13_6 : w = 6
  · refine wp_switch (t := 89) eX5_shelfOf_13 (am_swI (off := 76) (by rw [c_13_6]; decide) (by rw [c_13_6]; decide) (by rw [c_13_6]; rfl) rfl) ?_
    refine wp_aload_n eX5_shelfOf_89 rfl ?_
    refine wp_getI (v := S 20 s) eX5_shelfOf_90 (show Ob h (shA h s) 3 from hR.sh_ob s (by omega)) rfl (hR.sh7 s (by omega)) ?_
    refine wp_stat (rv := (some (.int (if S 20 s = 0 then 0 else 1)))) (h' := h) (r := []) eX5_shelfOf_93 [.int (S 20 s)] rfl rfl rfl rfl (rX5_asNumber _ _) ?_
    exact wp_iret eX5_shelfOf_96 ⟨congrArg (fun z => some (Value.int z)) (by unfold sShOf; simp_all), rfl⟩
  refine wp_switch (t := 97) eX5_shelfOf_13 (am_swO (am_out6 c_13_0 c_13_1 c_13_2 c_13_3 c_13_4 c_13_5 c_13_6) rfl) ?_
  refine wp_iconst (v := (-1)) eX5_shelfOf_97 rfl ?_
  exact wp_iret eX5_shelfOf_98 ⟨congrArg (fun z => some (Value.int z)) (by unfold sShOf; simp_all), rfl⟩

set_option maxRecDepth 4000 in
theorem bX5_shelfOf_out (d : Nat) {h : Hp} {S : St} (hR : CR S h) (hW : MW S) (x w : Int32) (hx : ∀ c, c < cS S → ¬ x = nI c) : Res (d + 3) nX5_shelfOf [.ref 1, .int x, .int w] h (some (.int (-1))) h := by
  have hC := hR.1
  have h5 := hW.1.2
  have h11 := hW.2.1.2
  have h12 := hW.2.2.1.2
  have h29 := hW.2.2.2.2
  refine Res_intro (ls := [some (.ref 1), some (.int x), some (.int w), none]) aX5_shelfOf rfl rfl rfl rfl ?_
  show WP kX5_shelfOf _ _ _ _ _ _
  refine wp_aload_n eX5_shelfOf_0 rfl ?_
  refine wp_iload_n eX5_shelfOf_1 rfl ?_
  refine wp_virt (rv := (some (va_rf none))) (h' := h) (r := []) eX5_shelfOf_2 [.int x] rfl rfl rfl (show Ob h 1 5 from hC.ob) (bX5_shelfAtN _ hR hW _ hx) ?_
  refine wp_astore_nO (ls' := [some (.ref 1), some (.int x), some (.int w), some (va_rf none)]) eX5_shelfOf_5 rfl rfl ?_
  refine wp_aload_nO eX5_shelfOf_6 rfl ?_
  refine wp_ifnonnullF eX5_shelfOf_7 ?_
  refine wp_iconst (v := (-1)) eX5_shelfOf_10 rfl ?_
  exact wp_iret eX5_shelfOf_11 ⟨congrArg (fun z => some (Value.int z)) (rfl), rfl⟩

set_option maxRecDepth 4000 in
theorem bX5_claimOf (d : Nat) {h : Hp} {S : St} (hR : CR S h) (hW : MW S) (c : Nat) (w : Int32) (hc : c < cC S) (hT : TI S c) : Res (d + 3) nX5_claimOf [.ref 1, .int (nI c), .int w] h (some (.int (sClOf S c w))) h := by
  have hC := hR.1
  have h5 := hW.1.2
  have h11 := hW.2.1.2
  have h12 := hW.2.2.1.2
  have h29 := hW.2.2.2.2
  refine Res_intro (ls := [some (.ref 1), some (.int (nI c)), some (.int w), none]) aX5_claimOf rfl rfl rfl rfl ?_
  show WP kX5_claimOf _ _ _ _ _ _
  refine wp_aload_n eX5_claimOf_0 rfl ?_
  refine wp_iload_n eX5_claimOf_1 rfl ?_
  refine wp_virt (rv := (some (.ref (clA h c)))) (h' := h) (r := []) eX5_claimOf_2 [.int (nI c)] rfl rfl rfl (show Ob h 1 5 from hC.ob) (bX5_claimAt _ hR hW _ (by omega)) ?_
  refine wp_astore_n (ls' := [some (.ref 1), some (.int (nI c)), some (.int w), some (.ref (clA h c))]) eX5_claimOf_5 rfl rfl ?_
  refine wp_aload_n eX5_claimOf_6 rfl ?_
  refine wp_ifnonnullT eX5_claimOf_7 ?_
  refine wp_iload_n eX5_claimOf_12 rfl ?_
  refine wp_bipush (v := 10) eX5_claimOf_13 rfl ?_
  refine wp_bipush (v := 13) eX5_claimOf_15 rfl ?_
  refine wp_stat (rv := (some (.int (sIn w 10 13)))) (h' := h) (r := []) eX5_claimOf_17 [.int w, .int 10, .int 13] rfl rfl rfl rfl (rX5_isWithin _ _ _ _) ?_
  refine wp_if eX5_claimOf_20 (fun (c_20 : (sIn w 10 13) = 0) => ?_) (fun (c_20 : ¬ ((sIn w 10 13) = 0)) => ?_)
  · refine wp_iload_n eX5_claimOf_33 rfl ?_
    by_cases c_34_0 : w = 0
    · refine wp_switch (t := 60) eX5_claimOf_34 (am_swI (off := 26) (by rw [c_34_0]; decide) (by rw [c_34_0]; decide) (by rw [c_34_0]; rfl) rfl) ?_
      refine wp_aload_n eX5_claimOf_60 rfl ?_
      refine wp_virt (rv := (some (.int (sTold S c 4)))) (h' := h) (r := []) eX5_claimOf_61 [] rfl rfl rfl (show Ob h (clA h c) 1 from hR.cl_ob c (by omega)) (bX1_toldCount _ hR hW _ (by omega) hT) ?_
      exact wp_iret eX5_claimOf_64 ⟨congrArg (fun z => some (Value.int z)) (by unfold sClOf; simp_all), rfl⟩
    by_cases c_34_1 : w = 1
    · refine wp_switch (t := 65) eX5_claimOf_34 (am_swI (off := 31) (by rw [c_34_1]; decide) (by rw [c_34_1]; decide) (by rw [c_34_1]; rfl) rfl) ?_
      refine wp_aload_n eX5_claimOf_65 rfl ?_
      refine wp_getI (v := S 34 c) eX5_claimOf_66 (show Ob h (clA h c) 1 from hR.cl_ob c (by omega)) rfl (hR.cl1 c (by omega)) ?_
      refine wp_stat (rv := (some (.int (if S 34 c = 0 then 0 else 1)))) (h' := h) (r := []) eX5_claimOf_69 [.int (S 34 c)] rfl rfl rfl rfl (rX5_asNumber _ _) ?_
      exact wp_iret eX5_claimOf_72 ⟨congrArg (fun z => some (Value.int z)) (by unfold sClOf; simp_all), rfl⟩
    by_cases c_34_2 : w = 2
    · refine wp_switch (t := 73) eX5_claimOf_34 (am_swI (off := 39) (by rw [c_34_2]; decide) (by rw [c_34_2]; decide) (by rw [c_34_2]; rfl) rfl) ?_
      refine wp_aload_n eX5_claimOf_73 rfl ?_
      refine wp_getI (v := S 33 c) eX5_claimOf_74 (show Ob h (clA h c) 1 from hR.cl_ob c (by omega)) rfl (hR.cl2 c (by omega)) ?_
      exact wp_iret eX5_claimOf_77 ⟨congrArg (fun z => some (Value.int z)) (by unfold sClOf; simp_all), rfl⟩
    refine wp_switch (t := 78) eX5_claimOf_34 (am_swO (am_out2 c_34_0 c_34_1 c_34_2) rfl) ?_
    refine wp_iconst (v := (-1)) eX5_claimOf_78 rfl ?_
    exact wp_iret eX5_claimOf_79 ⟨congrArg (fun z => some (Value.int z)) (by unfold sClOf; simp_all), rfl⟩
  · obtain ⟨k0, hk0, ek0⟩ := w1013 c_20
    refine wp_aload_n eX5_claimOf_23 rfl ?_
    refine wp_getR (v := toA h c) eX5_claimOf_24 (show Ob h (clA h c) 1 from hR.cl_ob c (by omega)) rfl (hR.cl_t c (by omega)) ?_
    refine wp_iload_n eX5_claimOf_27 rfl ?_
    refine wp_bipush (v := 10) eX5_claimOf_28 rfl ?_
    refine wp_isub eX5_claimOf_30 ?_
    refine wp_top (y := nI k0) (by rw [ek0, show 10 + k0 = k0 + 10 by omega, ← nI_add]; exact Int32.add_sub_cancel _ _) ?_
    refine wp_ial (v := S 32 (4 * c + k0)) (t := k0) eX5_claimOf_31 (show Ar h (toA h c) 7 4 from hR.cl_ta c (by omega)) (by omega) rfl (hR.cl_tv c (by omega) k0 (by omega)) ?_
    exact wp_iret eX5_claimOf_32 ⟨congrArg (fun z => some (Value.int z)) (by rw [ek0]; exact sClOf_mk S c k0 hk0), rfl⟩

set_option maxRecDepth 4000 in
theorem bX5_claimOf_out (d : Nat) {h : Hp} {S : St} (hR : CR S h) (hW : MW S) (x w : Int32) (hx : ∀ c, c < cC S → ¬ x = nI c) : Res (d + 3) nX5_claimOf [.ref 1, .int x, .int w] h (some (.int (-1))) h := by
  have hC := hR.1
  have h5 := hW.1.2
  have h11 := hW.2.1.2
  have h12 := hW.2.2.1.2
  have h29 := hW.2.2.2.2
  refine Res_intro (ls := [some (.ref 1), some (.int x), some (.int w), none]) aX5_claimOf rfl rfl rfl rfl ?_
  show WP kX5_claimOf _ _ _ _ _ _
  refine wp_aload_n eX5_claimOf_0 rfl ?_
  refine wp_iload_n eX5_claimOf_1 rfl ?_
  refine wp_virt (rv := (some (va_rf none))) (h' := h) (r := []) eX5_claimOf_2 [.int x] rfl rfl rfl (show Ob h 1 5 from hC.ob) (bX5_claimAtN _ hR hW _ hx) ?_
  refine wp_astore_nO (ls' := [some (.ref 1), some (.int x), some (.int w), some (va_rf none)]) eX5_claimOf_5 rfl rfl ?_
  refine wp_aload_nO eX5_claimOf_6 rfl ?_
  refine wp_ifnonnullF eX5_claimOf_7 ?_
  refine wp_iconst (v := (-1)) eX5_claimOf_10 rfl ?_
  exact wp_iret eX5_claimOf_11 ⟨congrArg (fun z => some (Value.int z)) (rfl), rfl⟩

set_option maxRecDepth 4000 in
theorem bX5_count (d : Nat) {h : Hp} {S : St} (hR : CR S h) (hW : MW S) (w : Int32) (hL : cLds S (cS S) = sIns S (cT S)) : Res (d + 3) nX5_count [.ref 1, .int w] h (some (.int (sCount S w))) h := by
  have hC := hR.1
  have h5 := hW.1.2
  have h11 := hW.2.1.2
  have h12 := hW.2.2.1.2
  have h29 := hW.2.2.2.2
  refine Res_intro (ls := [some (.ref 1), some (.int w)]) aX5_count rfl rfl rfl rfl ?_
  show WP kX5_count _ _ _ _ _ _
  refine wp_iload_n eX5_count_0 rfl ?_
  by_cases c_1_0 : w = 0
  · refine wp_switch (t := 60) eX5_count_1 (am_swI (off := 59) (by rw [c_1_0]; decide) (by rw [c_1_0]; decide) (by rw [c_1_0]; rfl) rfl) ?_
    refine wp_aload_n eX5_count_60 rfl ?_
    refine wp_getI (v := S 10 11) eX5_count_61 (show Ob h 1 5 from hC.ob) rfl hR.c1 ?_
    exact wp_iret eX5_count_64 ⟨congrArg (fun z => some (Value.int z)) (by unfold sCount; rcases sOpen_01 S with q | q <;> simp_all), rfl⟩
  by_cases c_1_1 : w = 1
  · refine wp_switch (t := 65) eX5_count_1 (am_swI (off := 64) (by rw [c_1_1]; decide) (by rw [c_1_1]; decide) (by rw [c_1_1]; rfl) rfl) ?_
    refine wp_aload_n eX5_count_65 rfl ?_
    refine wp_getI (v := S 10 12) eX5_count_66 (show Ob h 1 5 from hC.ob) rfl hR.c3 ?_
    exact wp_iret eX5_count_69 ⟨congrArg (fun z => some (Value.int z)) (by unfold sCount; rcases sOpen_01 S with q | q <;> simp_all), rfl⟩
  by_cases c_1_2 : w = 2
  · refine wp_switch (t := 70) eX5_count_1 (am_swI (off := 69) (by rw [c_1_2]; decide) (by rw [c_1_2]; decide) (by rw [c_1_2]; rfl) rfl) ?_
    refine wp_aload_n eX5_count_70 rfl ?_
    refine wp_virt (rv := (some (.int (cLds S (cS S))))) (h' := h) (r := []) eX5_count_71 [] rfl rfl rfl (show Ob h 1 5 from hC.ob) (bX5_thingsIn _ hR hW) ?_
    exact wp_iret eX5_count_74 ⟨congrArg (fun z => some (Value.int z)) (by unfold sCount; rcases sOpen_01 S with q | q <;> simp_all), rfl⟩
  by_cases c_1_3 : w = 3
  · refine wp_switch (t := 75) eX5_count_1 (am_swI (off := 74) (by rw [c_1_3]; decide) (by rw [c_1_3]; decide) (by rw [c_1_3]; rfl) rfl) ?_
    refine wp_aload_n eX5_count_75 rfl ?_
    refine wp_getI (v := S 10 29) eX5_count_76 (show Ob h 1 5 from hC.ob) rfl hR.c5 ?_
    exact wp_iret eX5_count_79 ⟨congrArg (fun z => some (Value.int z)) (by unfold sCount; rcases sOpen_01 S with q | q <;> simp_all), rfl⟩
  by_cases c_1_4 : w = 4
  · refine wp_switch (t := 80) eX5_count_1 (am_swI (off := 79) (by rw [c_1_4]; decide) (by rw [c_1_4]; decide) (by rw [c_1_4]; rfl) rfl) ?_
    refine wp_aload_n eX5_count_80 rfl ?_
    refine wp_getI (v := S 10 5) eX5_count_81 (show Ob h 1 5 from hC.ob) rfl hR.c7 ?_
    exact wp_iret eX5_count_84 ⟨congrArg (fun z => some (Value.int z)) (by unfold sCount; rcases sOpen_01 S with q | q <;> simp_all), rfl⟩
  by_cases c_1_5 : w = 5
  · refine wp_switch (t := 85) eX5_count_1 (am_swI (off := 84) (by rw [c_1_5]; decide) (by rw [c_1_5]; decide) (by rw [c_1_5]; rfl) rfl) ?_
    refine wp_aload_n eX5_count_85 rfl ?_
    refine wp_getI (v := S 10 0) eX5_count_86 (show Ob h 1 5 from hC.ob) rfl hR.c10 ?_
    exact wp_iret eX5_count_89 ⟨congrArg (fun z => some (Value.int z)) (by unfold sCount; rcases sOpen_01 S with q | q <;> simp_all), rfl⟩
  by_cases c_1_6 : w = 6
  · refine wp_switch (t := 90) eX5_count_1 (am_swI (off := 89) (by rw [c_1_6]; decide) (by rw [c_1_6]; decide) (by rw [c_1_6]; rfl) rfl) ?_
    refine wp_aload_n eX5_count_90 rfl ?_
    refine wp_virt (rv := (some (.int (S 10 0 / 1440)))) (h' := h) (r := []) eX5_count_91 [] rfl rfl rfl (show Ob h 1 5 from hC.ob) (bX5_today _ hR hW) ?_
    exact wp_iret eX5_count_94 ⟨congrArg (fun z => some (Value.int z)) (by unfold sCount; rcases sOpen_01 S with q | q <;> simp_all), rfl⟩
  by_cases c_1_7 : w = 7
  · refine wp_switch (t := 95) eX5_count_1 (am_swI (off := 94) (by rw [c_1_7]; decide) (by rw [c_1_7]; decide) (by rw [c_1_7]; rfl) rfl) ?_
    refine wp_aload_n eX5_count_95 rfl ?_
    refine wp_virt (rv := (some (.int (sOpen S)))) (h' := h) (r := []) eX5_count_96 [] rfl rfl rfl (show Ob h 1 5 from hC.ob) (bX5_isOpen _ hR hW) ?_
    refine wp_stat (rv := (some (.int (if sOpen S = 0 then 0 else 1)))) (h' := h) (r := []) eX5_count_99 [.int (sOpen S)] rfl rfl rfl rfl (rX5_asNumber _ _) ?_
    exact wp_iret eX5_count_102 ⟨congrArg (fun z => some (Value.int z)) (by unfold sCount; rcases sOpen_01 S with q | q <;> simp_all), rfl⟩
  by_cases c_1_8 : w = 8
  · refine wp_switch (t := 103) eX5_count_1 (am_swI (off := 102) (by rw [c_1_8]; decide) (by rw [c_1_8]; decide) (by rw [c_1_8]; rfl) rfl) ?_
    refine wp_aload_n eX5_count_103 rfl ?_
    refine wp_getI (v := S 10 3) eX5_count_104 (show Ob h 1 5 from hC.ob) rfl hR.c13 ?_
    exact wp_iret eX5_count_107 ⟨congrArg (fun z => some (Value.int z)) (by unfold sCount; rcases sOpen_01 S with q | q <;> simp_all), rfl⟩
  by_cases c_1_9 : w = 9
  · refine wp_switch (t := 108) eX5_count_1 (am_swI (off := 107) (by rw [c_1_9]; decide) (by rw [c_1_9]; decide) (by rw [c_1_9]; rfl) rfl) ?_
    refine wp_aload_n eX5_count_108 rfl ?_
    refine wp_virt (rv := (some (.int (sKept S (cT S))))) (h' := h) (r := []) eX5_count_109 [] rfl rfl rfl (show Ob h 1 5 from hC.ob) (bX5_coinsKept _ hR hW) ?_
    exact wp_iret eX5_count_112 ⟨congrArg (fun z => some (Value.int z)) (by unfold sCount; rcases sOpen_01 S with q | q <;> simp_all), rfl⟩
  by_cases c_1_10 : w = 10
  · refine wp_switch (t := 113) eX5_count_1 (am_swI (off := 112) (by rw [c_1_10]; decide) (by rw [c_1_10]; decide) (by rw [c_1_10]; rfl) rfl) ?_
    refine wp_aload_n eX5_count_113 rfl ?_
    refine wp_getI (v := S 10 4) eX5_count_114 (show Ob h 1 5 from hC.ob) rfl hR.c14 ?_
    exact wp_iret eX5_count_117 ⟨congrArg (fun z => some (Value.int z)) (by unfold sCount; rcases sOpen_01 S with q | q <;> simp_all), rfl⟩
  refine wp_switch (t := 118) eX5_count_1 (am_swO (am_out10 c_1_0 c_1_1 c_1_2 c_1_3 c_1_4 c_1_5 c_1_6 c_1_7 c_1_8 c_1_9 c_1_10) rfl) ?_
  refine wp_iconst (v := (-1)) eX5_count_118 rfl ?_
  exact wp_iret eX5_count_119 ⟨congrArg (fun z => some (Value.int z)) (by unfold sCount; rcases sOpen_01 S with q | q <;> simp_all), rfl⟩

set_option maxRecDepth 4000 in
theorem bX5_fee (d : Nat) {h : Hp} {S : St} (hR : CR S h) (hW : MW S) (x : Int32) (t : Nat) (ht : t < cT S) (hx : sThOf S x = nI t) (hF : FW S t) (hle : sF S t ≤ sL S t + 1) (hn1 : S 29 t < 0 → S 29 t = -1) : Res (d + 4) nX5_fee [.ref 1, .int x] h (some (.int (sFeeV S t))) h := by
  have hC := hR.1
  have h5 := hW.1.2
  have h11 := hW.2.1.2
  have h12 := hW.2.2.1.2
  have h29 := hW.2.2.2.2
  obtain ⟨t1, t2⟩ := sThOf_in (by omega) hx
  refine Res_intro (ls := [some (.ref 1), some (.int x), none]) aX5_fee rfl rfl rfl rfl ?_
  show WP kX5_fee _ _ _ _ _ _
  refine wp_iload_n eX5_fee_0 rfl ?_
  refine wp_stat (rv := (some (.int (cTkt x)))) (h' := h) (r := []) eX5_fee_1 [.int x] rfl rfl rfl rfl (rX5_isTicket _ _) ?_
  refine wp_ifT eX5_fee_4 (show ¬ (cTkt x) = 0 from (by rw [t1]; decide)) ?_
  refine wp_aload_n eX5_fee_10 rfl ?_
  refine wp_iload_n eX5_fee_11 rfl ?_
  refine wp_bipush (v := 100) eX5_fee_12 rfl ?_
  refine wp_idiv eX5_fee_14 (by decide) ?_
  refine wp_top (y := nI t) t2 ?_
  refine wp_virt (rv := (some (.ref (thA h t)))) (h' := h) (r := []) eX5_fee_15 [.int (nI t)] rfl rfl rfl (show Ob h 1 5 from hC.ob) (bX5_thingAt _ hR hW _ (by omega)) ?_
  refine wp_astore_n (ls' := [some (.ref 1), some (.int x), some (.ref (thA h t))]) eX5_fee_18 rfl rfl ?_
  refine wp_aload_n eX5_fee_19 rfl ?_
  refine wp_ifnonnullT eX5_fee_20 ?_
  refine wp_aload_n eX5_fee_26 rfl ?_
  refine wp_getI (v := S 26 t) eX5_fee_27 (show Ob h (thA h t) 4 from hR.th_ob t (by omega)) rfl (hR.th7 t (by omega)) ?_
  refine wp_if eX5_fee_30 (fun (c_30 : (S 26 t) = 0) => ?_) (fun (c_30 : ¬ ((S 26 t) = 0)) => ?_)
  · refine wp_aload_n eX5_fee_44 rfl ?_
    refine wp_aload_n eX5_fee_45 rfl ?_
    refine wp_virt (rv := (some (.int (sFee S t)))) (h' := h) (r := []) eX5_fee_46 [.ref (thA h t)] rfl rfl rfl (show Ob h 1 5 from hC.ob) (bX5_feeOf _ hR hW _ (by omega) hF hle hn1) ?_
    exact wp_iret eX5_fee_49 ⟨congrArg (fun z => some (Value.int z)) (by simp only [sFeeV]; (repeat' split) <;> first | rfl | (exfalso; simp_all; done) | (exfalso; simp only [Int32.lt_iff_toInt_lt, Int32.le_iff_toInt_le, ← Int32.toInt_inj, Int32.reduceToInt] at *; omega)), rfl⟩
  · refine wp_aload_n eX5_fee_33 rfl ?_
    refine wp_getI (v := S 26 t) eX5_fee_34 (show Ob h (thA h t) 4 from hR.th_ob t (by omega)) rfl (hR.th7 t (by omega)) ?_
    refine wp_iconst (v := 2) eX5_fee_37 rfl ?_
    refine wp_icmp eX5_fee_38 (fun (c_38 : (S 26 t) = 2) => ?_) (fun (c_38 : ¬ ((S 26 t) = 2)) => ?_)
    · refine wp_aload_n eX5_fee_44 rfl ?_
      refine wp_aload_n eX5_fee_45 rfl ?_
      refine wp_virt (rv := (some (.int (sFee S t)))) (h' := h) (r := []) eX5_fee_46 [.ref (thA h t)] rfl rfl rfl (show Ob h 1 5 from hC.ob) (bX5_feeOf _ hR hW _ (by omega) hF hle hn1) ?_
      exact wp_iret eX5_fee_49 ⟨congrArg (fun z => some (Value.int z)) (by simp only [sFeeV]; (repeat' split) <;> first | rfl | (exfalso; simp_all; done) | (exfalso; simp only [Int32.lt_iff_toInt_lt, Int32.le_iff_toInt_le, ← Int32.toInt_inj, Int32.reduceToInt] at *; omega)), rfl⟩
    · refine wp_bipush (v := (-4)) eX5_fee_41 rfl ?_
      exact wp_iret eX5_fee_43 ⟨congrArg (fun z => some (Value.int z)) (by simp only [sFeeV]; (repeat' split) <;> first | rfl | (exfalso; simp_all; done) | (exfalso; simp only [Int32.lt_iff_toInt_lt, Int32.le_iff_toInt_le, ← Int32.toInt_inj, Int32.reduceToInt] at *; omega)), rfl⟩

set_option maxRecDepth 4000 in
theorem bX5_fee_out2 (d : Nat) {h : Hp} {S : St} (hR : CR S h) (hW : MW S) (x : Int32) (hx : cTkt x = 0) : Res (d + 4) nX5_fee [.ref 1, .int x] h (some (.int (-2))) h := by
  have hC := hR.1
  have h5 := hW.1.2
  have h11 := hW.2.1.2
  have h12 := hW.2.2.1.2
  have h29 := hW.2.2.2.2
  refine Res_intro (ls := [some (.ref 1), some (.int x), none]) aX5_fee rfl rfl rfl rfl ?_
  show WP kX5_fee _ _ _ _ _ _
  refine wp_iload_n eX5_fee_0 rfl ?_
  refine wp_stat (rv := (some (.int (cTkt x)))) (h' := h) (r := []) eX5_fee_1 [.int x] rfl rfl rfl rfl (rX5_isTicket _ _) ?_
  refine wp_ifF eX5_fee_4 (show ¬ (¬ (cTkt x) = 0) from (fun q => q hx)) ?_
  refine wp_bipush (v := (-2)) eX5_fee_7 rfl ?_
  exact wp_iret eX5_fee_9 ⟨congrArg (fun z => some (Value.int z)) (rfl), rfl⟩

set_option maxRecDepth 4000 in
theorem bX5_fee_out3 (d : Nat) {h : Hp} {S : St} (hR : CR S h) (hW : MW S) (x : Int32) (ht : cTkt x = 1) (hx : ∀ c, c < cT S → ¬ x / 100 = nI c) : Res (d + 4) nX5_fee [.ref 1, .int x] h (some (.int (-3))) h := by
  have hC := hR.1
  have h5 := hW.1.2
  have h11 := hW.2.1.2
  have h12 := hW.2.2.1.2
  have h29 := hW.2.2.2.2
  refine Res_intro (ls := [some (.ref 1), some (.int x), none]) aX5_fee rfl rfl rfl rfl ?_
  show WP kX5_fee _ _ _ _ _ _
  refine wp_iload_n eX5_fee_0 rfl ?_
  refine wp_stat (rv := (some (.int (cTkt x)))) (h' := h) (r := []) eX5_fee_1 [.int x] rfl rfl rfl rfl (rX5_isTicket _ _) ?_
  refine wp_ifT eX5_fee_4 (show ¬ (cTkt x) = 0 from (by rw [ht]; decide)) ?_
  refine wp_aload_n eX5_fee_10 rfl ?_
  refine wp_iload_n eX5_fee_11 rfl ?_
  refine wp_bipush (v := 100) eX5_fee_12 rfl ?_
  refine wp_idiv eX5_fee_14 (by decide) ?_
  refine wp_virt (rv := (some (va_rf none))) (h' := h) (r := []) eX5_fee_15 [.int (x / 100)] rfl rfl rfl (show Ob h 1 5 from hC.ob) (bX5_thingAtN _ hR hW _ hx) ?_
  refine wp_astore_nO (ls' := [some (.ref 1), some (.int x), some (va_rf none)]) eX5_fee_18 rfl rfl ?_
  refine wp_aload_nO eX5_fee_19 rfl ?_
  refine wp_ifnonnullF eX5_fee_20 ?_
  refine wp_bipush (v := (-3)) eX5_fee_23 rfl ?_
  exact wp_iret eX5_fee_25 ⟨congrArg (fun z => some (Value.int z)) (rfl), rfl⟩

set_option maxRecDepth 4000 in
theorem lX5_isContested (d : Nat) {h : Hp} {S : St} (hR : CR S h) (hW : MW S) (c t : Nat) (hc : c < cC S) (ht : t < cT S) (hTA : ∀ c, c < cC S → TI S c) : ∀ (n k : Nat) (x4 : Option Value), k + n = cC S → (cCon S c t k = false) → WP kX5_isContested (Res (d + 3)) (fun r1 h1 => r1 = some (.int (if cCon S c t (cC S) = true then 1 else 0)) ∧ h1 = h) 2 [some (.ref 1), some (.ref (clA h c)), some (.ref (thA h t)), some (.int (nI k)), x4] [] h := by
  intro n
  induction n with
  | zero =>
    intro k x4 hn ha
    have hC := hR.1
    have h5 := hW.1.2
    have h11 := hW.2.1.2
    have h12 := hW.2.2.1.2
    have h29 := hW.2.2.2.2
    refine wp_iload_n eX5_isContested_2 rfl ?_
    refine wp_aload_n eX5_isContested_3 rfl ?_
    refine wp_getI (v := S 10 29) eX5_isContested_4 (show Ob h 1 5 from hC.ob) rfl hR.c5 ?_
    refine wp_icmpT eX5_isContested_7 (show (S 10 29) ≤ (nI k) from (lp_ge hW.2.2.2.1 (by omega) (by omega))) ?_
    refine wp_iconst (v := 0) eX5_isContested_73 rfl ?_
    exact wp_zret eX5_isContested_74 (by first | exact Or.inl rfl | exact Or.inr rfl | assumption) ⟨congrArg (fun z => some (Value.int z)) (by rw [show cC S = k by omega, ha]; rfl), rfl⟩
  | succ n ih =>
    intro k x4 hn ha
    have hC := hR.1
    have h5 := hW.1.2
    have h11 := hW.2.1.2
    have h12 := hW.2.2.1.2
    have h29 := hW.2.2.2.2
    refine wp_iload_n eX5_isContested_2 rfl ?_
    refine wp_aload_n eX5_isContested_3 rfl ?_
    refine wp_getI (v := S 10 29) eX5_isContested_4 (show Ob h 1 5 from hC.ob) rfl hR.c5 ?_
    refine wp_icmpF eX5_isContested_7 (show ¬ ((S 10 29) ≤ (nI k)) from (lp_lt hW.2.2.2.1 (by omega) (by omega))) ?_
    refine wp_aload_n eX5_isContested_10 rfl ?_
    refine wp_getR (v := 4) eX5_isContested_11 (show Ob h 1 5 from hC.ob) rfl hC.r4 ?_
    refine wp_iload_n eX5_isContested_14 rfl ?_
    refine wp_aal (v := clA h k) (t := k) eX5_isContested_15 (show Ar h 4 11 40 from hC.a4) rfl rfl (by omega) rfl (hR.cl_r k (by omega)) ?_
    refine wp_astore (ls' := [some (.ref 1), some (.ref (clA h c)), some (.ref (thA h t)), some (.int (nI k)), some (.ref (clA h k))]) eX5_isContested_16 rfl rfl ?_
    refine wp_aload eX5_isContested_18 rfl ?_
    refine wp_ifnullF eX5_isContested_20 ?_
    refine wp_aload eX5_isContested_23 rfl ?_
    refine wp_aload_n eX5_isContested_25 rfl ?_
    refine wp_acmpR eX5_isContested_26 (fun (c_26 : (clA h k) = (clA h c)) => ?_) (fun (c_26 : ¬ ((clA h k) = (clA h c))) => ?_)
    · refine wp_iinc (v := nI (k + 1)) (ls' := [some (.ref 1), some (.ref (clA h c)), some (.ref (thA h t)), some (.int (nI (k + 1))), some (.ref (clA h k))]) eX5_isContested_67 rfl (nI_1 k) rfl ?_
      refine wp_goto eX5_isContested_70 ?_
      exact ih (k + 1) _ (by omega) (by simp only [cCon, ha, Bool.false_or, decide_eq_false_iff_not]; intro z; first | exact z.1 (hR.2.2.2.2.2.2.2.2.1 k c (by omega) hc c_26) | exact c_34 z.2.1 | exact absurd z.2.2.1 (Int32.not_le.mpr c_43) | exact z.2.2.2.1 c_52 | exact c_62 z.2.2.2.2)
    · refine wp_aload eX5_isContested_29 rfl ?_
      refine wp_getI (v := S 34 k) eX5_isContested_31 (show Ob h (clA h k) 1 from hR.cl_ob k (by omega)) rfl (hR.cl1 k (by omega)) ?_
      refine wp_if eX5_isContested_34 (fun (c_34 : ¬ (S 34 k) = 0) => ?_) (fun (c_34 : ¬ (¬ (S 34 k) = 0)) => ?_)
      · refine wp_iinc (v := nI (k + 1)) (ls' := [some (.ref 1), some (.ref (clA h c)), some (.ref (thA h t)), some (.int (nI (k + 1))), some (.ref (clA h k))]) eX5_isContested_67 rfl (nI_1 k) rfl ?_
        refine wp_goto eX5_isContested_70 ?_
        exact ih (k + 1) _ (by omega) (by simp only [cCon, ha, Bool.false_or, decide_eq_false_iff_not]; intro z; first | exact z.1 (hR.2.2.2.2.2.2.2.2.1 k c (by omega) hc c_26) | exact c_34 z.2.1 | exact absurd z.2.2.1 (Int32.not_le.mpr c_43) | exact z.2.2.2.1 c_52 | exact c_62 z.2.2.2.2)
      · have hT := hTA k (by omega)
        refine wp_aload eX5_isContested_37 rfl ?_
        refine wp_virt (rv := (some (.int (sTold S k 4)))) (h' := h) (r := []) eX5_isContested_39 [] rfl rfl rfl (show Ob h (clA h k) 1 from hR.cl_ob k (by omega)) (bX1_toldCount _ hR hW _ (by omega) hT) ?_
        refine wp_iconst (v := 3) eX5_isContested_42 rfl ?_
        refine wp_icmp eX5_isContested_43 (fun (c_43 : (sTold S k 4) < 3) => ?_) (fun (c_43 : ¬ ((sTold S k 4) < 3)) => ?_)
        · refine wp_iinc (v := nI (k + 1)) (ls' := [some (.ref 1), some (.ref (clA h c)), some (.ref (thA h t)), some (.int (nI (k + 1))), some (.ref (clA h k))]) eX5_isContested_67 rfl (nI_1 k) rfl ?_
          refine wp_goto eX5_isContested_70 ?_
          exact ih (k + 1) _ (by omega) (by simp only [cCon, ha, Bool.false_or, decide_eq_false_iff_not]; intro z; first | exact z.1 (hR.2.2.2.2.2.2.2.2.1 k c (by omega) hc c_26) | exact c_34 z.2.1 | exact absurd z.2.2.1 (Int32.not_le.mpr c_43) | exact z.2.2.2.1 c_52 | exact c_62 z.2.2.2.2)
        · refine wp_aload eX5_isContested_46 rfl ?_
          refine wp_aload_n eX5_isContested_48 rfl ?_
          refine wp_virt (rv := (some (.int (sIsM S k t)))) (h' := h) (r := []) eX5_isContested_49 [.ref (thA h t)] rfl rfl rfl (show Ob h (clA h k) 1 from hR.cl_ob k (by omega)) (bX1_isAbout _ hR hW _ _ (by omega) (by omega) hT) ?_
          refine wp_if eX5_isContested_52 (fun (c_52 : (sIsM S k t) = 0) => ?_) (fun (c_52 : ¬ ((sIsM S k t) = 0)) => ?_)
          · refine wp_iinc (v := nI (k + 1)) (ls' := [some (.ref 1), some (.ref (clA h c)), some (.ref (thA h t)), some (.int (nI (k + 1))), some (.ref (clA h k))]) eX5_isContested_67 rfl (nI_1 k) rfl ?_
            refine wp_goto eX5_isContested_70 ?_
            exact ih (k + 1) _ (by omega) (by simp only [cCon, ha, Bool.false_or, decide_eq_false_iff_not]; intro z; first | exact z.1 (hR.2.2.2.2.2.2.2.2.1 k c (by omega) hc c_26) | exact c_34 z.2.1 | exact absurd z.2.2.1 (Int32.not_le.mpr c_43) | exact z.2.2.2.1 c_52 | exact c_62 z.2.2.2.2)
          · refine wp_aload_n eX5_isContested_55 rfl ?_
            refine wp_aload eX5_isContested_56 rfl ?_
            refine wp_virt (rv := (some (.int (sMeans S k (cT S))))) (h' := h) (r := []) eX5_isContested_58 [.ref (clA h k)] rfl rfl rfl (show Ob h 1 5 from hC.ob) (bX5_meantBy _ hR hW _ (by omega) hT) ?_
            refine wp_iconst (v := 1) eX5_isContested_61 rfl ?_
            refine wp_icmp eX5_isContested_62 (fun (c_62 : ¬ (sMeans S k (cT S)) = 1) => ?_) (fun (c_62 : ¬ (¬ (sMeans S k (cT S)) = 1)) => ?_)
            · refine wp_iinc (v := nI (k + 1)) (ls' := [some (.ref 1), some (.ref (clA h c)), some (.ref (thA h t)), some (.int (nI (k + 1))), some (.ref (clA h k))]) eX5_isContested_67 rfl (nI_1 k) rfl ?_
              refine wp_goto eX5_isContested_70 ?_
              exact ih (k + 1) _ (by omega) (by simp only [cCon, ha, Bool.false_or, decide_eq_false_iff_not]; intro z; first | exact z.1 (hR.2.2.2.2.2.2.2.2.1 k c (by omega) hc c_26) | exact c_34 z.2.1 | exact absurd z.2.2.1 (Int32.not_le.mpr c_43) | exact z.2.2.2.1 c_52 | exact c_62 z.2.2.2.2)
            · refine wp_iconst (v := 1) eX5_isContested_65 rfl ?_
              exact wp_zret eX5_isContested_66 (by first | exact Or.inl rfl | exact Or.inr rfl | assumption) ⟨congrArg (fun z => some (Value.int z)) (by rw [if_pos (cCon_up (k := k + 1) (by omega) (by simp only [cCon, Bool.or_eq_true, decide_eq_true_eq]; exact Or.inr ⟨fun z => c_26 (by rw [z]), Decidable.not_not.mp c_34, Int32.not_lt.mp c_43, c_52, Decidable.not_not.mp c_62⟩))]), rfl⟩

set_option maxRecDepth 4000 in
theorem bX5_isContested (d : Nat) {h : Hp} {S : St} (hR : CR S h) (hW : MW S) (c t : Nat) (hc : c < cC S) (ht : t < cT S) (hTA : ∀ c, c < cC S → TI S c) : Res (d + 4) nX5_isContested [.ref 1, .ref (clA h c), .ref (thA h t)] h (some (.int (if cCon S c t (cC S) = true then 1 else 0))) h := by
  have hC := hR.1
  have h5 := hW.1.2
  have h11 := hW.2.1.2
  have h12 := hW.2.2.1.2
  have h29 := hW.2.2.2.2
  refine Res_intro (ls := [some (.ref 1), some (.ref (clA h c)), some (.ref (thA h t)), none, none]) aX5_isContested rfl rfl rfl rfl ?_
  show WP kX5_isContested _ _ _ _ _ _
  refine wp_iconst (v := 0) eX5_isContested_0 rfl ?_
  refine wp_istore_n (ls' := [some (.ref 1), some (.ref (clA h c)), some (.ref (thA h t)), some (.int 0), none]) eX5_isContested_1 rfl rfl ?_
  exact lX5_isContested d hR hW c t hc ht hTA (cC S) 0 _ (by omega) rfl
