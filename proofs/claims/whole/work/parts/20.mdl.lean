/-! THE REFERENCE: what it shows; the clock -/
def sThing (S : St) (t : Nat) (w : Int32) : Int32 := if w = 0 then S 21 t else if w = 1 then S 22 t else if w = 2 then (if S 30 t = 0 then 0 else 1) else if w = 3 then (if S 31 t = 0 then 0 else 1) else if w = 4 then S 23 t else if w = 5 then S 24 t else if w = 6 then S 25 t else if w = 7 then S 26 t
  else if w = 8 then (if S 26 t = 0 then S 27 t else -1) else if w = 9 then sWant S t else if w = 10 then (if S 26 t = 0 then sMis S t (onN S t) else -1) else if w = 11 then S 28 t else if w = 12 then S 29 t else -1
def sLoad (S : St) (s : Nat) : Nat → Int32
  | 0 => 0
  | n + 1 => sLoad S s n + (if S 26 n = 0 ∧ S 27 n = nI s then 1 else 0)
def sShOf (S : St) (s : Nat) (w : Int32) : Int32 := if w = 0 then S 16 s else if w = 1 then S 17 s else if w = 2 then (if S 19 s = 0 then 0 else 1) else if w = 3 then S 18 s else if w = 4 then sFree S s (cT S) else if w = 5 then sLoad S s (cT S) else if w = 6 then (if S 20 s = 0 then 0 else 1) else -1
def sClOf (S : St) (c : Nat) (w : Int32) : Int32 := if w = 0 then sTold S c 4 else if w = 1 then (if S 34 c = 0 then 0 else 1) else if w = 2 then S 33 c else if sIn w 10 13 = 0 then -1 else S 32 (4 * c + (w.toNatClampNeg - 10))
def sIns (S : St) : Nat → Int32
  | 0 => 0
  | n + 1 => sIns S n + (if S 26 n = 0 then 1 else 0)
def sKept (S : St) : Nat → Int32
  | 0 => 0
  | n + 1 => sKept S n + S 28 n
def sCount (S : St) (w : Int32) : Int32 := if w = 0 then S 10 11 else if w = 1 then S 10 12 else if w = 2 then sIns S (cT S) else if w = 3 then S 10 29 else if w = 4 then S 10 5 else if w = 5 then S 10 0 else if w = 6 then S 10 0 / 1440 else if w = 7 then sOpen S else if w = 8 then S 10 3 else if w = 9 then sKept S (cT S) else if w = 10 then S 10 4 else -1

set_option maxRecDepth 4000 in
theorem rX6_thing_in (d : Nat) {h : Hp} (hM : MOK h) (S : St) (hW : MW S) (t : Nat) (w : Int32) (ht : t < cT S) (hO : S 26 t = 0 → OW S t) : Res (d + 3) nX6_thing [.ref 10, .int (nI t), .int w] (am_wi h S) (some (.int (sThing S t w))) (am_wi h S) := by
  have h5 := hW.1.2
  have h11 := hW.2.1.2
  have h12 := hW.2.2.1.2
  have h29 := hW.2.2.2.2
  refine Res_intro (ls := [some (.ref 10), some (.int (nI t)), some (.int w)]) aX6_thing rfl rfl rfl rfl ?_
  show WP kX6_thing _ _ _ _ _ _
  refine wp_iload_n eX6_thing_0 rfl ?_
  refine wp_iconst (v := 0) eX6_thing_1 rfl ?_
  refine wp_aload_n eX6_thing_2 rfl ?_
  refine wp_getI (v := S 10 12) eX6_thing_3 (show Ob (am_wi h S) 10 6 from hM.ob) rfl rfl ?_
  refine wp_iconst (v := 1) eX6_thing_6 rfl ?_
  refine wp_isub eX6_thing_7 ?_
  refine wp_stat (rv := (some (.int (sIn (nI t) 0 ((S 10 12) - 1))))) (h' := am_wi h S) (r := []) eX6_thing_8 [.int (nI t), .int 0, .int ((S 10 12) - 1)] rfl rfl rfl rfl (rX6_in _ _ _ _ _) ?_
  refine wp_ifT eX6_thing_11 (show ¬ (sIn (nI t) 0 ((S 10 12) - 1)) = 0 from (by rw [sIn_in hW.2.2.1.1 ht (by omega)]; decide)) ?_
  refine wp_iload_n eX6_thing_16 rfl ?_
  by_cases c_17_0 : w = 0
  · refine wp_switch (t := 84) eX6_thing_17 (am_swI (off := 67) (by rw [c_17_0]; decide) (by rw [c_17_0]; decide) (by rw [c_17_0]; rfl) rfl) ?_
    refine wp_aload_n eX6_thing_84 rfl ?_
    refine wp_getR (v := 21) eX6_thing_85 (show Ob (am_wi h S) 10 6 from hM.ob) rfl hM.r18 ?_
    refine wp_iload_n eX6_thing_88 rfl ?_
    refine wp_ial (v := S 21 t) (t := t) eX6_thing_89 (show Ar (am_wi h S) 21 7 120 from hM.a21) (by omega) rfl rfl ?_
    exact wp_iret eX6_thing_90 ⟨congrArg (fun z => some (Value.int z)) (by unfold sThing; simp_all), rfl⟩
  by_cases c_17_1 : w = 1
  · refine wp_switch (t := 91) eX6_thing_17 (am_swI (off := 74) (by rw [c_17_1]; decide) (by rw [c_17_1]; decide) (by rw [c_17_1]; rfl) rfl) ?_
    refine wp_aload_n eX6_thing_91 rfl ?_
    refine wp_getR (v := 22) eX6_thing_92 (show Ob (am_wi h S) 10 6 from hM.ob) rfl hM.r19 ?_
    refine wp_iload_n eX6_thing_95 rfl ?_
    refine wp_ial (v := S 22 t) (t := t) eX6_thing_96 (show Ar (am_wi h S) 22 7 120 from hM.a22) (by omega) rfl rfl ?_
    exact wp_iret eX6_thing_97 ⟨congrArg (fun z => some (Value.int z)) (by unfold sThing; simp_all), rfl⟩
  by_cases c_17_2 : w = 2
  · refine wp_switch (t := 98) eX6_thing_17 (am_swI (off := 81) (by rw [c_17_2]; decide) (by rw [c_17_2]; decide) (by rw [c_17_2]; rfl) rfl) ?_
    refine wp_aload_n eX6_thing_98 rfl ?_
    refine wp_getR (v := 30) eX6_thing_99 (show Ob (am_wi h S) 10 6 from hM.ob) rfl hM.r27 ?_
    refine wp_iload_n eX6_thing_102 rfl ?_
    refine wp_zal (v := S 30 t) (t := t) eX6_thing_103 (show Ar (am_wi h S) 30 8 120 from hM.a30) (by omega) rfl rfl ?_
    refine wp_if eX6_thing_104 (fun (c_104 : (S 30 t) = 0) => ?_) (fun (c_104 : ¬ ((S 30 t) = 0)) => ?_)
    · refine wp_iconst (v := 0) eX6_thing_111 rfl ?_
      exact wp_iret eX6_thing_112 ⟨congrArg (fun z => some (Value.int z)) (by unfold sThing; simp_all), rfl⟩
    · refine wp_iconst (v := 1) eX6_thing_107 rfl ?_
      refine wp_goto eX6_thing_108 ?_
      exact wp_iret eX6_thing_112 ⟨congrArg (fun z => some (Value.int z)) (by unfold sThing; simp_all), rfl⟩
  by_cases c_17_3 : w = 3
  · refine wp_switch (t := 113) eX6_thing_17 (am_swI (off := 96) (by rw [c_17_3]; decide) (by rw [c_17_3]; decide) (by rw [c_17_3]; rfl) rfl) ?_
    refine wp_aload_n eX6_thing_113 rfl ?_
    refine wp_getR (v := 31) eX6_thing_114 (show Ob (am_wi h S) 10 6 from hM.ob) rfl hM.r28 ?_
    refine wp_iload_n eX6_thing_117 rfl ?_
    refine wp_zal (v := S 31 t) (t := t) eX6_thing_118 (show Ar (am_wi h S) 31 8 120 from hM.a31) (by omega) rfl rfl ?_
    refine wp_if eX6_thing_119 (fun (c_119 : (S 31 t) = 0) => ?_) (fun (c_119 : ¬ ((S 31 t) = 0)) => ?_)
    · refine wp_iconst (v := 0) eX6_thing_126 rfl ?_
      exact wp_iret eX6_thing_127 ⟨congrArg (fun z => some (Value.int z)) (by unfold sThing; simp_all), rfl⟩
    · refine wp_iconst (v := 1) eX6_thing_122 rfl ?_
      refine wp_goto eX6_thing_123 ?_
      exact wp_iret eX6_thing_127 ⟨congrArg (fun z => some (Value.int z)) (by unfold sThing; simp_all), rfl⟩
  by_cases c_17_4 : w = 4
  · refine wp_switch (t := 128) eX6_thing_17 (am_swI (off := 111) (by rw [c_17_4]; decide) (by rw [c_17_4]; decide) (by rw [c_17_4]; rfl) rfl) ?_
    refine wp_aload_n eX6_thing_128 rfl ?_
    refine wp_getR (v := 23) eX6_thing_129 (show Ob (am_wi h S) 10 6 from hM.ob) rfl hM.r20 ?_
    refine wp_iload_n eX6_thing_132 rfl ?_
    refine wp_ial (v := S 23 t) (t := t) eX6_thing_133 (show Ar (am_wi h S) 23 7 120 from hM.a23) (by omega) rfl rfl ?_
    exact wp_iret eX6_thing_134 ⟨congrArg (fun z => some (Value.int z)) (by unfold sThing; simp_all), rfl⟩
  by_cases c_17_5 : w = 5
  · refine wp_switch (t := 135) eX6_thing_17 (am_swI (off := 118) (by rw [c_17_5]; decide) (by rw [c_17_5]; decide) (by rw [c_17_5]; rfl) rfl) ?_
    refine wp_aload_n eX6_thing_135 rfl ?_
    refine wp_getR (v := 24) eX6_thing_136 (show Ob (am_wi h S) 10 6 from hM.ob) rfl hM.r21 ?_
    refine wp_iload_n eX6_thing_139 rfl ?_
    refine wp_ial (v := S 24 t) (t := t) eX6_thing_140 (show Ar (am_wi h S) 24 7 120 from hM.a24) (by omega) rfl rfl ?_
    exact wp_iret eX6_thing_141 ⟨congrArg (fun z => some (Value.int z)) (by unfold sThing; simp_all), rfl⟩
  by_cases c_17_6 : w = 6
  · refine wp_switch (t := 142) eX6_thing_17 (am_swI (off := 125) (by rw [c_17_6]; decide) (by rw [c_17_6]; decide) (by rw [c_17_6]; rfl) rfl) ?_
    refine wp_aload_n eX6_thing_142 rfl ?_
    refine wp_getR (v := 25) eX6_thing_143 (show Ob (am_wi h S) 10 6 from hM.ob) rfl hM.r22 ?_
    refine wp_iload_n eX6_thing_146 rfl ?_
    refine wp_ial (v := S 25 t) (t := t) eX6_thing_147 (show Ar (am_wi h S) 25 7 120 from hM.a25) (by omega) rfl rfl ?_
    exact wp_iret eX6_thing_148 ⟨congrArg (fun z => some (Value.int z)) (by unfold sThing; simp_all), rfl⟩
  by_cases c_17_7 : w = 7
  · refine wp_switch (t := 149) eX6_thing_17 (am_swI (off := 132) (by rw [c_17_7]; decide) (by rw [c_17_7]; decide) (by rw [c_17_7]; rfl) rfl) ?_
    refine wp_aload_n eX6_thing_149 rfl ?_
    refine wp_getR (v := 26) eX6_thing_150 (show Ob (am_wi h S) 10 6 from hM.ob) rfl hM.r23 ?_
    refine wp_iload_n eX6_thing_153 rfl ?_
    refine wp_ial (v := S 26 t) (t := t) eX6_thing_154 (show Ar (am_wi h S) 26 7 120 from hM.a26) (by omega) rfl rfl ?_
    exact wp_iret eX6_thing_155 ⟨congrArg (fun z => some (Value.int z)) (by unfold sThing; simp_all), rfl⟩
  by_cases c_17_8 : w = 8
  · refine wp_switch (t := 156) eX6_thing_17 (am_swI (off := 139) (by rw [c_17_8]; decide) (by rw [c_17_8]; decide) (by rw [c_17_8]; rfl) rfl) ?_
    refine wp_aload_n eX6_thing_156 rfl ?_
    refine wp_getR (v := 26) eX6_thing_157 (show Ob (am_wi h S) 10 6 from hM.ob) rfl hM.r23 ?_
    refine wp_iload_n eX6_thing_160 rfl ?_
    refine wp_ial (v := S 26 t) (t := t) eX6_thing_161 (show Ar (am_wi h S) 26 7 120 from hM.a26) (by omega) rfl rfl ?_
    refine wp_if eX6_thing_162 (fun (c_162 : ¬ (S 26 t) = 0) => ?_) (fun (c_162 : ¬ (¬ (S 26 t) = 0)) => ?_)
    · refine wp_iconst (v := (-1)) eX6_thing_174 rfl ?_
      exact wp_iret eX6_thing_175 ⟨congrArg (fun z => some (Value.int z)) (by unfold sThing; simp_all), rfl⟩
    · refine wp_aload_n eX6_thing_165 rfl ?_
      refine wp_getR (v := 27) eX6_thing_166 (show Ob (am_wi h S) 10 6 from hM.ob) rfl hM.r24 ?_
      refine wp_iload_n eX6_thing_169 rfl ?_
      refine wp_ial (v := S 27 t) (t := t) eX6_thing_170 (show Ar (am_wi h S) 27 7 120 from hM.a27) (by omega) rfl rfl ?_
      refine wp_goto eX6_thing_171 ?_
      exact wp_iret eX6_thing_175 ⟨congrArg (fun z => some (Value.int z)) (by unfold sThing; simp_all), rfl⟩
  by_cases c_17_9 : w = 9
  · refine wp_switch (t := 176) eX6_thing_17 (am_swI (off := 159) (by rw [c_17_9]; decide) (by rw [c_17_9]; decide) (by rw [c_17_9]; rfl) rfl) ?_
    refine wp_aload_n eX6_thing_176 rfl ?_
    refine wp_iload_n eX6_thing_177 rfl ?_
    refine wp_virt (rv := (some (.int (sWant S t)))) (h' := am_wi h S) (r := []) eX6_thing_178 [.int (nI t)] rfl rfl rfl (show Ob (am_wi h S) 10 6 from hM.ob) (rX6_wanted _ hM _ _ (by omega)) ?_
    exact wp_iret eX6_thing_181 ⟨congrArg (fun z => some (Value.int z)) (by unfold sThing; simp_all), rfl⟩
  by_cases c_17_10 : w = 10
  · refine wp_switch (t := 182) eX6_thing_17 (am_swI (off := 165) (by rw [c_17_10]; decide) (by rw [c_17_10]; decide) (by rw [c_17_10]; rfl) rfl) ?_
    refine wp_aload_n eX6_thing_182 rfl ?_
    refine wp_getR (v := 26) eX6_thing_183 (show Ob (am_wi h S) 10 6 from hM.ob) rfl hM.r23 ?_
    refine wp_iload_n eX6_thing_186 rfl ?_
    refine wp_ial (v := S 26 t) (t := t) eX6_thing_187 (show Ar (am_wi h S) 26 7 120 from hM.a26) (by omega) rfl rfl ?_
    refine wp_if eX6_thing_188 (fun (c_188 : ¬ (S 26 t) = 0) => ?_) (fun (c_188 : ¬ (¬ (S 26 t) = 0)) => ?_)
    · refine wp_iconst (v := (-1)) eX6_thing_205 rfl ?_
      exact wp_iret eX6_thing_206 ⟨congrArg (fun z => some (Value.int z)) (by unfold sThing; simp_all), rfl⟩
    · have hO := hO (Decidable.not_not.mp c_188)
      have hO2 := hO.2
      refine wp_aload_n eX6_thing_191 rfl ?_
      refine wp_iload_n eX6_thing_192 rfl ?_
      refine wp_aload_n eX6_thing_193 rfl ?_
      refine wp_getR (v := 27) eX6_thing_194 (show Ob (am_wi h S) 10 6 from hM.ob) rfl hM.r24 ?_
      refine wp_iload_n eX6_thing_197 rfl ?_
      refine wp_ial (v := nI (onN S t)) (t := t) eX6_thing_198 (show Ar (am_wi h S) 27 7 120 from hM.a27) (by omega) rfl hO.1 ?_
      refine wp_virt (rv := (some (.int (sMis S t (onN S t))))) (h' := am_wi h S) (r := []) eX6_thing_199 [.int (nI t), .int (nI (onN S t))] rfl rfl rfl (show Ob (am_wi h S) 10 6 from hM.ob) (rX6_misfitOn _ hM _ _ _ (by omega) (by omega)) ?_
      refine wp_goto eX6_thing_202 ?_
      exact wp_iret eX6_thing_206 ⟨congrArg (fun z => some (Value.int z)) (by unfold sThing; simp_all), rfl⟩
  by_cases c_17_11 : w = 11
  · refine wp_switch (t := 207) eX6_thing_17 (am_swI (off := 190) (by rw [c_17_11]; decide) (by rw [c_17_11]; decide) (by rw [c_17_11]; rfl) rfl) ?_
    refine wp_aload_n eX6_thing_207 rfl ?_
    refine wp_getR (v := 28) eX6_thing_208 (show Ob (am_wi h S) 10 6 from hM.ob) rfl hM.r25 ?_
    refine wp_iload_n eX6_thing_211 rfl ?_
    refine wp_ial (v := S 28 t) (t := t) eX6_thing_212 (show Ar (am_wi h S) 28 7 120 from hM.a28) (by omega) rfl rfl ?_
    exact wp_iret eX6_thing_213 ⟨congrArg (fun z => some (Value.int z)) (by unfold sThing; simp_all), rfl⟩
  by_cases c_17_12 : w = 12
  · refine wp_switch (t := 214) eX6_thing_17 (am_swI (off := 197) (by rw [c_17_12]; decide) (by rw [c_17_12]; decide) (by rw [c_17_12]; rfl) rfl) ?_
    refine wp_aload_n eX6_thing_214 rfl ?_
    refine wp_getR (v := 29) eX6_thing_215 (show Ob (am_wi h S) 10 6 from hM.ob) rfl hM.r26 ?_
    refine wp_iload_n eX6_thing_218 rfl ?_
    refine wp_ial (v := S 29 t) (t := t) eX6_thing_219 (show Ar (am_wi h S) 29 7 120 from hM.a29) (by omega) rfl rfl ?_
    exact wp_iret eX6_thing_220 ⟨congrArg (fun z => some (Value.int z)) (by unfold sThing; simp_all), rfl⟩
  refine wp_switch (t := 221) eX6_thing_17 (am_swO (am_out12 c_17_0 c_17_1 c_17_2 c_17_3 c_17_4 c_17_5 c_17_6 c_17_7 c_17_8 c_17_9 c_17_10 c_17_11 c_17_12) rfl) ?_
  refine wp_iconst (v := (-1)) eX6_thing_221 rfl ?_
  exact wp_iret eX6_thing_222 ⟨congrArg (fun z => some (Value.int z)) (by unfold sThing; simp_all), rfl⟩

set_option maxRecDepth 4000 in
theorem rX6_thing_out (d : Nat) {h : Hp} (hM : MOK h) (S : St) (hW : MW S) (x w : Int32) (hx : ∀ c, c < cT S → ¬ x = nI c) : Res (d + 3) nX6_thing [.ref 10, .int x, .int w] (am_wi h S) (some (.int (-1))) (am_wi h S) := by
  have h5 := hW.1.2
  have h11 := hW.2.1.2
  have h12 := hW.2.2.1.2
  have h29 := hW.2.2.2.2
  refine Res_intro (ls := [some (.ref 10), some (.int x), some (.int w)]) aX6_thing rfl rfl rfl rfl ?_
  show WP kX6_thing _ _ _ _ _ _
  refine wp_iload_n eX6_thing_0 rfl ?_
  refine wp_iconst (v := 0) eX6_thing_1 rfl ?_
  refine wp_aload_n eX6_thing_2 rfl ?_
  refine wp_getI (v := S 10 12) eX6_thing_3 (show Ob (am_wi h S) 10 6 from hM.ob) rfl rfl ?_
  refine wp_iconst (v := 1) eX6_thing_6 rfl ?_
  refine wp_isub eX6_thing_7 ?_
  refine wp_stat (rv := (some (.int (sIn x 0 ((S 10 12) - 1))))) (h' := am_wi h S) (r := []) eX6_thing_8 [.int x, .int 0, .int ((S 10 12) - 1)] rfl rfl rfl rfl (rX6_in _ _ _ _ _) ?_
  refine wp_ifF eX6_thing_11 (show ¬ (¬ (sIn x 0 ((S 10 12) - 1)) = 0) from (by rw [(sIn_out hW.2.2.1.1 hx (by omega))]; decide)) ?_
  refine wp_iconst (v := (-1)) eX6_thing_14 rfl ?_
  exact wp_iret eX6_thing_15 ⟨congrArg (fun z => some (Value.int z)) (rfl), rfl⟩

set_option maxRecDepth 4000 in
theorem lX6_shelfOf {Cal : am_Ct} {h : Hp} (hM : MOK h) (S : St) (hW : MW S) (s : Nat) (hs : s < cS S) (w : Int32) (hw : w = 5) : ∀ (n t : Nat) (a : Int32), t + n = cT S → (a = sLoad S s t) → WP kX6_shelfOf Cal (fun r1 h1 => r1 = some (.int (sShOf S s w)) ∧ h1 = am_wi h S) 107 [some (.ref 10), some (.int (nI s)), some (.int w), some (.int a), some (.int (nI t))] [] (am_wi h S) := by
  intro n
  induction n with
  | zero =>
    intro t a hn ha
    have h5 := hW.1.2
    have h11 := hW.2.1.2
    have h12 := hW.2.2.1.2
    have h29 := hW.2.2.2.2
    refine wp_iload eX6_shelfOf_107 rfl ?_
    refine wp_aload_n eX6_shelfOf_109 rfl ?_
    refine wp_getI (v := S 10 12) eX6_shelfOf_110 (show Ob (am_wi h S) 10 6 from hM.ob) rfl rfl ?_
    refine wp_icmpT eX6_shelfOf_113 (show (S 10 12) ≤ (nI t) from (lp_ge hW.2.2.1.1 (by omega) (by omega))) ?_
    refine wp_iload_n eX6_shelfOf_151 rfl ?_
    exact wp_iret eX6_shelfOf_152 ⟨congrArg (fun z => some (Value.int z)) (by rw [ha, show t = cT S by omega, hw]; rfl), rfl⟩
  | succ n ih =>
    intro t a hn ha
    have h5 := hW.1.2
    have h11 := hW.2.1.2
    have h12 := hW.2.2.1.2
    have h29 := hW.2.2.2.2
    refine wp_iload eX6_shelfOf_107 rfl ?_
    refine wp_aload_n eX6_shelfOf_109 rfl ?_
    refine wp_getI (v := S 10 12) eX6_shelfOf_110 (show Ob (am_wi h S) 10 6 from hM.ob) rfl rfl ?_
    refine wp_icmpF eX6_shelfOf_113 (show ¬ ((S 10 12) ≤ (nI t)) from (lp_lt hW.2.2.1.1 (by omega) (by omega))) ?_
    refine wp_iload_n eX6_shelfOf_116 rfl ?_
    refine wp_aload_n eX6_shelfOf_117 rfl ?_
    refine wp_getR (v := 26) eX6_shelfOf_118 (show Ob (am_wi h S) 10 6 from hM.ob) rfl hM.r23 ?_
    refine wp_iload eX6_shelfOf_121 rfl ?_
    refine wp_ial (v := S 26 t) (t := t) eX6_shelfOf_123 (show Ar (am_wi h S) 26 7 120 from hM.a26) (by omega) rfl rfl ?_
    refine wp_if eX6_shelfOf_124 (fun (c_124 : ¬ (S 26 t) = 0) => ?_) (fun (c_124 : ¬ (¬ (S 26 t) = 0)) => ?_)
    · refine wp_iconst (v := 0) eX6_shelfOf_142 rfl ?_
      refine wp_iadd eX6_shelfOf_143 ?_
      refine wp_istore_n (ls' := [some (.ref 10), some (.int (nI s)), some (.int w), some (.int (a + 0)), some (.int (nI t))]) eX6_shelfOf_144 rfl rfl ?_
      refine wp_iinc (v := nI (t + 1)) (ls' := [some (.ref 10), some (.int (nI s)), some (.int w), some (.int (a + 0)), some (.int (nI (t + 1)))]) eX6_shelfOf_145 rfl (nI_1 t) rfl ?_
      refine wp_goto eX6_shelfOf_148 ?_
      exact ih (t + 1) _ (by omega) (by simp_all [sLoad])
    · refine wp_aload_n eX6_shelfOf_127 rfl ?_
      refine wp_getR (v := 27) eX6_shelfOf_128 (show Ob (am_wi h S) 10 6 from hM.ob) rfl hM.r24 ?_
      refine wp_iload eX6_shelfOf_131 rfl ?_
      refine wp_ial (v := S 27 t) (t := t) eX6_shelfOf_133 (show Ar (am_wi h S) 27 7 120 from hM.a27) (by omega) rfl rfl ?_
      refine wp_iload_n eX6_shelfOf_134 rfl ?_
      refine wp_icmp eX6_shelfOf_135 (fun (c_135 : ¬ (S 27 t) = (nI s)) => ?_) (fun (c_135 : ¬ (¬ (S 27 t) = (nI s))) => ?_)
      · refine wp_iconst (v := 0) eX6_shelfOf_142 rfl ?_
        refine wp_iadd eX6_shelfOf_143 ?_
        refine wp_istore_n (ls' := [some (.ref 10), some (.int (nI s)), some (.int w), some (.int (a + 0)), some (.int (nI t))]) eX6_shelfOf_144 rfl rfl ?_
        refine wp_iinc (v := nI (t + 1)) (ls' := [some (.ref 10), some (.int (nI s)), some (.int w), some (.int (a + 0)), some (.int (nI (t + 1)))]) eX6_shelfOf_145 rfl (nI_1 t) rfl ?_
        refine wp_goto eX6_shelfOf_148 ?_
        exact ih (t + 1) _ (by omega) (by simp_all [sLoad])
      · refine wp_iconst (v := 1) eX6_shelfOf_138 rfl ?_
        refine wp_goto eX6_shelfOf_139 ?_
        refine wp_iadd eX6_shelfOf_143 ?_
        refine wp_istore_n (ls' := [some (.ref 10), some (.int (nI s)), some (.int w), some (.int (a + 1)), some (.int (nI t))]) eX6_shelfOf_144 rfl rfl ?_
        refine wp_iinc (v := nI (t + 1)) (ls' := [some (.ref 10), some (.int (nI s)), some (.int w), some (.int (a + 1)), some (.int (nI (t + 1)))]) eX6_shelfOf_145 rfl (nI_1 t) rfl ?_
        refine wp_goto eX6_shelfOf_148 ?_
        exact ih (t + 1) _ (by omega) (by simp_all [sLoad])

set_option maxRecDepth 4000 in
theorem rX6_shelfOf_in (d : Nat) {h : Hp} (hM : MOK h) (S : St) (hW : MW S) (s : Nat) (w : Int32) (hs : s < cS S) : Res (d + 2) nX6_shelfOf [.ref 10, .int (nI s), .int w] (am_wi h S) (some (.int (sShOf S s w))) (am_wi h S) := by
  have h5 := hW.1.2
  have h11 := hW.2.1.2
  have h12 := hW.2.2.1.2
  have h29 := hW.2.2.2.2
  refine Res_intro (ls := [some (.ref 10), some (.int (nI s)), some (.int w), none, none]) aX6_shelfOf rfl rfl rfl rfl ?_
  show WP kX6_shelfOf _ _ _ _ _ _
  refine wp_iload_n eX6_shelfOf_0 rfl ?_
  refine wp_iconst (v := 0) eX6_shelfOf_1 rfl ?_
  refine wp_aload_n eX6_shelfOf_2 rfl ?_
  refine wp_getI (v := S 10 11) eX6_shelfOf_3 (show Ob (am_wi h S) 10 6 from hM.ob) rfl rfl ?_
  refine wp_iconst (v := 1) eX6_shelfOf_6 rfl ?_
  refine wp_isub eX6_shelfOf_7 ?_
  refine wp_stat (rv := (some (.int (sIn (nI s) 0 ((S 10 11) - 1))))) (h' := am_wi h S) (r := []) eX6_shelfOf_8 [.int (nI s), .int 0, .int ((S 10 11) - 1)] rfl rfl rfl rfl (rX6_in _ _ _ _ _) ?_
  refine wp_ifT eX6_shelfOf_11 (show ¬ (sIn (nI s) 0 ((S 10 11) - 1)) = 0 from (by rw [sIn_in hW.2.1.1 hs (by omega)]; decide)) ?_
  refine wp_iload_n eX6_shelfOf_16 rfl ?_
  by_cases c_17_0 : w = 0
  · refine wp_switch (t := 60) eX6_shelfOf_17 (am_swI (off := 43) (by rw [c_17_0]; decide) (by rw [c_17_0]; decide) (by rw [c_17_0]; rfl) rfl) ?_
    refine wp_aload_n eX6_shelfOf_60 rfl ?_
    refine wp_getR (v := 16) eX6_shelfOf_61 (show Ob (am_wi h S) 10 6 from hM.ob) rfl hM.r13 ?_
    refine wp_iload_n eX6_shelfOf_64 rfl ?_
    refine wp_ial (v := S 16 s) (t := s) eX6_shelfOf_65 (show Ar (am_wi h S) 16 7 16 from hM.a16) (by omega) rfl rfl ?_
    exact wp_iret eX6_shelfOf_66 ⟨congrArg (fun z => some (Value.int z)) (by unfold sShOf; simp_all), rfl⟩
  by_cases c_17_1 : w = 1
  · refine wp_switch (t := 67) eX6_shelfOf_17 (am_swI (off := 50) (by rw [c_17_1]; decide) (by rw [c_17_1]; decide) (by rw [c_17_1]; rfl) rfl) ?_
    refine wp_aload_n eX6_shelfOf_67 rfl ?_
    refine wp_getR (v := 17) eX6_shelfOf_68 (show Ob (am_wi h S) 10 6 from hM.ob) rfl hM.r14 ?_
    refine wp_iload_n eX6_shelfOf_71 rfl ?_
    refine wp_ial (v := S 17 s) (t := s) eX6_shelfOf_72 (show Ar (am_wi h S) 17 7 16 from hM.a17) (by omega) rfl rfl ?_
    exact wp_iret eX6_shelfOf_73 ⟨congrArg (fun z => some (Value.int z)) (by unfold sShOf; simp_all), rfl⟩
  by_cases c_17_2 : w = 2
  · refine wp_switch (t := 74) eX6_shelfOf_17 (am_swI (off := 57) (by rw [c_17_2]; decide) (by rw [c_17_2]; decide) (by rw [c_17_2]; rfl) rfl) ?_
    refine wp_aload_n eX6_shelfOf_74 rfl ?_
    refine wp_getR (v := 19) eX6_shelfOf_75 (show Ob (am_wi h S) 10 6 from hM.ob) rfl hM.r16 ?_
    refine wp_iload_n eX6_shelfOf_78 rfl ?_
    refine wp_zal (v := S 19 s) (t := s) eX6_shelfOf_79 (show Ar (am_wi h S) 19 8 16 from hM.a19) (by omega) rfl rfl ?_
    refine wp_if eX6_shelfOf_80 (fun (c_80 : (S 19 s) = 0) => ?_) (fun (c_80 : ¬ ((S 19 s) = 0)) => ?_)
    · refine wp_iconst (v := 0) eX6_shelfOf_87 rfl ?_
      exact wp_iret eX6_shelfOf_88 ⟨congrArg (fun z => some (Value.int z)) (by unfold sShOf; simp_all), rfl⟩
    · refine wp_iconst (v := 1) eX6_shelfOf_83 rfl ?_
      refine wp_goto eX6_shelfOf_84 ?_
      exact wp_iret eX6_shelfOf_88 ⟨congrArg (fun z => some (Value.int z)) (by unfold sShOf; simp_all), rfl⟩
  by_cases c_17_3 : w = 3
  · refine wp_switch (t := 89) eX6_shelfOf_17 (am_swI (off := 72) (by rw [c_17_3]; decide) (by rw [c_17_3]; decide) (by rw [c_17_3]; rfl) rfl) ?_
    refine wp_aload_n eX6_shelfOf_89 rfl ?_
    refine wp_getR (v := 18) eX6_shelfOf_90 (show Ob (am_wi h S) 10 6 from hM.ob) rfl hM.r15 ?_
    refine wp_iload_n eX6_shelfOf_93 rfl ?_
    refine wp_ial (v := S 18 s) (t := s) eX6_shelfOf_94 (show Ar (am_wi h S) 18 7 16 from hM.a18) (by omega) rfl rfl ?_
    exact wp_iret eX6_shelfOf_95 ⟨congrArg (fun z => some (Value.int z)) (by unfold sShOf; simp_all), rfl⟩
  by_cases c_17_4 : w = 4
  · refine wp_switch (t := 96) eX6_shelfOf_17 (am_swI (off := 79) (by rw [c_17_4]; decide) (by rw [c_17_4]; decide) (by rw [c_17_4]; rfl) rfl) ?_
    refine wp_aload_n eX6_shelfOf_96 rfl ?_
    refine wp_iload_n eX6_shelfOf_97 rfl ?_
    refine wp_virt (rv := (some (.int (sFree S s (cT S))))) (h' := am_wi h S) (r := []) eX6_shelfOf_98 [.int (nI s)] rfl rfl rfl (show Ob (am_wi h S) 10 6 from hM.ob) (rX6_free _ hM _ hW _ (by omega)) ?_
    exact wp_iret eX6_shelfOf_101 ⟨congrArg (fun z => some (Value.int z)) (by unfold sShOf; simp_all), rfl⟩
  by_cases c_17_5 : w = 5
  · refine wp_switch (t := 102) eX6_shelfOf_17 (am_swI (off := 85) (by rw [c_17_5]; decide) (by rw [c_17_5]; decide) (by rw [c_17_5]; rfl) rfl) ?_
    refine wp_iconst (v := 0) eX6_shelfOf_102 rfl ?_
    refine wp_istore_n (ls' := [some (.ref 10), some (.int (nI s)), some (.int w), some (.int 0), none]) eX6_shelfOf_103 rfl rfl ?_
    refine wp_iconst (v := 0) eX6_shelfOf_104 rfl ?_
    refine wp_istore (ls' := [some (.ref 10), some (.int (nI s)), some (.int w), some (.int 0), some (.int 0)]) eX6_shelfOf_105 rfl rfl ?_
    exact lX6_shelfOf hM S hW s hs w (by assumption) (cT S) 0 _ (by omega) rfl
  by_cases c_17_6 : w = 6
  · refine wp_switch (t := 153) eX6_shelfOf_17 (am_swI (off := 136) (by rw [c_17_6]; decide) (by rw [c_17_6]; decide) (by rw [c_17_6]; rfl) rfl) ?_
    refine wp_aload_n eX6_shelfOf_153 rfl ?_
    refine wp_getR (v := 20) eX6_shelfOf_154 (show Ob (am_wi h S) 10 6 from hM.ob) rfl hM.r17 ?_
    refine wp_iload_n eX6_shelfOf_157 rfl ?_
    refine wp_zal (v := S 20 s) (t := s) eX6_shelfOf_158 (show Ar (am_wi h S) 20 8 16 from hM.a20) (by omega) rfl rfl ?_
    refine wp_if eX6_shelfOf_159 (fun (c_159 : (S 20 s) = 0) => ?_) (fun (c_159 : ¬ ((S 20 s) = 0)) => ?_)
    · refine wp_iconst (v := 0) eX6_shelfOf_166 rfl ?_
      exact wp_iret eX6_shelfOf_167 ⟨congrArg (fun z => some (Value.int z)) (by unfold sShOf; simp_all), rfl⟩
    · refine wp_iconst (v := 1) eX6_shelfOf_162 rfl ?_
      refine wp_goto eX6_shelfOf_163 ?_
      exact wp_iret eX6_shelfOf_167 ⟨congrArg (fun z => some (Value.int z)) (by unfold sShOf; simp_all), rfl⟩
  refine wp_switch (t := 168) eX6_shelfOf_17 (am_swO (am_out6 c_17_0 c_17_1 c_17_2 c_17_3 c_17_4 c_17_5 c_17_6) rfl) ?_
  refine wp_iconst (v := (-1)) eX6_shelfOf_168 rfl ?_
  exact wp_iret eX6_shelfOf_169 ⟨congrArg (fun z => some (Value.int z)) (by unfold sShOf; simp_all), rfl⟩

set_option maxRecDepth 4000 in
theorem rX6_shelfOf_out (d : Nat) {h : Hp} (hM : MOK h) (S : St) (hW : MW S) (x w : Int32) (hx : ∀ c, c < cS S → ¬ x = nI c) : Res (d + 2) nX6_shelfOf [.ref 10, .int x, .int w] (am_wi h S) (some (.int (-1))) (am_wi h S) := by
  have h5 := hW.1.2
  have h11 := hW.2.1.2
  have h12 := hW.2.2.1.2
  have h29 := hW.2.2.2.2
  refine Res_intro (ls := [some (.ref 10), some (.int x), some (.int w), none, none]) aX6_shelfOf rfl rfl rfl rfl ?_
  show WP kX6_shelfOf _ _ _ _ _ _
  refine wp_iload_n eX6_shelfOf_0 rfl ?_
  refine wp_iconst (v := 0) eX6_shelfOf_1 rfl ?_
  refine wp_aload_n eX6_shelfOf_2 rfl ?_
  refine wp_getI (v := S 10 11) eX6_shelfOf_3 (show Ob (am_wi h S) 10 6 from hM.ob) rfl rfl ?_
  refine wp_iconst (v := 1) eX6_shelfOf_6 rfl ?_
  refine wp_isub eX6_shelfOf_7 ?_
  refine wp_stat (rv := (some (.int (sIn x 0 ((S 10 11) - 1))))) (h' := am_wi h S) (r := []) eX6_shelfOf_8 [.int x, .int 0, .int ((S 10 11) - 1)] rfl rfl rfl rfl (rX6_in _ _ _ _ _) ?_
  refine wp_ifF eX6_shelfOf_11 (show ¬ (¬ (sIn x 0 ((S 10 11) - 1)) = 0) from (by rw [(sIn_out hW.2.1.1 hx (by omega))]; decide)) ?_
  refine wp_iconst (v := (-1)) eX6_shelfOf_14 rfl ?_
  exact wp_iret eX6_shelfOf_15 ⟨congrArg (fun z => some (Value.int z)) (rfl), rfl⟩

theorem w1013 {w : Int32} (h : ¬ sIn w 10 13 = 0) : ∃ k, k < 4 ∧ w = nI (10 + k) := by
  have h1 : (10 : Int32) ≤ w ∧ w ≤ 13 := by
    unfold sIn at h
    split at h
    · assumption
    · exact absurd rfl h
  obtain ⟨j, hj, e⟩ := nI_of2 (x := w) (M := 13) (n := 13) (by decide) (Int32.not_lt.mpr (Int32.le_trans (by decide) h1.1)) h1.2
  have h2 : 10 ≤ j := by
    have h3 := h1.1
    rw [e, show (10 : Int32) = nI 10 from rfl, nI_leI (by decide) (by omega)] at h3
    exact h3
  exact ⟨j - 10, by omega, by rw [e]; congr 1; omega⟩
theorem nI_4w (c k : Nat) : 4 * nI c + nI (10 + k) - 10 = nI (4 * c + k) := by
  rw [nI_4k, show 4 * c + (10 + k) = (4 * c + k) + 10 by omega, ← nI_add, show (10 : Int32) = nI 10 from rfl]
  exact Int32.add_sub_cancel _ _

set_option maxRecDepth 4000 in
theorem rX6_claimOf_in (d : Nat) {h : Hp} (hM : MOK h) (S : St) (hW : MW S) (c : Nat) (w : Int32) (hc : c < cC S) : Res (d + 3) nX6_claimOf [.ref 10, .int (nI c), .int w] (am_wi h S) (some (.int (sClOf S c w))) (am_wi h S) := by
  have h5 := hW.1.2
  have h11 := hW.2.1.2
  have h12 := hW.2.2.1.2
  have h29 := hW.2.2.2.2
  refine Res_intro (ls := [some (.ref 10), some (.int (nI c)), some (.int w)]) aX6_claimOf rfl rfl rfl rfl ?_
  show WP kX6_claimOf _ _ _ _ _ _
  refine wp_aload_n eX6_claimOf_0 rfl ?_
  refine wp_iload_n eX6_claimOf_1 rfl ?_
  refine wp_virt (rv := (some (.int (sIn (nI c) 0 (S 10 29 - 1))))) (h' := am_wi h S) (r := []) eX6_claimOf_2 [.int (nI c)] rfl rfl rfl (show Ob (am_wi h S) 10 6 from hM.ob) (rX6_isClaim _ hM _ _) ?_
  refine wp_ifT eX6_claimOf_5 (show ¬ (sIn (nI c) 0 (S 10 29 - 1)) = 0 from (by rw [sIn_in hW.2.2.2.1 hc (by omega)]; decide)) ?_
  refine wp_iload_n eX6_claimOf_10 rfl ?_
  by_cases c_11_0 : w = 0
  · refine wp_switch (t := 36) eX6_claimOf_11 (am_swI (off := 25) (by rw [c_11_0]; decide) (by rw [c_11_0]; decide) (by rw [c_11_0]; rfl) rfl) ?_
    refine wp_aload_n eX6_claimOf_36 rfl ?_
    refine wp_iload_n eX6_claimOf_37 rfl ?_
    refine wp_virt (rv := (some (.int (sTold S c 4)))) (h' := am_wi h S) (r := []) eX6_claimOf_38 [.int (nI c)] rfl rfl rfl (show Ob (am_wi h S) 10 6 from hM.ob) (rX6_manyTold _ hM _ _ (by omega)) ?_
    exact wp_iret eX6_claimOf_41 ⟨congrArg (fun z => some (Value.int z)) (by unfold sClOf; simp_all), rfl⟩
  by_cases c_11_1 : w = 1
  · refine wp_switch (t := 42) eX6_claimOf_11 (am_swI (off := 31) (by rw [c_11_1]; decide) (by rw [c_11_1]; decide) (by rw [c_11_1]; rfl) rfl) ?_
    refine wp_aload_n eX6_claimOf_42 rfl ?_
    refine wp_getR (v := 34) eX6_claimOf_43 (show Ob (am_wi h S) 10 6 from hM.ob) rfl hM.r32 ?_
    refine wp_iload_n eX6_claimOf_46 rfl ?_
    refine wp_zal (v := S 34 c) (t := c) eX6_claimOf_47 (show Ar (am_wi h S) 34 8 40 from hM.a34) (by omega) rfl rfl ?_
    refine wp_if eX6_claimOf_48 (fun (c_48 : (S 34 c) = 0) => ?_) (fun (c_48 : ¬ ((S 34 c) = 0)) => ?_)
    · refine wp_iconst (v := 0) eX6_claimOf_55 rfl ?_
      exact wp_iret eX6_claimOf_56 ⟨congrArg (fun z => some (Value.int z)) (by unfold sClOf; simp_all), rfl⟩
    · refine wp_iconst (v := 1) eX6_claimOf_51 rfl ?_
      refine wp_goto eX6_claimOf_52 ?_
      exact wp_iret eX6_claimOf_56 ⟨congrArg (fun z => some (Value.int z)) (by unfold sClOf; simp_all), rfl⟩
  by_cases c_11_2 : w = 2
  · refine wp_switch (t := 57) eX6_claimOf_11 (am_swI (off := 46) (by rw [c_11_2]; decide) (by rw [c_11_2]; decide) (by rw [c_11_2]; rfl) rfl) ?_
    refine wp_aload_n eX6_claimOf_57 rfl ?_
    refine wp_getR (v := 33) eX6_claimOf_58 (show Ob (am_wi h S) 10 6 from hM.ob) rfl hM.r31 ?_
    refine wp_iload_n eX6_claimOf_61 rfl ?_
    refine wp_ial (v := S 33 c) (t := c) eX6_claimOf_62 (show Ar (am_wi h S) 33 7 40 from hM.a33) (by omega) rfl rfl ?_
    exact wp_iret eX6_claimOf_63 ⟨congrArg (fun z => some (Value.int z)) (by unfold sClOf; simp_all), rfl⟩
  refine wp_switch (t := 64) eX6_claimOf_11 (am_swO (am_out2 c_11_0 c_11_1 c_11_2) rfl) ?_
  refine wp_iload_n eX6_claimOf_64 rfl ?_
  refine wp_bipush (v := 10) eX6_claimOf_65 rfl ?_
  refine wp_bipush (v := 13) eX6_claimOf_67 rfl ?_
  refine wp_stat (rv := (some (.int (sIn w 10 13)))) (h' := am_wi h S) (r := []) eX6_claimOf_69 [.int w, .int 10, .int 13] rfl rfl rfl rfl (rX6_in _ _ _ _ _) ?_
  refine wp_if eX6_claimOf_72 (fun (c_72 : (sIn w 10 13) = 0) => ?_) (fun (c_72 : ¬ ((sIn w 10 13) = 0)) => ?_)
  · refine wp_iconst (v := (-1)) eX6_claimOf_91 rfl ?_
    exact wp_iret eX6_claimOf_92 ⟨congrArg (fun z => some (Value.int z)) (by unfold sClOf; simp_all), rfl⟩
  · obtain ⟨k0, hk0, ek0⟩ := w1013 c_72
    have ec0 : w.toNatClampNeg - 10 = k0 := by rw [ek0, nI_clamp (by omega)]; omega
    refine wp_aload_n eX6_claimOf_75 rfl ?_
    refine wp_getR (v := 32) eX6_claimOf_76 (show Ob (am_wi h S) 10 6 from hM.ob) rfl hM.r30 ?_
    refine wp_iconst (v := 4) eX6_claimOf_79 rfl ?_
    refine wp_iload_n eX6_claimOf_80 rfl ?_
    refine wp_imul eX6_claimOf_81 ?_
    refine wp_iload_n eX6_claimOf_82 rfl ?_
    refine wp_iadd eX6_claimOf_83 ?_
    refine wp_bipush (v := 10) eX6_claimOf_84 rfl ?_
    refine wp_isub eX6_claimOf_86 ?_
    refine wp_top (y := nI (4 * c + k0)) (by rw [ek0]; exact nI_4w c k0) ?_
    refine wp_ial (v := S 32 (4 * c + k0)) (t := 4 * c + k0) eX6_claimOf_87 (show Ar (am_wi h S) 32 7 160 from hM.a32) (by omega) rfl rfl ?_
    refine wp_goto eX6_claimOf_88 ?_
    exact wp_iret eX6_claimOf_92 ⟨congrArg (fun z => some (Value.int z)) (by unfold sClOf; simp_all), rfl⟩

set_option maxRecDepth 4000 in
theorem rX6_claimOf_out (d : Nat) {h : Hp} (hM : MOK h) (S : St) (hW : MW S) (x w : Int32) (hx : ∀ c, c < cC S → ¬ x = nI c) : Res (d + 3) nX6_claimOf [.ref 10, .int x, .int w] (am_wi h S) (some (.int (-1))) (am_wi h S) := by
  have h5 := hW.1.2
  have h11 := hW.2.1.2
  have h12 := hW.2.2.1.2
  have h29 := hW.2.2.2.2
  refine Res_intro (ls := [some (.ref 10), some (.int x), some (.int w)]) aX6_claimOf rfl rfl rfl rfl ?_
  show WP kX6_claimOf _ _ _ _ _ _
  refine wp_aload_n eX6_claimOf_0 rfl ?_
  refine wp_iload_n eX6_claimOf_1 rfl ?_
  refine wp_virt (rv := (some (.int (sIn x 0 (S 10 29 - 1))))) (h' := am_wi h S) (r := []) eX6_claimOf_2 [.int x] rfl rfl rfl (show Ob (am_wi h S) 10 6 from hM.ob) (rX6_isClaim _ hM _ _) ?_
  refine wp_ifF eX6_claimOf_5 (show ¬ (¬ (sIn x 0 (S 10 29 - 1)) = 0) from (by rw [(sIn_out hW.2.2.2.1 hx (by omega))]; decide)) ?_
  refine wp_iconst (v := (-1)) eX6_claimOf_8 rfl ?_
  exact wp_iret eX6_claimOf_9 ⟨congrArg (fun z => some (Value.int z)) (rfl), rfl⟩

set_option maxRecDepth 4000 in
theorem lX6_count (d : Nat) {h : Hp} (hM : MOK h) (S : St) (hW : MW S) (w : Int32) : ∀ (n t : Nat) (a : Int32) (b : Int32), t + n = cT S → (a = sIns S t) → (b = sKept S t) → WP kX6_count (Res (d + 1)) (fun r1 h1 => r1 = some (.int (sCount S w)) ∧ h1 = am_wi h S) 7 [some (.ref 10), some (.int w), some (.int a), some (.int b), some (.int (nI t))] [] (am_wi h S) := by
  intro n
  induction n with
  | zero =>
    intro t a b hn ha hb
    have h5 := hW.1.2
    have h11 := hW.2.1.2
    have h12 := hW.2.2.1.2
    have h29 := hW.2.2.2.2
    have ea : a = sIns S (cT S) := by rw [ha, show t = cT S by omega]
    have eb : b = sKept S (cT S) := by rw [hb, show t = cT S by omega]
    clear ha hb
    refine wp_iload eX6_count_7 rfl ?_
    refine wp_aload_n eX6_count_9 rfl ?_
    refine wp_getI (v := S 10 12) eX6_count_10 (show Ob (am_wi h S) 10 6 from hM.ob) rfl rfl ?_
    refine wp_icmpT eX6_count_13 (show (S 10 12) ≤ (nI t) from (lp_ge hW.2.2.1.1 (by omega) (by omega))) ?_
    refine wp_iload_n eX6_count_50 rfl ?_
    by_cases c_51_0 : w = 0
    · refine wp_switch (t := 108) eX6_count_51 (am_swI (off := 57) (by rw [c_51_0]; decide) (by rw [c_51_0]; decide) (by rw [c_51_0]; rfl) rfl) ?_
      refine wp_aload_n eX6_count_108 rfl ?_
      refine wp_getI (v := S 10 11) eX6_count_109 (show Ob (am_wi h S) 10 6 from hM.ob) rfl rfl ?_
      exact wp_iret eX6_count_112 ⟨congrArg (fun z => some (Value.int z)) (by unfold sCount; rcases sOpen_01 S with q | q <;> simp_all), rfl⟩
    by_cases c_51_1 : w = 1
    · refine wp_switch (t := 113) eX6_count_51 (am_swI (off := 62) (by rw [c_51_1]; decide) (by rw [c_51_1]; decide) (by rw [c_51_1]; rfl) rfl) ?_
      refine wp_aload_n eX6_count_113 rfl ?_
      refine wp_getI (v := S 10 12) eX6_count_114 (show Ob (am_wi h S) 10 6 from hM.ob) rfl rfl ?_
      exact wp_iret eX6_count_117 ⟨congrArg (fun z => some (Value.int z)) (by unfold sCount; rcases sOpen_01 S with q | q <;> simp_all), rfl⟩
    by_cases c_51_2 : w = 2
    · refine wp_switch (t := 118) eX6_count_51 (am_swI (off := 67) (by rw [c_51_2]; decide) (by rw [c_51_2]; decide) (by rw [c_51_2]; rfl) rfl) ?_
      refine wp_iload_n eX6_count_118 rfl ?_
      exact wp_iret eX6_count_119 ⟨congrArg (fun z => some (Value.int z)) (by unfold sCount; rcases sOpen_01 S with q | q <;> simp_all), rfl⟩
    by_cases c_51_3 : w = 3
    · refine wp_switch (t := 120) eX6_count_51 (am_swI (off := 69) (by rw [c_51_3]; decide) (by rw [c_51_3]; decide) (by rw [c_51_3]; rfl) rfl) ?_
      refine wp_aload_n eX6_count_120 rfl ?_
      refine wp_getI (v := S 10 29) eX6_count_121 (show Ob (am_wi h S) 10 6 from hM.ob) rfl rfl ?_
      exact wp_iret eX6_count_124 ⟨congrArg (fun z => some (Value.int z)) (by unfold sCount; rcases sOpen_01 S with q | q <;> simp_all), rfl⟩
    by_cases c_51_4 : w = 4
    · refine wp_switch (t := 125) eX6_count_51 (am_swI (off := 74) (by rw [c_51_4]; decide) (by rw [c_51_4]; decide) (by rw [c_51_4]; rfl) rfl) ?_
      refine wp_aload_n eX6_count_125 rfl ?_
      refine wp_getI (v := S 10 5) eX6_count_126 (show Ob (am_wi h S) 10 6 from hM.ob) rfl rfl ?_
      exact wp_iret eX6_count_129 ⟨congrArg (fun z => some (Value.int z)) (by unfold sCount; rcases sOpen_01 S with q | q <;> simp_all), rfl⟩
    by_cases c_51_5 : w = 5
    · refine wp_switch (t := 130) eX6_count_51 (am_swI (off := 79) (by rw [c_51_5]; decide) (by rw [c_51_5]; decide) (by rw [c_51_5]; rfl) rfl) ?_
      refine wp_aload_n eX6_count_130 rfl ?_
      refine wp_getI (v := S 10 0) eX6_count_131 (show Ob (am_wi h S) 10 6 from hM.ob) rfl rfl ?_
      exact wp_iret eX6_count_134 ⟨congrArg (fun z => some (Value.int z)) (by unfold sCount; rcases sOpen_01 S with q | q <;> simp_all), rfl⟩
    by_cases c_51_6 : w = 6
    · refine wp_switch (t := 135) eX6_count_51 (am_swI (off := 84) (by rw [c_51_6]; decide) (by rw [c_51_6]; decide) (by rw [c_51_6]; rfl) rfl) ?_
      refine wp_aload_n eX6_count_135 rfl ?_
      refine wp_getI (v := S 10 0) eX6_count_136 (show Ob (am_wi h S) 10 6 from hM.ob) rfl rfl ?_
      refine wp_sipush (v := 1440) eX6_count_139 rfl ?_
      refine wp_idiv eX6_count_142 (by decide) ?_
      exact wp_iret eX6_count_143 ⟨congrArg (fun z => some (Value.int z)) (by unfold sCount; rcases sOpen_01 S with q | q <;> simp_all), rfl⟩
    by_cases c_51_7 : w = 7
    · refine wp_switch (t := 144) eX6_count_51 (am_swI (off := 93) (by rw [c_51_7]; decide) (by rw [c_51_7]; decide) (by rw [c_51_7]; rfl) rfl) ?_
      refine wp_aload_n eX6_count_144 rfl ?_
      refine wp_virt (rv := (some (.int (sOpen S)))) (h' := am_wi h S) (r := []) eX6_count_145 [] rfl rfl rfl (show Ob (am_wi h S) 10 6 from hM.ob) (rX6_isOpen _ hM _) ?_
      refine wp_if eX6_count_148 (fun (c_148 : (sOpen S) = 0) => ?_) (fun (c_148 : ¬ ((sOpen S) = 0)) => ?_)
      · refine wp_iconst (v := 0) eX6_count_155 rfl ?_
        exact wp_iret eX6_count_156 ⟨congrArg (fun z => some (Value.int z)) (by unfold sCount; rcases sOpen_01 S with q | q <;> simp_all), rfl⟩
      · refine wp_iconst (v := 1) eX6_count_151 rfl ?_
        refine wp_goto eX6_count_152 ?_
        exact wp_iret eX6_count_156 ⟨congrArg (fun z => some (Value.int z)) (by unfold sCount; rcases sOpen_01 S with q | q <;> simp_all), rfl⟩
    by_cases c_51_8 : w = 8
    · refine wp_switch (t := 157) eX6_count_51 (am_swI (off := 106) (by rw [c_51_8]; decide) (by rw [c_51_8]; decide) (by rw [c_51_8]; rfl) rfl) ?_
      refine wp_aload_n eX6_count_157 rfl ?_
      refine wp_getI (v := S 10 3) eX6_count_158 (show Ob (am_wi h S) 10 6 from hM.ob) rfl rfl ?_
      exact wp_iret eX6_count_161 ⟨congrArg (fun z => some (Value.int z)) (by unfold sCount; rcases sOpen_01 S with q | q <;> simp_all), rfl⟩
    by_cases c_51_9 : w = 9
    · refine wp_switch (t := 162) eX6_count_51 (am_swI (off := 111) (by rw [c_51_9]; decide) (by rw [c_51_9]; decide) (by rw [c_51_9]; rfl) rfl) ?_
      refine wp_iload_n eX6_count_162 rfl ?_
      exact wp_iret eX6_count_163 ⟨congrArg (fun z => some (Value.int z)) (by unfold sCount; rcases sOpen_01 S with q | q <;> simp_all), rfl⟩
    by_cases c_51_10 : w = 10
    · refine wp_switch (t := 164) eX6_count_51 (am_swI (off := 113) (by rw [c_51_10]; decide) (by rw [c_51_10]; decide) (by rw [c_51_10]; rfl) rfl) ?_
      refine wp_aload_n eX6_count_164 rfl ?_
      refine wp_getI (v := S 10 4) eX6_count_165 (show Ob (am_wi h S) 10 6 from hM.ob) rfl rfl ?_
      exact wp_iret eX6_count_168 ⟨congrArg (fun z => some (Value.int z)) (by unfold sCount; rcases sOpen_01 S with q | q <;> simp_all), rfl⟩
    refine wp_switch (t := 169) eX6_count_51 (am_swO (am_out10 c_51_0 c_51_1 c_51_2 c_51_3 c_51_4 c_51_5 c_51_6 c_51_7 c_51_8 c_51_9 c_51_10) rfl) ?_
    refine wp_iconst (v := (-1)) eX6_count_169 rfl ?_
    exact wp_iret eX6_count_170 ⟨congrArg (fun z => some (Value.int z)) (by unfold sCount; rcases sOpen_01 S with q | q <;> simp_all), rfl⟩
  | succ n ih =>
    intro t a b hn ha hb
    have h5 := hW.1.2
    have h11 := hW.2.1.2
    have h12 := hW.2.2.1.2
    have h29 := hW.2.2.2.2
    refine wp_iload eX6_count_7 rfl ?_
    refine wp_aload_n eX6_count_9 rfl ?_
    refine wp_getI (v := S 10 12) eX6_count_10 (show Ob (am_wi h S) 10 6 from hM.ob) rfl rfl ?_
    refine wp_icmpF eX6_count_13 (show ¬ ((S 10 12) ≤ (nI t)) from (lp_lt hW.2.2.1.1 (by omega) (by omega))) ?_
    refine wp_iload_n eX6_count_16 rfl ?_
    refine wp_aload_n eX6_count_17 rfl ?_
    refine wp_getR (v := 26) eX6_count_18 (show Ob (am_wi h S) 10 6 from hM.ob) rfl hM.r23 ?_
    refine wp_iload eX6_count_21 rfl ?_
    refine wp_ial (v := S 26 t) (t := t) eX6_count_23 (show Ar (am_wi h S) 26 7 120 from hM.a26) (by omega) rfl rfl ?_
    refine wp_if eX6_count_24 (fun (c_24 : ¬ (S 26 t) = 0) => ?_) (fun (c_24 : ¬ (¬ (S 26 t) = 0)) => ?_)
    · refine wp_iconst (v := 0) eX6_count_31 rfl ?_
      refine wp_iadd eX6_count_32 ?_
      refine wp_istore_n (ls' := [some (.ref 10), some (.int w), some (.int (a + 0)), some (.int b), some (.int (nI t))]) eX6_count_33 rfl rfl ?_
      refine wp_iload_n eX6_count_34 rfl ?_
      refine wp_aload_n eX6_count_35 rfl ?_
      refine wp_getR (v := 28) eX6_count_36 (show Ob (am_wi h S) 10 6 from hM.ob) rfl hM.r25 ?_
      refine wp_iload eX6_count_39 rfl ?_
      refine wp_ial (v := S 28 t) (t := t) eX6_count_41 (show Ar (am_wi h S) 28 7 120 from hM.a28) (by omega) rfl rfl ?_
      refine wp_iadd eX6_count_42 ?_
      refine wp_istore_n (ls' := [some (.ref 10), some (.int w), some (.int (a + 0)), some (.int (b + (S 28 t))), some (.int (nI t))]) eX6_count_43 rfl rfl ?_
      refine wp_iinc (v := nI (t + 1)) (ls' := [some (.ref 10), some (.int w), some (.int (a + 0)), some (.int (b + (S 28 t))), some (.int (nI (t + 1)))]) eX6_count_44 rfl (nI_1 t) rfl ?_
      refine wp_goto eX6_count_47 ?_
      exact ih (t + 1) _ _ (by omega) (by simp_all [sIns]) (by rw [hb]; rfl)
    · refine wp_iconst (v := 1) eX6_count_27 rfl ?_
      refine wp_goto eX6_count_28 ?_
      refine wp_iadd eX6_count_32 ?_
      refine wp_istore_n (ls' := [some (.ref 10), some (.int w), some (.int (a + 1)), some (.int b), some (.int (nI t))]) eX6_count_33 rfl rfl ?_
      refine wp_iload_n eX6_count_34 rfl ?_
      refine wp_aload_n eX6_count_35 rfl ?_
      refine wp_getR (v := 28) eX6_count_36 (show Ob (am_wi h S) 10 6 from hM.ob) rfl hM.r25 ?_
      refine wp_iload eX6_count_39 rfl ?_
      refine wp_ial (v := S 28 t) (t := t) eX6_count_41 (show Ar (am_wi h S) 28 7 120 from hM.a28) (by omega) rfl rfl ?_
      refine wp_iadd eX6_count_42 ?_
      refine wp_istore_n (ls' := [some (.ref 10), some (.int w), some (.int (a + 1)), some (.int (b + (S 28 t))), some (.int (nI t))]) eX6_count_43 rfl rfl ?_
      refine wp_iinc (v := nI (t + 1)) (ls' := [some (.ref 10), some (.int w), some (.int (a + 1)), some (.int (b + (S 28 t))), some (.int (nI (t + 1)))]) eX6_count_44 rfl (nI_1 t) rfl ?_
      refine wp_goto eX6_count_47 ?_
      exact ih (t + 1) _ _ (by omega) (by simp_all [sIns]) (by rw [hb]; rfl)

set_option maxRecDepth 4000 in
theorem rX6_count (d : Nat) {h : Hp} (hM : MOK h) (S : St) (hW : MW S) (w : Int32) : Res (d + 2) nX6_count [.ref 10, .int w] (am_wi h S) (some (.int (sCount S w))) (am_wi h S) := by
  refine Res_intro (ls := [some (.ref 10), some (.int w), none, none, none]) aX6_count rfl rfl rfl rfl ?_
  show WP kX6_count _ _ _ _ _ _
  refine wp_iconst (v := 0) eX6_count_0 rfl ?_
  refine wp_istore_n (ls' := [some (.ref 10), some (.int w), some (.int 0), none, none]) eX6_count_1 rfl rfl ?_
  refine wp_iconst (v := 0) eX6_count_2 rfl ?_
  refine wp_istore_n (ls' := [some (.ref 10), some (.int w), some (.int 0), some (.int 0), none]) eX6_count_3 rfl rfl ?_
  refine wp_iconst (v := 0) eX6_count_4 rfl ?_
  refine wp_istore (ls' := [some (.ref 10), some (.int w), some (.int 0), some (.int 0), some (.int 0)]) eX6_count_5 rfl rfl ?_
  exact lX6_count d hM S hW w (cT S) 0 _ _ (by omega) rfl rfl

def sClk1 (S : St) (t : Nat) : St := if S 26 t = 2 ∧ 30 < S 10 0 / 1440 - S 29 t then up2 (up2 (up2 S 26 t 4) 10 3 (S 10 3 + S 28 t)) 28 t 0 else S
def sClkN (S : St) : Nat → St
  | 0 => S
  | n + 1 => sClk1 (sClkN S n) n
def kClk (S : St) (n : Int32) : Bool := decide (¬ n < 1 ∧ n ≤ 100000 - S 10 0)
def sClk (S : St) (n : Int32) : St := if kClk S n then sClkN (up2 S 10 0 (S 10 0 + n)) (cT S) else S
theorem sClkN_keep (S : St) : ∀ (n a k : Nat), (a ≠ 26 ∧ a ≠ 28 ∧ ¬ (a = 10 ∧ k = 3)) → sClkN S n a k = S a k := by
  intro n
  induction n with
  | zero => intro a k h; rfl
  | succ n ih =>
    intro a k h
    unfold sClkN sClk1
    split
    · have h1 : ¬ (a = 28 ∧ k = n) := fun z => h.2.1 z.1
      have h2 : ¬ (a = 26 ∧ k = n) := fun z => h.1 z.1
      simp only [up2, h1, h.2.2, h2, if_false]
      exact ih a k h
    · exact ih a k h

set_option maxRecDepth 4000 in
theorem lX6_clock {Cal : am_Ct} {h : Hp} (hM : MOK h) (S0 : St) (hW : MW S0) (x : Int32) : ∀ (n t : Nat) (S : St), t + n = cT S0 → (S = sClkN S0 t) → WP kX6_clock Cal (fun r1 h1 => r1 = some (.int (S0 10 0)) ∧ h1 = am_wi h (sClkN S0 (cT S0))) 30 [some (.ref 10), some (.int x), some (.int (nI t))] [] (am_wi h S) := by
  intro n
  induction n with
  | zero =>
    intro t S hn hS
    have h12 := hW.2.2.1.2
    have hs12 : S 10 12 = S0 10 12 := by rw [hS]; exact sClkN_keep S0 t 10 12 (by omega)
    refine wp_iload_n eX6_clock_30 rfl ?_
    refine wp_aload_n eX6_clock_31 rfl ?_
    refine wp_getI (v := S 10 12) eX6_clock_32 (show Ob (am_wi h S) 10 6 from hM.ob) rfl rfl ?_
    refine wp_icmpT eX6_clock_35 (show (S 10 12) ≤ (nI t) from (lp_ge (hs12.trans hW.2.2.1.1) (by omega) (by omega))) ?_
    refine wp_aload_n eX6_clock_106 rfl ?_
    refine wp_getI (v := S 10 0) eX6_clock_107 (show Ob (am_wi h S) 10 6 from hM.ob) rfl rfl ?_
    exact wp_iret eX6_clock_110 ⟨congrArg (fun z => some (Value.int z)) (by rw [hS]; exact sClkN_keep S0 t 10 0 (by omega)), by rw [hS, show t = cT S0 by omega]⟩
  | succ n ih =>
    intro t S hn hS
    have h12 := hW.2.2.1.2
    have hs12 : S 10 12 = S0 10 12 := by rw [hS]; exact sClkN_keep S0 t 10 12 (by omega)
    refine wp_iload_n eX6_clock_30 rfl ?_
    refine wp_aload_n eX6_clock_31 rfl ?_
    refine wp_getI (v := S 10 12) eX6_clock_32 (show Ob (am_wi h S) 10 6 from hM.ob) rfl rfl ?_
    refine wp_icmpF eX6_clock_35 (show ¬ ((S 10 12) ≤ (nI t)) from (lp_lt (hs12.trans hW.2.2.1.1) (by omega) (by omega))) ?_
    refine wp_aload_n eX6_clock_38 rfl ?_
    refine wp_getR (v := 26) eX6_clock_39 (show Ob (am_wi h S) 10 6 from hM.ob) rfl hM.r23 ?_
    refine wp_iload_n eX6_clock_42 rfl ?_
    refine wp_ial (v := S 26 t) (t := t) eX6_clock_43 (show Ar (am_wi h S) 26 7 120 from hM.a26) (by omega) rfl rfl ?_
    refine wp_iconst (v := 2) eX6_clock_44 rfl ?_
    refine wp_icmp eX6_clock_45 (fun (c_45 : ¬ (S 26 t) = 2) => ?_) (fun (c_45 : ¬ (¬ (S 26 t) = 2)) => ?_)
    · refine wp_iinc (v := nI (t + 1)) (ls' := [some (.ref 10), some (.int x), some (.int (nI (t + 1)))]) eX6_clock_100 rfl (nI_1 t) rfl ?_
      refine wp_goto eX6_clock_103 ?_
      exact ih (t + 1) _ (by omega) (by rw [hS]; simp only [sClkN, sClk1]; rw [← hS]; first | (rw [if_pos ⟨Decidable.not_not.mp c_45, c_65⟩]; done) | (rw [if_neg (fun z => c_65 z.2)]; done) | (rw [if_neg (fun z => c_45 z.1)]; done))
    · refine wp_aload_n eX6_clock_48 rfl ?_
      refine wp_getI (v := S 10 0) eX6_clock_49 (show Ob (am_wi h S) 10 6 from hM.ob) rfl rfl ?_
      refine wp_sipush (v := 1440) eX6_clock_52 rfl ?_
      refine wp_idiv eX6_clock_55 (by decide) ?_
      refine wp_aload_n eX6_clock_56 rfl ?_
      refine wp_getR (v := 29) eX6_clock_57 (show Ob (am_wi h S) 10 6 from hM.ob) rfl hM.r26 ?_
      refine wp_iload_n eX6_clock_60 rfl ?_
      refine wp_ial (v := S 29 t) (t := t) eX6_clock_61 (show Ar (am_wi h S) 29 7 120 from hM.a29) (by omega) rfl rfl ?_
      refine wp_isub eX6_clock_62 ?_
      refine wp_bipush (v := 30) eX6_clock_63 rfl ?_
      refine wp_icmp eX6_clock_65 (fun (c_65 : 30 < (((S 10 0) / 1440) - (S 29 t))) => ?_) (fun (c_65 : ¬ (30 < (((S 10 0) / 1440) - (S 29 t)))) => ?_)
      · refine wp_aload_n eX6_clock_71 rfl ?_
        refine wp_getR (v := 26) eX6_clock_72 (show Ob (am_wi h S) 10 6 from hM.ob) rfl hM.r23 ?_
        refine wp_iload_n eX6_clock_75 rfl ?_
        refine wp_iconst (v := 4) eX6_clock_76 rfl ?_
        refine wp_ias (t := t) (h' := am_wi h (up2 S 26 t 4)) eX6_clock_77 (show Ar (am_wi h S) 26 7 120 from hM.a26) (by omega) rfl (am_wi_set _ _ _ _ _ rfl rfl) ?_
        refine wp_aload_n eX6_clock_78 rfl ?_
        refine wp_dup eX6_clock_79 rfl ?_
        refine wp_getI (v := S 10 3) eX6_clock_80 (show Ob (am_wi h (up2 S 26 t 4)) 10 6 from hM.ob) rfl rfl ?_
        refine wp_aload_n eX6_clock_83 rfl ?_
        refine wp_getR (v := 28) eX6_clock_84 (show Ob (am_wi h (up2 S 26 t 4)) 10 6 from hM.ob) rfl hM.r25 ?_
        refine wp_iload_n eX6_clock_87 rfl ?_
        refine wp_ial (v := S 28 t) (t := t) eX6_clock_88 (show Ar (am_wi h (up2 S 26 t 4)) 28 7 120 from hM.a28) (by omega) rfl rfl ?_
        refine wp_iadd eX6_clock_89 ?_
        refine wp_putI (h' := am_wi h (up2 (up2 S 26 t 4) 10 3 ((S 10 3) + (S 28 t)))) eX6_clock_90 (show Ob (am_wi h (up2 S 26 t 4)) 10 6 from hM.ob) rfl (am_wi_set _ _ _ _ _ rfl rfl) ?_
        refine wp_aload_n eX6_clock_93 rfl ?_
        refine wp_getR (v := 28) eX6_clock_94 (show Ob (am_wi h (up2 (up2 S 26 t 4) 10 3 ((S 10 3) + (S 28 t)))) 10 6 from hM.ob) rfl hM.r25 ?_
        refine wp_iload_n eX6_clock_97 rfl ?_
        refine wp_iconst (v := 0) eX6_clock_98 rfl ?_
        refine wp_ias (t := t) (h' := am_wi h (up2 (up2 (up2 S 26 t 4) 10 3 ((S 10 3) + (S 28 t))) 28 t 0)) eX6_clock_99 (show Ar (am_wi h (up2 (up2 S 26 t 4) 10 3 ((S 10 3) + (S 28 t)))) 28 7 120 from hM.a28) (by omega) rfl (am_wi_set _ _ _ _ _ rfl rfl) ?_
        refine wp_iinc (v := nI (t + 1)) (ls' := [some (.ref 10), some (.int x), some (.int (nI (t + 1)))]) eX6_clock_100 rfl (nI_1 t) rfl ?_
        refine wp_goto eX6_clock_103 ?_
        exact ih (t + 1) _ (by omega) (by rw [hS]; simp only [sClkN, sClk1]; rw [← hS]; first | (rw [if_pos ⟨Decidable.not_not.mp c_45, c_65⟩]; done) | (rw [if_neg (fun z => c_65 z.2)]; done) | (rw [if_neg (fun z => c_45 z.1)]; done))
      · refine wp_goto eX6_clock_68 ?_
        refine wp_iinc (v := nI (t + 1)) (ls' := [some (.ref 10), some (.int x), some (.int (nI (t + 1)))]) eX6_clock_100 rfl (nI_1 t) rfl ?_
        refine wp_goto eX6_clock_103 ?_
        exact ih (t + 1) _ (by omega) (by rw [hS]; simp only [sClkN, sClk1]; rw [← hS]; first | (rw [if_pos ⟨Decidable.not_not.mp c_45, c_65⟩]; done) | (rw [if_neg (fun z => c_65 z.2)]; done) | (rw [if_neg (fun z => c_45 z.1)]; done))
