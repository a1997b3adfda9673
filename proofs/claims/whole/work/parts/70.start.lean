/-! THE CONSTRUCTORS, AND WHAT HOLDS AT THE START -/
theorem obC {h : Hp} {a ci n : Nat} (h1 : Nat.blt 0 a = true) (hn : am_n h = n) (h2 : Nat.blt a n = true) (hk : am_k h a = ci) : Ob h a ci := ⟨Nat.le_of_ble_eq_true h1, by rw [hn]; exact Nat.le_of_ble_eq_true h2, hk⟩
theorem wp_sc {cod : List am_E} {Cal : am_Ct} {Q : Option Value → Hp → Prop} {pc : Nat} {ls : am_Ls} {st : List Value} {h : Hp} {len r1 r2 r3 : Nat} (hm : (pc, Instr.iaload, len, r1, r2, r3) ∈ cod) {t L : Nat} {xs : Nat → Int32} (hS : Scp L xs h) (hn : 0 < am_n h) (ht : t < L) (hL : L ≤ 3584) (kk : WP cod Cal Q (pc + 1) ls (.int (xs t) :: st) h) : WP cod Cal Q pc ls (.int (nI t) :: .ref 0 :: st) h :=
  wp_iaload hm hn hS.1 (by rw [hS.2.1]; exact vp_in_nI ht (by omega)) (by rw [nI_clamp (by omega), hS.2.2]) kk

def hq0 (L : Nat) (xs : Nat → Int32) : Hp := am_new (am_h0 L xs) 5 0 15
def hq1 (L : Nat) (xs : Nat → Int32) : Hp := am_setR (am_new (hq0 L xs) 9 16 16) 1 0 (some 2)
def hq2 (L : Nat) (xs : Nat → Int32) : Hp := am_setR (am_new (hq1 L xs) 10 120 120) 1 2 (some 3)
def hq3 (L : Nat) (xs : Nat → Int32) : Hp := am_setR (am_new (hq2 L xs) 11 40 40) 1 4 (some 4)
def hq4 (L : Nat) (xs : Nat → Int32) : Hp := am_setR (am_new (hq3 L xs) 12 12 12) 1 6 (some 5)
def hq5 (L : Nat) (xs : Nat → Int32) : Hp := am_setR (am_new (hq4 L xs) 7 16 16) 1 8 (some 6)
def hq6 (L : Nat) (xs : Nat → Int32) : Hp := am_new (hq5 L xs) 0 0 3
def hq7 (L : Nat) (xs : Nat → Int32) : Hp := am_setR (am_new (hq6 L xs) 10 5 5) 7 0 (some 8)
def hq8 (L : Nat) (xs : Nat → Int32) : Hp := am_setR (am_new (hq7 L xs) 7 32 32) 7 1 (some 9)
def hq9 (L : Nat) (xs : Nat → Int32) : Hp := am_setR (hq8 L xs) 1 9 (some 7)
def hq10 (L : Nat) (xs : Nat → Int32) : Hp := am_setI (hq9 L xs) 1 12 1440
def hm0 (L : Nat) (xs : Nat → Int32) : Hp := am_new (hq10 L xs) 6 0 36
def hm1 (L : Nat) (xs : Nat → Int32) : Hp := am_setI (hm0 L xs) 10 2 1440
def hm2 (L : Nat) (xs : Nat → Int32) : Hp := am_setR (am_new (hm1 L xs) 7 12 12) 10 6 (some 11)
def hm3 (L : Nat) (xs : Nat → Int32) : Hp := am_setR (am_new (hm2 L xs) 7 12 12) 10 7 (some 12)
def hm4 (L : Nat) (xs : Nat → Int32) : Hp := am_setR (am_new (hm3 L xs) 7 12 12) 10 8 (some 13)
def hm5 (L : Nat) (xs : Nat → Int32) : Hp := am_setR (am_new (hm4 L xs) 7 12 12) 10 9 (some 14)
def hm6 (L : Nat) (xs : Nat → Int32) : Hp := am_setR (am_new (hm5 L xs) 7 12 12) 10 10 (some 15)
def hm7 (L : Nat) (xs : Nat → Int32) : Hp := am_setR (am_new (hm6 L xs) 7 16 16) 10 13 (some 16)
def hm8 (L : Nat) (xs : Nat → Int32) : Hp := am_setR (am_new (hm7 L xs) 7 16 16) 10 14 (some 17)
def hm9 (L : Nat) (xs : Nat → Int32) : Hp := am_setR (am_new (hm8 L xs) 7 16 16) 10 15 (some 18)
def hm10 (L : Nat) (xs : Nat → Int32) : Hp := am_setR (am_new (hm9 L xs) 8 16 16) 10 16 (some 19)
def hm11 (L : Nat) (xs : Nat → Int32) : Hp := am_setR (am_new (hm10 L xs) 8 16 16) 10 17 (some 20)
def hm12 (L : Nat) (xs : Nat → Int32) : Hp := am_setR (am_new (hm11 L xs) 7 120 120) 10 18 (some 21)
def hm13 (L : Nat) (xs : Nat → Int32) : Hp := am_setR (am_new (hm12 L xs) 7 120 120) 10 19 (some 22)
def hm14 (L : Nat) (xs : Nat → Int32) : Hp := am_setR (am_new (hm13 L xs) 7 120 120) 10 20 (some 23)
def hm15 (L : Nat) (xs : Nat → Int32) : Hp := am_setR (am_new (hm14 L xs) 7 120 120) 10 21 (some 24)
def hm16 (L : Nat) (xs : Nat → Int32) : Hp := am_setR (am_new (hm15 L xs) 7 120 120) 10 22 (some 25)
def hm17 (L : Nat) (xs : Nat → Int32) : Hp := am_setR (am_new (hm16 L xs) 7 120 120) 10 23 (some 26)
def hm18 (L : Nat) (xs : Nat → Int32) : Hp := am_setR (am_new (hm17 L xs) 7 120 120) 10 24 (some 27)
def hm19 (L : Nat) (xs : Nat → Int32) : Hp := am_setR (am_new (hm18 L xs) 7 120 120) 10 25 (some 28)
def hm20 (L : Nat) (xs : Nat → Int32) : Hp := am_setR (am_new (hm19 L xs) 7 120 120) 10 26 (some 29)
def hm21 (L : Nat) (xs : Nat → Int32) : Hp := am_setR (am_new (hm20 L xs) 8 120 120) 10 27 (some 30)
def hm22 (L : Nat) (xs : Nat → Int32) : Hp := am_setR (am_new (hm21 L xs) 8 120 120) 10 28 (some 31)
def hm23 (L : Nat) (xs : Nat → Int32) : Hp := am_setR (am_new (hm22 L xs) 7 160 160) 10 30 (some 32)
def hm24 (L : Nat) (xs : Nat → Int32) : Hp := am_setR (am_new (hm23 L xs) 7 40 40) 10 31 (some 33)
def hm25 (L : Nat) (xs : Nat → Int32) : Hp := am_setR (am_new (hm24 L xs) 8 40 40) 10 32 (some 34)
def hm26 (L : Nat) (xs : Nat → Int32) : Hp := am_setR (am_new (hm25 L xs) 7 6 6) 10 33 (some 35)
def hm27 (L : Nat) (xs : Nat → Int32) : Hp := am_setR (am_new (hm26 L xs) 7 6 6) 10 34 (some 36)
def hm28 (L : Nat) (xs : Nat → Int32) : Hp := am_setR (am_new (hm27 L xs) 7 16 16) 10 35 (some 37)

set_option maxRecDepth 4000 in
theorem rX0_initC (d : Nat) (L : Nat) (xs : Nat → Int32) : Res (d + 1) nX0_init [.ref 7] (hq6 L xs) none (hq8 L xs) := by
  refine Res_intro (ls := [some (.ref 7)]) aX0_init rfl rfl rfl rfl ?_
  show WP kX0_init _ _ _ _ _ _
  refine wp_aload_n eX0_init_0 rfl ?_
  refine wp_obj eX0_init_1 rfl ?_
  refine wp_aload_n eX0_init_4 rfl ?_
  refine wp_iconst (v := 5) eX0_init_5 rfl ?_
  refine wp_anewarray (N := 5) (a := 8) (h' := am_new (hq6 L xs) 10 5 5) eX0_init_6 (by decide) rfl (by decide) rfl rfl ?_
  refine wp_putR (h' := hq7 L xs) eX0_init_9 (show Ob (am_new (hq6 L xs) 10 5 5) 7 0 from obC rfl rfl rfl rfl) rfl rfl ?_
  refine wp_aload_n eX0_init_12 rfl ?_
  refine wp_bipush (v := 32) eX0_init_13 rfl ?_
  refine wp_newarray (N := 32) (a := 9) (h' := am_new (hq7 L xs) 7 32 32) eX0_init_15 (by decide) rfl (by decide) rfl rfl ?_
  refine wp_putR (h' := hq8 L xs) eX0_init_17 (show Ob (am_new (hq7 L xs) 7 32 32) 7 0 from obC rfl rfl rfl rfl) rfl rfl ?_
  exact wp_vret eX0_init_20 ⟨rfl, rfl⟩

set_option maxRecDepth 4000 in
theorem rX5_initC (d : Nat) (L : Nat) (xs : Nat → Int32) : Res (d + 2) nX5_init [.ref 1] (hq0 L xs) none (hq10 L xs) := by
  refine Res_intro (ls := [some (.ref 1)]) aX5_init rfl rfl rfl rfl ?_
  show WP kX5_init _ _ _ _ _ _
  refine wp_aload_n eX5_init_0 rfl ?_
  refine wp_obj eX5_init_1 rfl ?_
  refine wp_aload_n eX5_init_4 rfl ?_
  refine wp_bipush (v := 16) eX5_init_5 rfl ?_
  refine wp_anewarray (N := 16) (a := 2) (h' := am_new (hq0 L xs) 9 16 16) eX5_init_7 (by decide) rfl (by decide) rfl rfl ?_
  refine wp_putR (h' := hq1 L xs) eX5_init_10 (show Ob (am_new (hq0 L xs) 9 16 16) 1 5 from obC rfl rfl rfl rfl) rfl rfl ?_
  refine wp_aload_n eX5_init_13 rfl ?_
  refine wp_bipush (v := 120) eX5_init_14 rfl ?_
  refine wp_anewarray (N := 120) (a := 3) (h' := am_new (hq1 L xs) 10 120 120) eX5_init_16 (by decide) rfl (by decide) rfl rfl ?_
  refine wp_putR (h' := hq2 L xs) eX5_init_19 (show Ob (am_new (hq1 L xs) 10 120 120) 1 5 from obC rfl rfl rfl rfl) rfl rfl ?_
  refine wp_aload_n eX5_init_22 rfl ?_
  refine wp_bipush (v := 40) eX5_init_23 rfl ?_
  refine wp_anewarray (N := 40) (a := 4) (h' := am_new (hq2 L xs) 11 40 40) eX5_init_25 (by decide) rfl (by decide) rfl rfl ?_
  refine wp_putR (h' := hq3 L xs) eX5_init_28 (show Ob (am_new (hq2 L xs) 11 40 40) 1 5 from obC rfl rfl rfl rfl) rfl rfl ?_
  refine wp_aload_n eX5_init_31 rfl ?_
  refine wp_bipush (v := 12) eX5_init_32 rfl ?_
  refine wp_anewarray (N := 12) (a := 5) (h' := am_new (hq3 L xs) 12 12 12) eX5_init_34 (by decide) rfl (by decide) rfl rfl ?_
  refine wp_putR (h' := hq4 L xs) eX5_init_37 (show Ob (am_new (hq3 L xs) 12 12 12) 1 5 from obC rfl rfl rfl rfl) rfl rfl ?_
  refine wp_aload_n eX5_init_40 rfl ?_
  refine wp_bipush (v := 16) eX5_init_41 rfl ?_
  refine wp_newarray (N := 16) (a := 6) (h' := am_new (hq4 L xs) 7 16 16) eX5_init_43 (by decide) rfl (by decide) rfl rfl ?_
  refine wp_putR (h' := hq5 L xs) eX5_init_45 (show Ob (am_new (hq4 L xs) 7 16 16) 1 5 from obC rfl rfl rfl rfl) rfl rfl ?_
  refine wp_aload_n eX5_init_48 rfl ?_
  refine wp_new (a := 7) (h' := hq6 L xs) eX5_init_49 rfl rfl ?_
  refine wp_dup eX5_init_52 rfl ?_
  refine wp_spec (rv := none) (h' := hq8 L xs) (r := [.ref 7, .ref 1]) eX5_init_53 [] rfl rfl rfl rfl (rX0_initC _ L xs) ?_
  refine wp_putR (h' := hq9 L xs) eX5_init_56 (show Ob (hq8 L xs) 1 5 from obC rfl rfl rfl rfl) rfl rfl ?_
  refine wp_aload_n eX5_init_59 rfl ?_
  refine wp_sipush (v := 1440) eX5_init_60 rfl ?_
  refine wp_putI (h' := hq10 L xs) eX5_init_63 (show Ob (hq9 L xs) 1 5 from obC rfl rfl rfl rfl) rfl rfl ?_
  exact wp_vret eX5_init_66 ⟨rfl, rfl⟩

set_option maxRecDepth 4000 in
theorem rX6_initC (d : Nat) (L : Nat) (xs : Nat → Int32) : Res (d + 1) nX6_init [.ref 10] (hm0 L xs) none (hm28 L xs) := by
  refine Res_intro (ls := [some (.ref 10)]) aX6_init rfl rfl rfl rfl ?_
  show WP kX6_init _ _ _ _ _ _
  refine wp_aload_n eX6_init_0 rfl ?_
  refine wp_obj eX6_init_1 rfl ?_
  refine wp_aload_n eX6_init_4 rfl ?_
  refine wp_sipush (v := 1440) eX6_init_5 rfl ?_
  refine wp_putI (h' := hm1 L xs) eX6_init_8 (show Ob (hm0 L xs) 10 6 from obC rfl rfl rfl rfl) rfl rfl ?_
  refine wp_aload_n eX6_init_11 rfl ?_
  refine wp_bipush (v := 12) eX6_init_12 rfl ?_
  refine wp_newarray (N := 12) (a := 11) (h' := am_new (hm1 L xs) 7 12 12) eX6_init_14 (by decide) rfl (by decide) rfl rfl ?_
  refine wp_putR (h' := hm2 L xs) eX6_init_16 (show Ob (am_new (hm1 L xs) 7 12 12) 10 6 from obC rfl rfl rfl rfl) rfl rfl ?_
  refine wp_aload_n eX6_init_19 rfl ?_
  refine wp_bipush (v := 12) eX6_init_20 rfl ?_
  refine wp_newarray (N := 12) (a := 12) (h' := am_new (hm2 L xs) 7 12 12) eX6_init_22 (by decide) rfl (by decide) rfl rfl ?_
  refine wp_putR (h' := hm3 L xs) eX6_init_24 (show Ob (am_new (hm2 L xs) 7 12 12) 10 6 from obC rfl rfl rfl rfl) rfl rfl ?_
  refine wp_aload_n eX6_init_27 rfl ?_
  refine wp_bipush (v := 12) eX6_init_28 rfl ?_
  refine wp_newarray (N := 12) (a := 13) (h' := am_new (hm3 L xs) 7 12 12) eX6_init_30 (by decide) rfl (by decide) rfl rfl ?_
  refine wp_putR (h' := hm4 L xs) eX6_init_32 (show Ob (am_new (hm3 L xs) 7 12 12) 10 6 from obC rfl rfl rfl rfl) rfl rfl ?_
  refine wp_aload_n eX6_init_35 rfl ?_
  refine wp_bipush (v := 12) eX6_init_36 rfl ?_
  refine wp_newarray (N := 12) (a := 14) (h' := am_new (hm4 L xs) 7 12 12) eX6_init_38 (by decide) rfl (by decide) rfl rfl ?_
  refine wp_putR (h' := hm5 L xs) eX6_init_40 (show Ob (am_new (hm4 L xs) 7 12 12) 10 6 from obC rfl rfl rfl rfl) rfl rfl ?_
  refine wp_aload_n eX6_init_43 rfl ?_
  refine wp_bipush (v := 12) eX6_init_44 rfl ?_
  refine wp_newarray (N := 12) (a := 15) (h' := am_new (hm5 L xs) 7 12 12) eX6_init_46 (by decide) rfl (by decide) rfl rfl ?_
  refine wp_putR (h' := hm6 L xs) eX6_init_48 (show Ob (am_new (hm5 L xs) 7 12 12) 10 6 from obC rfl rfl rfl rfl) rfl rfl ?_
  refine wp_aload_n eX6_init_51 rfl ?_
  refine wp_bipush (v := 16) eX6_init_52 rfl ?_
  refine wp_newarray (N := 16) (a := 16) (h' := am_new (hm6 L xs) 7 16 16) eX6_init_54 (by decide) rfl (by decide) rfl rfl ?_
  refine wp_putR (h' := hm7 L xs) eX6_init_56 (show Ob (am_new (hm6 L xs) 7 16 16) 10 6 from obC rfl rfl rfl rfl) rfl rfl ?_
  refine wp_aload_n eX6_init_59 rfl ?_
  refine wp_bipush (v := 16) eX6_init_60 rfl ?_
  refine wp_newarray (N := 16) (a := 17) (h' := am_new (hm7 L xs) 7 16 16) eX6_init_62 (by decide) rfl (by decide) rfl rfl ?_
  refine wp_putR (h' := hm8 L xs) eX6_init_64 (show Ob (am_new (hm7 L xs) 7 16 16) 10 6 from obC rfl rfl rfl rfl) rfl rfl ?_
  refine wp_aload_n eX6_init_67 rfl ?_
  refine wp_bipush (v := 16) eX6_init_68 rfl ?_
  refine wp_newarray (N := 16) (a := 18) (h' := am_new (hm8 L xs) 7 16 16) eX6_init_70 (by decide) rfl (by decide) rfl rfl ?_
  refine wp_putR (h' := hm9 L xs) eX6_init_72 (show Ob (am_new (hm8 L xs) 7 16 16) 10 6 from obC rfl rfl rfl rfl) rfl rfl ?_
  refine wp_aload_n eX6_init_75 rfl ?_
  refine wp_bipush (v := 16) eX6_init_76 rfl ?_
  refine wp_newarray (N := 16) (a := 19) (h' := am_new (hm9 L xs) 8 16 16) eX6_init_78 (by decide) rfl (by decide) rfl rfl ?_
  refine wp_putR (h' := hm10 L xs) eX6_init_80 (show Ob (am_new (hm9 L xs) 8 16 16) 10 6 from obC rfl rfl rfl rfl) rfl rfl ?_
  refine wp_aload_n eX6_init_83 rfl ?_
  refine wp_bipush (v := 16) eX6_init_84 rfl ?_
  refine wp_newarray (N := 16) (a := 20) (h' := am_new (hm10 L xs) 8 16 16) eX6_init_86 (by decide) rfl (by decide) rfl rfl ?_
  refine wp_putR (h' := hm11 L xs) eX6_init_88 (show Ob (am_new (hm10 L xs) 8 16 16) 10 6 from obC rfl rfl rfl rfl) rfl rfl ?_
  refine wp_aload_n eX6_init_91 rfl ?_
  refine wp_bipush (v := 120) eX6_init_92 rfl ?_
  refine wp_newarray (N := 120) (a := 21) (h' := am_new (hm11 L xs) 7 120 120) eX6_init_94 (by decide) rfl (by decide) rfl rfl ?_
  refine wp_putR (h' := hm12 L xs) eX6_init_96 (show Ob (am_new (hm11 L xs) 7 120 120) 10 6 from obC rfl rfl rfl rfl) rfl rfl ?_
  refine wp_aload_n eX6_init_99 rfl ?_
  refine wp_bipush (v := 120) eX6_init_100 rfl ?_
  refine wp_newarray (N := 120) (a := 22) (h' := am_new (hm12 L xs) 7 120 120) eX6_init_102 (by decide) rfl (by decide) rfl rfl ?_
  refine wp_putR (h' := hm13 L xs) eX6_init_104 (show Ob (am_new (hm12 L xs) 7 120 120) 10 6 from obC rfl rfl rfl rfl) rfl rfl ?_
  refine wp_aload_n eX6_init_107 rfl ?_
  refine wp_bipush (v := 120) eX6_init_108 rfl ?_
  refine wp_newarray (N := 120) (a := 23) (h' := am_new (hm13 L xs) 7 120 120) eX6_init_110 (by decide) rfl (by decide) rfl rfl ?_
  refine wp_putR (h' := hm14 L xs) eX6_init_112 (show Ob (am_new (hm13 L xs) 7 120 120) 10 6 from obC rfl rfl rfl rfl) rfl rfl ?_
  refine wp_aload_n eX6_init_115 rfl ?_
  refine wp_bipush (v := 120) eX6_init_116 rfl ?_
  refine wp_newarray (N := 120) (a := 24) (h' := am_new (hm14 L xs) 7 120 120) eX6_init_118 (by decide) rfl (by decide) rfl rfl ?_
  refine wp_putR (h' := hm15 L xs) eX6_init_120 (show Ob (am_new (hm14 L xs) 7 120 120) 10 6 from obC rfl rfl rfl rfl) rfl rfl ?_
  refine wp_aload_n eX6_init_123 rfl ?_
  refine wp_bipush (v := 120) eX6_init_124 rfl ?_
  refine wp_newarray (N := 120) (a := 25) (h' := am_new (hm15 L xs) 7 120 120) eX6_init_126 (by decide) rfl (by decide) rfl rfl ?_
  refine wp_putR (h' := hm16 L xs) eX6_init_128 (show Ob (am_new (hm15 L xs) 7 120 120) 10 6 from obC rfl rfl rfl rfl) rfl rfl ?_
  refine wp_aload_n eX6_init_131 rfl ?_
  refine wp_bipush (v := 120) eX6_init_132 rfl ?_
  refine wp_newarray (N := 120) (a := 26) (h' := am_new (hm16 L xs) 7 120 120) eX6_init_134 (by decide) rfl (by decide) rfl rfl ?_
  refine wp_putR (h' := hm17 L xs) eX6_init_136 (show Ob (am_new (hm16 L xs) 7 120 120) 10 6 from obC rfl rfl rfl rfl) rfl rfl ?_
  refine wp_aload_n eX6_init_139 rfl ?_
  refine wp_bipush (v := 120) eX6_init_140 rfl ?_
  refine wp_newarray (N := 120) (a := 27) (h' := am_new (hm17 L xs) 7 120 120) eX6_init_142 (by decide) rfl (by decide) rfl rfl ?_
  refine wp_putR (h' := hm18 L xs) eX6_init_144 (show Ob (am_new (hm17 L xs) 7 120 120) 10 6 from obC rfl rfl rfl rfl) rfl rfl ?_
  refine wp_aload_n eX6_init_147 rfl ?_
  refine wp_bipush (v := 120) eX6_init_148 rfl ?_
  refine wp_newarray (N := 120) (a := 28) (h' := am_new (hm18 L xs) 7 120 120) eX6_init_150 (by decide) rfl (by decide) rfl rfl ?_
  refine wp_putR (h' := hm19 L xs) eX6_init_152 (show Ob (am_new (hm18 L xs) 7 120 120) 10 6 from obC rfl rfl rfl rfl) rfl rfl ?_
  refine wp_aload_n eX6_init_155 rfl ?_
  refine wp_bipush (v := 120) eX6_init_156 rfl ?_
  refine wp_newarray (N := 120) (a := 29) (h' := am_new (hm19 L xs) 7 120 120) eX6_init_158 (by decide) rfl (by decide) rfl rfl ?_
  refine wp_putR (h' := hm20 L xs) eX6_init_160 (show Ob (am_new (hm19 L xs) 7 120 120) 10 6 from obC rfl rfl rfl rfl) rfl rfl ?_
  refine wp_aload_n eX6_init_163 rfl ?_
  refine wp_bipush (v := 120) eX6_init_164 rfl ?_
  refine wp_newarray (N := 120) (a := 30) (h' := am_new (hm20 L xs) 8 120 120) eX6_init_166 (by decide) rfl (by decide) rfl rfl ?_
  refine wp_putR (h' := hm21 L xs) eX6_init_168 (show Ob (am_new (hm20 L xs) 8 120 120) 10 6 from obC rfl rfl rfl rfl) rfl rfl ?_
  refine wp_aload_n eX6_init_171 rfl ?_
  refine wp_bipush (v := 120) eX6_init_172 rfl ?_
  refine wp_newarray (N := 120) (a := 31) (h' := am_new (hm21 L xs) 8 120 120) eX6_init_174 (by decide) rfl (by decide) rfl rfl ?_
  refine wp_putR (h' := hm22 L xs) eX6_init_176 (show Ob (am_new (hm21 L xs) 8 120 120) 10 6 from obC rfl rfl rfl rfl) rfl rfl ?_
  refine wp_aload_n eX6_init_179 rfl ?_
  refine wp_sipush (v := 160) eX6_init_180 rfl ?_
  refine wp_newarray (N := 160) (a := 32) (h' := am_new (hm22 L xs) 7 160 160) eX6_init_183 (by decide) rfl (by decide) rfl rfl ?_
  refine wp_putR (h' := hm23 L xs) eX6_init_185 (show Ob (am_new (hm22 L xs) 7 160 160) 10 6 from obC rfl rfl rfl rfl) rfl rfl ?_
  refine wp_aload_n eX6_init_188 rfl ?_
  refine wp_bipush (v := 40) eX6_init_189 rfl ?_
  refine wp_newarray (N := 40) (a := 33) (h' := am_new (hm23 L xs) 7 40 40) eX6_init_191 (by decide) rfl (by decide) rfl rfl ?_
  refine wp_putR (h' := hm24 L xs) eX6_init_193 (show Ob (am_new (hm23 L xs) 7 40 40) 10 6 from obC rfl rfl rfl rfl) rfl rfl ?_
  refine wp_aload_n eX6_init_196 rfl ?_
  refine wp_bipush (v := 40) eX6_init_197 rfl ?_
  refine wp_newarray (N := 40) (a := 34) (h' := am_new (hm24 L xs) 8 40 40) eX6_init_199 (by decide) rfl (by decide) rfl rfl ?_
  refine wp_putR (h' := hm25 L xs) eX6_init_201 (show Ob (am_new (hm24 L xs) 8 40 40) 10 6 from obC rfl rfl rfl rfl) rfl rfl ?_
  refine wp_aload_n eX6_init_204 rfl ?_
  refine wp_bipush (v := 6) eX6_init_205 rfl ?_
  refine wp_newarray (N := 6) (a := 35) (h' := am_new (hm25 L xs) 7 6 6) eX6_init_207 (by decide) rfl (by decide) rfl rfl ?_
  refine wp_putR (h' := hm26 L xs) eX6_init_209 (show Ob (am_new (hm25 L xs) 7 6 6) 10 6 from obC rfl rfl rfl rfl) rfl rfl ?_
  refine wp_aload_n eX6_init_212 rfl ?_
  refine wp_bipush (v := 6) eX6_init_213 rfl ?_
  refine wp_newarray (N := 6) (a := 36) (h' := am_new (hm26 L xs) 7 6 6) eX6_init_215 (by decide) rfl (by decide) rfl rfl ?_
  refine wp_putR (h' := hm27 L xs) eX6_init_217 (show Ob (am_new (hm26 L xs) 7 6 6) 10 6 from obC rfl rfl rfl rfl) rfl rfl ?_
  refine wp_aload_n eX6_init_220 rfl ?_
  refine wp_bipush (v := 16) eX6_init_221 rfl ?_
  refine wp_newarray (N := 16) (a := 37) (h' := am_new (hm27 L xs) 7 16 16) eX6_init_223 (by decide) rfl (by decide) rfl rfl ?_
  refine wp_putR (h' := hm28 L xs) eX6_init_225 (show Ob (am_new (hm27 L xs) 7 16 16) 10 6 from obC rfl rfl rfl rfl) rfl rfl ?_
  exact wp_vret eX6_init_228 ⟨rfl, rfl⟩

theorem mok_start (L : Nat) (xs : Nat → Int32) : MOK (hm28 L xs) := by
  refine ⟨Nat.le_of_eq rfl, rfl, fun q hq => ?_⟩
  simp only [mo_tab, List.mem_cons, List.not_mem_nil, or_false] at hq
  rcases hq with rfl | rfl | rfl | rfl | rfl | rfl | rfl | rfl | rfl | rfl | rfl | rfl | rfl | rfl | rfl | rfl | rfl | rfl | rfl | rfl | rfl | rfl | rfl | rfl | rfl | rfl | rfl
  · exact ⟨rfl, rfl, rfl⟩
  · exact ⟨rfl, rfl, rfl⟩
  · exact ⟨rfl, rfl, rfl⟩
  · exact ⟨rfl, rfl, rfl⟩
  · exact ⟨rfl, rfl, rfl⟩
  · exact ⟨rfl, rfl, rfl⟩
  · exact ⟨rfl, rfl, rfl⟩
  · exact ⟨rfl, rfl, rfl⟩
  · exact ⟨rfl, rfl, rfl⟩
  · exact ⟨rfl, rfl, rfl⟩
  · exact ⟨rfl, rfl, rfl⟩
  · exact ⟨rfl, rfl, rfl⟩
  · exact ⟨rfl, rfl, rfl⟩
  · exact ⟨rfl, rfl, rfl⟩
  · exact ⟨rfl, rfl, rfl⟩
  · exact ⟨rfl, rfl, rfl⟩
  · exact ⟨rfl, rfl, rfl⟩
  · exact ⟨rfl, rfl, rfl⟩
  · exact ⟨rfl, rfl, rfl⟩
  · exact ⟨rfl, rfl, rfl⟩
  · exact ⟨rfl, rfl, rfl⟩
  · exact ⟨rfl, rfl, rfl⟩
  · exact ⟨rfl, rfl, rfl⟩
  · exact ⟨rfl, rfl, rfl⟩
  · exact ⟨rfl, rfl, rfl⟩
  · exact ⟨rfl, rfl, rfl⟩
  · exact ⟨rfl, rfl, rfl⟩

theorem iv_start (L : Nat) (xs : Nat → Int32) : IV L xs (am_i (hm28 L xs)) (hm28 L xs) := by
  have z : ∀ k, ¬ (k = 2) → am_i (hm28 L xs) 10 k = 0 := fun k e => if_neg (fun y => e y.2)
  have eS : cS (am_i (hm28 L xs)) = 0 := by unfold cS; rw [z 11 (by decide)]; rfl
  have eT : cT (am_i (hm28 L xs)) = 0 := by unfold cT; rw [z 12 (by decide)]; rfl
  have eC : cC (am_i (hm28 L xs)) = 0 := by unfold cC; rw [z 29 (by decide)]; rfl
  have eR : cR (am_i (hm28 L xs)) = 0 := by unfold cR; rw [z 5 (by decide)]; rfl
  have ob : ∀ {a ci : Nat}, Nat.blt 0 a = true → Nat.blt a 38 = true → am_k (hm28 L xs) a = ci → Ob (hm28 L xs) a ci := fun h1 h2 h3 => obC h1 (n := 38) rfl h2 h3
  refine ⟨mok_start L xs, ⟨⟨ob rfl rfl rfl, ⟨rfl, ob rfl rfl rfl, rfl⟩, ⟨rfl, ob rfl rfl rfl, rfl⟩, ⟨rfl, ob rfl rfl rfl, rfl⟩, ⟨rfl, ob rfl rfl rfl, rfl⟩, ⟨rfl, ob rfl rfl rfl, rfl⟩, ⟨rfl, ob rfl rfl rfl⟩, ⟨rfl, ob rfl rfl rfl, rfl⟩, rfl, ob rfl rfl rfl, rfl⟩, ⟨rfl, rfl, rfl, rfl, rfl, rfl, rfl, rfl, rfl⟩, fun k hk => ?_, fun k hk => ?_, fun k hk => ?_, fun k hk => ?_, ?_⟩, ?_, ?_, fun _ _ _ => rfl, rfl, rfl, rfl⟩
  · omega
  · omega
  · omega
  · omega
  · exact ⟨fun a b ha => by omega, fun a b ha => by omega, fun a b ha => by omega, fun a b ha => by omega⟩
  · unfold MW
    rw [eS, eT, eC, eR, z 5 (by decide), z 11 (by decide), z 12 (by decide), z 29 (by decide)]
    exact ⟨⟨rfl, by omega⟩, ⟨rfl, by omega⟩, ⟨rfl, by omega⟩, rfl, by omega⟩
  · refine ⟨⟨⟨?_, fun t ht => by omega, fun t ht => by omega⟩, fun t ht => by omega, fun t ht => by omega⟩, fun t ht => by omega, fun t ht => by omega, fun t ht => by omega, fun t ht => by omega, fun t ht => by omega, fun t ht => by omega, fun s _ => rfl, fun s _ => rfl⟩
    rw [z 0 (by decide)]
    exact RG.of (n := 0) (by omega) (by decide)

