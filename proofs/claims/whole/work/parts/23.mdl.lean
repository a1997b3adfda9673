/-! THE REFERENCE: tidy -/
abbrev T3 : Type := Int32 × Int32 × Int32
def sPk1 (S : St) (t : Nat) (p : T3) : Nat → T3
  | 0 => p
  | s + 1 => if sMis S t (onN S t) - sMis S t s ≤ (sPk1 S t p s).1 ∨ nI s = S 27 t ∨ sFits S t s = 0 then sPk1 S t p s else (sMis S t (onN S t) - sMis S t s, nI t, nI s)
def sPk2 (S : St) : Nat → T3
  | 0 => (0, -1, -1)
  | t + 1 => if ¬ S 26 t = 0 ∨ ¬ S 20 (onN S t) = 0 then sPk2 S t else sPk1 S t (sPk2 S t) (cS S)
def pkT (S : St) : Nat := (sPk2 S (cT S)).2.1.toNatClampNeg
def pkS (S : St) : Nat := (sPk2 S (cT S)).2.2.toNatClampNeg
def sMv (S : St) : St := up2 (up2 S 10 4 (S 10 4 + (S 18 (onN S (pkT S)) + S 18 (pkS S)))) 27 (pkT S) (nI (pkS S))
def sTd : Nat → St → Nat × St
  | 0, S => (0, S)
  | n + 1, S => if (sPk2 S (cT S)).2.1 < 0 then (0, S) else ((sTd n (sMv S)).1 + 1, (sTd n (sMv S)).2)
/-- the shelves of all that are in are shelves -/
def OA (S : St) : Prop := ∀ t, t < cT S → S 26 t = 0 → OW S t
/-- a pick is none, or a thing that is in and a shelf -/
def pkOK (S : St) (p : T3) : Prop := p.2.1 < 0 ∨ ∃ t s, t < cT S ∧ s < cS S ∧ S 26 t = 0 ∧ p.2.1 = nI t ∧ p.2.2 = nI s
theorem sPk1_ok {S : St} {t : Nat} {p : T3} (ht : t < cT S) (h26 : S 26 t = 0) (hp : pkOK S p) : ∀ (n : Nat), n ≤ cS S → pkOK S (sPk1 S t p n) := by
  intro n
  induction n with
  | zero => intro _; exact hp
  | succ n ih =>
    intro hn
    unfold sPk1
    split
    · exact ih (by omega)
    · exact Or.inr ⟨t, n, ht, by omega, h26, rfl, rfl⟩
theorem sPk2_ok {S : St} : ∀ (n : Nat), n ≤ cT S → pkOK S (sPk2 S n) := by
  intro n
  induction n with
  | zero => intro _; exact Or.inl (show (-1 : Int32) < 0 by decide)
  | succ n ih =>
    intro hn
    unfold sPk2
    split
    · exact ih (by omega)
    · rename_i q
      have q1 : S 26 n = 0 := Decidable.not_not.mp (fun z => q (Or.inl z))
      exact sPk1_ok (by omega) q1 (ih (by omega)) _ (Nat.le_refl _)
theorem sPk_get {S : St} (hW : MW S) (h : ¬ (sPk2 S (cT S)).2.1 < 0) : pkT S < cT S ∧ pkS S < cS S ∧ S 26 (pkT S) = 0 ∧ (sPk2 S (cT S)).2.1 = nI (pkT S) ∧ (sPk2 S (cT S)).2.2 = nI (pkS S) := by
  rcases sPk2_ok (S := S) (cT S) (Nat.le_refl _) with z | ⟨t, s, h1, h2, h3, h4, h5⟩
  · exact absurd z h
  · have e1 : pkT S = t := by unfold pkT; rw [h4]; exact nI_clamp (by have := hW.2.2.1.2; omega)
    have e2 : pkS S = s := by unfold pkS; rw [h5]; exact nI_clamp (by have := hW.2.1.2; omega)
    rw [e1, e2]
    exact ⟨h1, h2, h3, h4, h5⟩
theorem sMv_OA {S : St} (hW : MW S) (hO : OA S) (h : ¬ (sPk2 S (cT S)).2.1 < 0) : OA (sMv S) := by
  obtain ⟨h1, h2, h3, h4, h5⟩ := sPk_get hW h
  intro t ht h26
  have ht' : t < cT S := ht
  have h26' : S 26 t = 0 := h26
  by_cases e : t = pkT S
  · subst e
    have e1 : sMv S 27 (pkT S) = nI (pkS S) := by simp [sMv, up2]
    have e2 : onN (sMv S) (pkT S) = pkS S := by unfold onN; rw [e1]; exact nI_clamp (by have := hW.2.1.2; omega)
    exact ⟨by rw [e1, e2], by rw [e2]; exact h2⟩
  · have e1 : sMv S 27 t = S 27 t := by simp [sMv, up2, e]
    have e2 : onN (sMv S) t = onN S t := by unfold onN; rw [e1]
    exact ⟨by rw [e1, e2]; exact (hO t ht' h26').1, by rw [e2]; exact (hO t ht' h26').2⟩

set_option maxRecDepth 4000 in
theorem lX6_tidy1 (d : Nat) {h : Hp} (hM : MOK h) (S : St) (hW : MW S) (n1 d1 m1 : Int32) (t : Nat) (ht : t < cT S) (hO : OW S t) (p : T3) {Q : Option Value → Hp → Prop} (kx : ∀ (x9 : Option Value), WP kX6_tidy (Res (d + 3)) Q 168 [some (.ref 10), some (.int n1), some (.int d1), some (.int m1), some (.int (sPk1 S t p (cS S)).1), some (.int (sPk1 S t p (cS S)).2.1), some (.int (sPk1 S t p (cS S)).2.2), some (.int (nI t)), some (.int (nI (cS S))), x9] [] (am_wi h S)) : ∀ (n s : Nat) (a : Int32) (b : Int32) (c : Int32) (x9 : Option Value), s + n = cS S → (a = (sPk1 S t p s).1) → (b = (sPk1 S t p s).2.1) → (c = (sPk1 S t p s).2.2) → WP kX6_tidy (Res (d + 3)) Q 84 [some (.ref 10), some (.int n1), some (.int d1), some (.int m1), some (.int a), some (.int b), some (.int c), some (.int (nI t)), some (.int (nI s)), x9] [] (am_wi h S) := by
  intro n
  induction n with
  | zero =>
    intro s a b c x9 hn ha hb hc
    have h5 := hW.1.2
    have h11 := hW.2.1.2
    have h12 := hW.2.2.1.2
    have h29 := hW.2.2.2.2
    have hO2 := hO.2
    refine wp_iload eX6_tidy_84 rfl ?_
    refine wp_aload_n eX6_tidy_86 rfl ?_
    refine wp_getI (v := S 10 11) eX6_tidy_87 (show Ob (am_wi h S) 10 6 from hM.ob) rfl rfl ?_
    refine wp_icmpT eX6_tidy_90 (show (S 10 11) ≤ (nI s) from (lp_ge hW.2.1.1 (by omega) (by omega))) ?_
    rw [ha, hb, hc, show s = cS S by omega]
    exact kx _
  | succ n ih =>
    intro s a b c x9 hn ha hb hc
    have h5 := hW.1.2
    have h11 := hW.2.1.2
    have h12 := hW.2.2.1.2
    have h29 := hW.2.2.2.2
    have hO2 := hO.2
    refine wp_iload eX6_tidy_84 rfl ?_
    refine wp_aload_n eX6_tidy_86 rfl ?_
    refine wp_getI (v := S 10 11) eX6_tidy_87 (show Ob (am_wi h S) 10 6 from hM.ob) rfl rfl ?_
    refine wp_icmpF eX6_tidy_90 (show ¬ ((S 10 11) ≤ (nI s)) from (lp_lt hW.2.1.1 (by omega) (by omega))) ?_
    refine wp_aload_n eX6_tidy_93 rfl ?_
    refine wp_iload eX6_tidy_94 rfl ?_
    refine wp_aload_n eX6_tidy_96 rfl ?_
    refine wp_getR (v := 27) eX6_tidy_97 (show Ob (am_wi h S) 10 6 from hM.ob) rfl hM.r24 ?_
    refine wp_iload eX6_tidy_100 rfl ?_
    refine wp_ial (v := nI (onN S t)) (t := t) eX6_tidy_102 (show Ar (am_wi h S) 27 7 120 from hM.a27) (by omega) rfl hO.1 ?_
    refine wp_virt (rv := (some (.int (sMis S t (onN S t))))) (h' := am_wi h S) (r := []) eX6_tidy_103 [.int (nI t), .int (nI (onN S t))] rfl rfl rfl (show Ob (am_wi h S) 10 6 from hM.ob) (rX6_misfitOn _ hM _ _ _ (by omega) (by omega)) ?_
    refine wp_aload_n eX6_tidy_106 rfl ?_
    refine wp_iload eX6_tidy_107 rfl ?_
    refine wp_iload eX6_tidy_109 rfl ?_
    refine wp_virt (rv := (some (.int (sMis S t s)))) (h' := am_wi h S) (r := [.int (sMis S t (onN S t))]) eX6_tidy_111 [.int (nI t), .int (nI s)] rfl rfl rfl (show Ob (am_wi h S) 10 6 from hM.ob) (rX6_misfitOn _ hM _ _ _ (by omega) (by omega)) ?_
    refine wp_isub eX6_tidy_114 ?_
    refine wp_istore (ls' := [some (.ref 10), some (.int n1), some (.int d1), some (.int m1), some (.int a), some (.int b), some (.int c), some (.int (nI t)), some (.int (nI s)), some (.int ((sMis S t (onN S t)) - (sMis S t s)))]) eX6_tidy_115 rfl rfl ?_
    refine wp_iload eX6_tidy_117 rfl ?_
    refine wp_iload eX6_tidy_119 rfl ?_
    refine wp_icmp eX6_tidy_121 (fun (c_121 : ((sMis S t (onN S t)) - (sMis S t s)) ≤ a) => ?_) (fun (c_121 : ¬ (((sMis S t (onN S t)) - (sMis S t s)) ≤ a)) => ?_)
    · refine wp_iinc (v := nI (s + 1)) (ls' := [some (.ref 10), some (.int n1), some (.int d1), some (.int m1), some (.int a), some (.int b), some (.int c), some (.int (nI t)), some (.int (nI (s + 1))), some (.int ((sMis S t (onN S t)) - (sMis S t s)))]) eX6_tidy_162 rfl (nI_1 s) rfl ?_
      refine wp_goto eX6_tidy_165 ?_
      exact ih (s + 1) _ _ _ _ (by omega) (by simp only [sPk1]; first | (rw [if_pos (Or.inl (by rw [← ha]; exact c_121))]; exact ha) | (rw [if_pos (Or.inr (Or.inl c_133))]; exact ha) | (rw [if_pos (Or.inr (Or.inr (Decidable.not_not.mp c_144)))]; exact ha) | (rw [if_neg (by rintro (z | z | z); exact c_121 (by rw [ha]; exact z); exact c_133 z; exact c_144 z)]; done)) (by simp only [sPk1]; first | (rw [if_pos (Or.inl (by rw [← ha]; exact c_121))]; exact hb) | (rw [if_pos (Or.inr (Or.inl c_133))]; exact hb) | (rw [if_pos (Or.inr (Or.inr (Decidable.not_not.mp c_144)))]; exact hb) | (rw [if_neg (by rintro (z | z | z); exact c_121 (by rw [ha]; exact z); exact c_133 z; exact c_144 z)]; done)) (by simp only [sPk1]; first | (rw [if_pos (Or.inl (by rw [← ha]; exact c_121))]; exact hc) | (rw [if_pos (Or.inr (Or.inl c_133))]; exact hc) | (rw [if_pos (Or.inr (Or.inr (Decidable.not_not.mp c_144)))]; exact hc) | (rw [if_neg (by rintro (z | z | z); exact c_121 (by rw [ha]; exact z); exact c_133 z; exact c_144 z)]; done))
    · refine wp_iload eX6_tidy_124 rfl ?_
      refine wp_aload_n eX6_tidy_126 rfl ?_
      refine wp_getR (v := 27) eX6_tidy_127 (show Ob (am_wi h S) 10 6 from hM.ob) rfl hM.r24 ?_
      refine wp_iload eX6_tidy_130 rfl ?_
      refine wp_ial (v := S 27 t) (t := t) eX6_tidy_132 (show Ar (am_wi h S) 27 7 120 from hM.a27) (by omega) rfl rfl ?_
      refine wp_icmp eX6_tidy_133 (fun (c_133 : (nI s) = (S 27 t)) => ?_) (fun (c_133 : ¬ ((nI s) = (S 27 t))) => ?_)
      · refine wp_iinc (v := nI (s + 1)) (ls' := [some (.ref 10), some (.int n1), some (.int d1), some (.int m1), some (.int a), some (.int b), some (.int c), some (.int (nI t)), some (.int (nI (s + 1))), some (.int ((sMis S t (onN S t)) - (sMis S t s)))]) eX6_tidy_162 rfl (nI_1 s) rfl ?_
        refine wp_goto eX6_tidy_165 ?_
        exact ih (s + 1) _ _ _ _ (by omega) (by simp only [sPk1]; first | (rw [if_pos (Or.inl (by rw [← ha]; exact c_121))]; exact ha) | (rw [if_pos (Or.inr (Or.inl c_133))]; exact ha) | (rw [if_pos (Or.inr (Or.inr (Decidable.not_not.mp c_144)))]; exact ha) | (rw [if_neg (by rintro (z | z | z); exact c_121 (by rw [ha]; exact z); exact c_133 z; exact c_144 z)]; done)) (by simp only [sPk1]; first | (rw [if_pos (Or.inl (by rw [← ha]; exact c_121))]; exact hb) | (rw [if_pos (Or.inr (Or.inl c_133))]; exact hb) | (rw [if_pos (Or.inr (Or.inr (Decidable.not_not.mp c_144)))]; exact hb) | (rw [if_neg (by rintro (z | z | z); exact c_121 (by rw [ha]; exact z); exact c_133 z; exact c_144 z)]; done)) (by simp only [sPk1]; first | (rw [if_pos (Or.inl (by rw [← ha]; exact c_121))]; exact hc) | (rw [if_pos (Or.inr (Or.inl c_133))]; exact hc) | (rw [if_pos (Or.inr (Or.inr (Decidable.not_not.mp c_144)))]; exact hc) | (rw [if_neg (by rintro (z | z | z); exact c_121 (by rw [ha]; exact z); exact c_133 z; exact c_144 z)]; done))
      · refine wp_aload_n eX6_tidy_136 rfl ?_
        refine wp_iload eX6_tidy_137 rfl ?_
        refine wp_iload eX6_tidy_139 rfl ?_
        refine wp_virt (rv := (some (.int (sFits S t s)))) (h' := am_wi h S) (r := []) eX6_tidy_141 [.int (nI t), .int (nI s)] rfl rfl rfl (show Ob (am_wi h S) 10 6 from hM.ob) (rX6_fits _ hM _ hW _ _ (by omega) (by omega)) ?_
        refine wp_if eX6_tidy_144 (fun (c_144 : ¬ (sFits S t s) = 0) => ?_) (fun (c_144 : ¬ (¬ (sFits S t s) = 0)) => ?_)
        · refine wp_iload eX6_tidy_150 rfl ?_
          refine wp_istore (ls' := [some (.ref 10), some (.int n1), some (.int d1), some (.int m1), some (.int ((sMis S t (onN S t)) - (sMis S t s))), some (.int b), some (.int c), some (.int (nI t)), some (.int (nI s)), some (.int ((sMis S t (onN S t)) - (sMis S t s)))]) eX6_tidy_152 rfl rfl ?_
          refine wp_iload eX6_tidy_154 rfl ?_
          refine wp_istore (ls' := [some (.ref 10), some (.int n1), some (.int d1), some (.int m1), some (.int ((sMis S t (onN S t)) - (sMis S t s))), some (.int (nI t)), some (.int c), some (.int (nI t)), some (.int (nI s)), some (.int ((sMis S t (onN S t)) - (sMis S t s)))]) eX6_tidy_156 rfl rfl ?_
          refine wp_iload eX6_tidy_158 rfl ?_
          refine wp_istore (ls' := [some (.ref 10), some (.int n1), some (.int d1), some (.int m1), some (.int ((sMis S t (onN S t)) - (sMis S t s))), some (.int (nI t)), some (.int (nI s)), some (.int (nI t)), some (.int (nI s)), some (.int ((sMis S t (onN S t)) - (sMis S t s)))]) eX6_tidy_160 rfl rfl ?_
          refine wp_iinc (v := nI (s + 1)) (ls' := [some (.ref 10), some (.int n1), some (.int d1), some (.int m1), some (.int ((sMis S t (onN S t)) - (sMis S t s))), some (.int (nI t)), some (.int (nI s)), some (.int (nI t)), some (.int (nI (s + 1))), some (.int ((sMis S t (onN S t)) - (sMis S t s)))]) eX6_tidy_162 rfl (nI_1 s) rfl ?_
          refine wp_goto eX6_tidy_165 ?_
          exact ih (s + 1) _ _ _ _ (by omega) (by simp only [sPk1]; first | (rw [if_pos (Or.inl (by rw [← ha]; exact c_121))]; exact ha) | (rw [if_pos (Or.inr (Or.inl c_133))]; exact ha) | (rw [if_pos (Or.inr (Or.inr (Decidable.not_not.mp c_144)))]; exact ha) | (rw [if_neg (by rintro (z | z | z); exact c_121 (by rw [ha]; exact z); exact c_133 z; exact c_144 z)]; done)) (by simp only [sPk1]; first | (rw [if_pos (Or.inl (by rw [← ha]; exact c_121))]; exact hb) | (rw [if_pos (Or.inr (Or.inl c_133))]; exact hb) | (rw [if_pos (Or.inr (Or.inr (Decidable.not_not.mp c_144)))]; exact hb) | (rw [if_neg (by rintro (z | z | z); exact c_121 (by rw [ha]; exact z); exact c_133 z; exact c_144 z)]; done)) (by simp only [sPk1]; first | (rw [if_pos (Or.inl (by rw [← ha]; exact c_121))]; exact hc) | (rw [if_pos (Or.inr (Or.inl c_133))]; exact hc) | (rw [if_pos (Or.inr (Or.inr (Decidable.not_not.mp c_144)))]; exact hc) | (rw [if_neg (by rintro (z | z | z); exact c_121 (by rw [ha]; exact z); exact c_133 z; exact c_144 z)]; done))
        · refine wp_goto eX6_tidy_147 ?_
          refine wp_iinc (v := nI (s + 1)) (ls' := [some (.ref 10), some (.int n1), some (.int d1), some (.int m1), some (.int a), some (.int b), some (.int c), some (.int (nI t)), some (.int (nI (s + 1))), some (.int ((sMis S t (onN S t)) - (sMis S t s)))]) eX6_tidy_162 rfl (nI_1 s) rfl ?_
          refine wp_goto eX6_tidy_165 ?_
          exact ih (s + 1) _ _ _ _ (by omega) (by simp only [sPk1]; first | (rw [if_pos (Or.inl (by rw [← ha]; exact c_121))]; exact ha) | (rw [if_pos (Or.inr (Or.inl c_133))]; exact ha) | (rw [if_pos (Or.inr (Or.inr (Decidable.not_not.mp c_144)))]; exact ha) | (rw [if_neg (by rintro (z | z | z); exact c_121 (by rw [ha]; exact z); exact c_133 z; exact c_144 z)]; done)) (by simp only [sPk1]; first | (rw [if_pos (Or.inl (by rw [← ha]; exact c_121))]; exact hb) | (rw [if_pos (Or.inr (Or.inl c_133))]; exact hb) | (rw [if_pos (Or.inr (Or.inr (Decidable.not_not.mp c_144)))]; exact hb) | (rw [if_neg (by rintro (z | z | z); exact c_121 (by rw [ha]; exact z); exact c_133 z; exact c_144 z)]; done)) (by simp only [sPk1]; first | (rw [if_pos (Or.inl (by rw [← ha]; exact c_121))]; exact hc) | (rw [if_pos (Or.inr (Or.inl c_133))]; exact hc) | (rw [if_pos (Or.inr (Or.inr (Decidable.not_not.mp c_144)))]; exact hc) | (rw [if_neg (by rintro (z | z | z); exact c_121 (by rw [ha]; exact z); exact c_133 z; exact c_144 z)]; done))

set_option maxRecDepth 4000 in
theorem lX6_tidy2 (d : Nat) {h : Hp} (hM : MOK h) (S : St) (hW : MW S) (hA : OA S) (n1 d1 m1 : Int32) {Q : Option Value → Hp → Prop} (kx : ∀ (x8 x9 : Option Value), WP kX6_tidy (Res (d + 3)) Q 174 [some (.ref 10), some (.int n1), some (.int d1), some (.int m1), some (.int (sPk2 S (cT S)).1), some (.int (sPk2 S (cT S)).2.1), some (.int (sPk2 S (cT S)).2.2), some (.int (nI (cT S))), x8, x9] [] (am_wi h S)) : ∀ (n t : Nat) (a : Int32) (b : Int32) (c : Int32) (x8 : Option Value) (x9 : Option Value), t + n = cT S → (a = (sPk2 S t).1) → (b = (sPk2 S t).2.1) → (c = (sPk2 S t).2.2) → WP kX6_tidy (Res (d + 3)) Q 44 [some (.ref 10), some (.int n1), some (.int d1), some (.int m1), some (.int a), some (.int b), some (.int c), some (.int (nI t)), x8, x9] [] (am_wi h S) := by
  intro n
  induction n with
  | zero =>
    intro t a b c x8 x9 hn ha hb hc
    have h5 := hW.1.2
    have h11 := hW.2.1.2
    have h12 := hW.2.2.1.2
    have h29 := hW.2.2.2.2
    refine wp_iload eX6_tidy_44 rfl ?_
    refine wp_aload_n eX6_tidy_46 rfl ?_
    refine wp_getI (v := S 10 12) eX6_tidy_47 (show Ob (am_wi h S) 10 6 from hM.ob) rfl rfl ?_
    refine wp_icmpT eX6_tidy_50 (show (S 10 12) ≤ (nI t) from (lp_ge hW.2.2.1.1 (by omega) (by omega))) ?_
    rw [ha, hb, hc, show t = cT S by omega]
    exact kx _ _
  | succ n ih =>
    intro t a b c x8 x9 hn ha hb hc
    have h5 := hW.1.2
    have h11 := hW.2.1.2
    have h12 := hW.2.2.1.2
    have h29 := hW.2.2.2.2
    refine wp_iload eX6_tidy_44 rfl ?_
    refine wp_aload_n eX6_tidy_46 rfl ?_
    refine wp_getI (v := S 10 12) eX6_tidy_47 (show Ob (am_wi h S) 10 6 from hM.ob) rfl rfl ?_
    refine wp_icmpF eX6_tidy_50 (show ¬ ((S 10 12) ≤ (nI t)) from (lp_lt hW.2.2.1.1 (by omega) (by omega))) ?_
    refine wp_aload_n eX6_tidy_53 rfl ?_
    refine wp_getR (v := 26) eX6_tidy_54 (show Ob (am_wi h S) 10 6 from hM.ob) rfl hM.r23 ?_
    refine wp_iload eX6_tidy_57 rfl ?_
    refine wp_ial (v := S 26 t) (t := t) eX6_tidy_59 (show Ar (am_wi h S) 26 7 120 from hM.a26) (by omega) rfl rfl ?_
    refine wp_if eX6_tidy_60 (fun (c_60 : ¬ (S 26 t) = 0) => ?_) (fun (c_60 : ¬ (¬ (S 26 t) = 0)) => ?_)
    · refine wp_iinc (v := nI (t + 1)) (ls' := [some (.ref 10), some (.int n1), some (.int d1), some (.int m1), some (.int a), some (.int b), some (.int c), some (.int (nI (t + 1))), x8, x9]) eX6_tidy_168 rfl (nI_1 t) rfl ?_
      refine wp_goto eX6_tidy_171 ?_
      exact ih (t + 1) _ _ _ _ _ (by omega) (by simp only [sPk2]; first | (rw [if_pos (Or.inl c_60)]; exact ha) | (rw [if_pos (Or.inr c_75)]; exact ha) | (rw [if_neg (by rintro (z | z); exact c_60 z; exact z c_75)]; done)) (by simp only [sPk2]; first | (rw [if_pos (Or.inl c_60)]; exact hb) | (rw [if_pos (Or.inr c_75)]; exact hb) | (rw [if_neg (by rintro (z | z); exact c_60 z; exact z c_75)]; done)) (by simp only [sPk2]; first | (rw [if_pos (Or.inl c_60)]; exact hc) | (rw [if_pos (Or.inr c_75)]; exact hc) | (rw [if_neg (by rintro (z | z); exact c_60 z; exact z c_75)]; done))
    · have hO := hA t (by omega) (Decidable.not_not.mp c_60)
      have hO2 := hO.2
      refine wp_aload_n eX6_tidy_63 rfl ?_
      refine wp_getR (v := 20) eX6_tidy_64 (show Ob (am_wi h S) 10 6 from hM.ob) rfl hM.r17 ?_
      refine wp_aload_n eX6_tidy_67 rfl ?_
      refine wp_getR (v := 27) eX6_tidy_68 (show Ob (am_wi h S) 10 6 from hM.ob) rfl hM.r24 ?_
      refine wp_iload eX6_tidy_71 rfl ?_
      refine wp_ial (v := nI (onN S t)) (t := t) eX6_tidy_73 (show Ar (am_wi h S) 27 7 120 from hM.a27) (by omega) rfl hO.1 ?_
      refine wp_zal (v := S 20 (onN S t)) (t := onN S t) eX6_tidy_74 (show Ar (am_wi h S) 20 8 16 from hM.a20) (by omega) rfl rfl ?_
      refine wp_if eX6_tidy_75 (fun (c_75 : (S 20 (onN S t)) = 0) => ?_) (fun (c_75 : ¬ ((S 20 (onN S t)) = 0)) => ?_)
      · refine wp_iconst (v := 0) eX6_tidy_81 rfl ?_
        refine wp_istore (ls' := [some (.ref 10), some (.int n1), some (.int d1), some (.int m1), some (.int a), some (.int b), some (.int c), some (.int (nI t)), some (.int 0), x9]) eX6_tidy_82 rfl rfl ?_
        refine lX6_tidy1 d hM S hW n1 d1 m1 t (by omega) hO (sPk2 S t) (fun x9 => ?_) (cS S) 0 _ _ _ _ (by omega) ha hb hc
        refine wp_iinc (v := nI (t + 1)) (ls' := [some (.ref 10), some (.int n1), some (.int d1), some (.int m1), some (.int ((sPk1 S t (sPk2 S t) (cS S)).1)), some (.int ((sPk1 S t (sPk2 S t) (cS S)).2.1)), some (.int ((sPk1 S t (sPk2 S t) (cS S)).2.2)), some (.int (nI (t + 1))), some (.int (nI (cS S))), x9]) eX6_tidy_168 rfl (nI_1 t) rfl ?_
        refine wp_goto eX6_tidy_171 ?_
        exact ih (t + 1) _ _ _ _ _ (by omega) (by simp only [sPk2]; first | (rw [if_pos (Or.inl c_60)]; exact ha) | (rw [if_pos (Or.inr c_75)]; exact ha) | (rw [if_neg (by rintro (z | z); exact c_60 z; exact z c_75)]; done)) (by simp only [sPk2]; first | (rw [if_pos (Or.inl c_60)]; exact hb) | (rw [if_pos (Or.inr c_75)]; exact hb) | (rw [if_neg (by rintro (z | z); exact c_60 z; exact z c_75)]; done)) (by simp only [sPk2]; first | (rw [if_pos (Or.inl c_60)]; exact hc) | (rw [if_pos (Or.inr c_75)]; exact hc) | (rw [if_neg (by rintro (z | z); exact c_60 z; exact z c_75)]; done))
      · refine wp_goto eX6_tidy_78 ?_
        refine wp_iinc (v := nI (t + 1)) (ls' := [some (.ref 10), some (.int n1), some (.int d1), some (.int m1), some (.int a), some (.int b), some (.int c), some (.int (nI (t + 1))), x8, x9]) eX6_tidy_168 rfl (nI_1 t) rfl ?_
        refine wp_goto eX6_tidy_171 ?_
        exact ih (t + 1) _ _ _ _ _ (by omega) (by simp only [sPk2]; first | (rw [if_pos (Or.inl c_60)]; exact ha) | (rw [if_pos (Or.inr c_75)]; exact ha) | (rw [if_neg (by rintro (z | z); exact c_60 z; exact z c_75)]; done)) (by simp only [sPk2]; first | (rw [if_pos (Or.inl c_60)]; exact hb) | (rw [if_pos (Or.inr c_75)]; exact hb) | (rw [if_neg (by rintro (z | z); exact c_60 z; exact z c_75)]; done)) (by simp only [sPk2]; first | (rw [if_pos (Or.inl c_60)]; exact hc) | (rw [if_pos (Or.inr c_75)]; exact hc) | (rw [if_neg (by rintro (z | z); exact c_60 z; exact z c_75)]; done))

set_option maxRecDepth 4000 in
theorem lX6_tidy3 (d : Nat) {h : Hp} (hM : MOK h) (N : Nat) (hN : N ≤ 50) : ∀ (n : Nat) (S : St) (k : Nat) (x4 x5 x6 x7 x8 x9 : Option Value), k + n = N → MW S → OA S → WP kX6_tidy (Res (d + 3)) (fun r1 h1 => r1 = some (.int (nI (k + (sTd n S).1))) ∧ h1 = am_wi h (sTd n S).2) 23 [some (.ref 10), some (.int (nI N)), some (.int (nI k)), some (.int 1), x4, x5, x6, x7, x8, x9] [] (am_wi h S) := by
  intro n
  induction n with
  | zero =>
    intro S k x4 x5 x6 x7 x8 x9 hn hW hA
    refine wp_iload_n eX6_tidy_23 rfl ?_
    refine wp_ifF eX6_tidy_24 (show ¬ (1 = 0) from (by decide)) ?_
    refine wp_iload_n eX6_tidy_27 rfl ?_
    refine wp_iload_n eX6_tidy_28 rfl ?_
    refine wp_icmpT eX6_tidy_29 (show (nI N) ≤ (nI k) from (lp_ge (rfl : nI N = nI N) (by omega) (by omega))) ?_
    refine wp_iload_n eX6_tidy_236 rfl ?_
    exact wp_iret eX6_tidy_237 ⟨congrArg (fun z => some (Value.int z)) (by rfl), rfl⟩
  | succ n ih =>
    intro S k x4 x5 x6 x7 x8 x9 hn hW hA
    have h5 := hW.1.2
    have h11 := hW.2.1.2
    have h12 := hW.2.2.1.2
    have h29 := hW.2.2.2.2
    refine wp_iload_n eX6_tidy_23 rfl ?_
    refine wp_ifF eX6_tidy_24 (show ¬ (1 = 0) from (by decide)) ?_
    refine wp_iload_n eX6_tidy_27 rfl ?_
    refine wp_iload_n eX6_tidy_28 rfl ?_
    refine wp_icmpF eX6_tidy_29 (show ¬ ((nI N) ≤ (nI k)) from (lp_lt (rfl : nI N = nI N) (by omega) (by omega))) ?_
    refine wp_iconst (v := 0) eX6_tidy_32 rfl ?_
    refine wp_istore (ls' := [some (.ref 10), some (.int (nI N)), some (.int (nI k)), some (.int 1), some (.int 0), x5, x6, x7, x8, x9]) eX6_tidy_33 rfl rfl ?_
    refine wp_iconst (v := (-1)) eX6_tidy_35 rfl ?_
    refine wp_istore (ls' := [some (.ref 10), some (.int (nI N)), some (.int (nI k)), some (.int 1), some (.int 0), some (.int ((-1))), x6, x7, x8, x9]) eX6_tidy_36 rfl rfl ?_
    refine wp_iconst (v := (-1)) eX6_tidy_38 rfl ?_
    refine wp_istore (ls' := [some (.ref 10), some (.int (nI N)), some (.int (nI k)), some (.int 1), some (.int 0), some (.int ((-1))), some (.int ((-1))), x7, x8, x9]) eX6_tidy_39 rfl rfl ?_
    refine wp_iconst (v := 0) eX6_tidy_41 rfl ?_
    refine wp_istore (ls' := [some (.ref 10), some (.int (nI N)), some (.int (nI k)), some (.int 1), some (.int 0), some (.int ((-1))), some (.int ((-1))), some (.int 0), x8, x9]) eX6_tidy_42 rfl rfl ?_
    refine lX6_tidy2 d hM S hW hA (nI N) (nI k) 1 (fun x8 x9 => ?_) (cT S) 0 _ _ _ _ _ (by omega) rfl rfl rfl
    refine wp_iload eX6_tidy_174 rfl ?_
    refine wp_if eX6_tidy_176 (fun (c_176 : ((sPk2 S (cT S)).2.1) < 0) => ?_) (fun (c_176 : ¬ (((sPk2 S (cT S)).2.1) < 0)) => ?_)
    · refine wp_iconst (v := 0) eX6_tidy_183 rfl ?_
      refine wp_istore_n (ls' := [some (.ref 10), some (.int (nI N)), some (.int (nI k)), some (.int 0), some (.int ((sPk2 S (cT S)).1)), some (.int ((sPk2 S (cT S)).2.1)), some (.int ((sPk2 S (cT S)).2.2)), some (.int (nI (cT S))), x8, x9]) eX6_tidy_184 rfl rfl ?_
      refine wp_iload_n eX6_tidy_185 rfl ?_
      refine wp_ifF eX6_tidy_186 (show ¬ (¬ 0 = 0) from (by decide)) ?_
      refine wp_goto eX6_tidy_189 ?_
      refine wp_iload_n eX6_tidy_23 rfl ?_
      refine wp_ifT eX6_tidy_24 (show 0 = 0 from (by decide)) ?_
      refine wp_iload_n eX6_tidy_236 rfl ?_
      exact wp_iret eX6_tidy_237 ⟨congrArg (fun z => some (Value.int z)) (by simp only [sTd, c_176, ↓reduceIte]; rfl), by simp only [sTd, c_176, ↓reduceIte]⟩
    · refine wp_iconst (v := 1) eX6_tidy_179 rfl ?_
      refine wp_goto eX6_tidy_180 ?_
      refine wp_istore_n (ls' := [some (.ref 10), some (.int (nI N)), some (.int (nI k)), some (.int 1), some (.int ((sPk2 S (cT S)).1)), some (.int ((sPk2 S (cT S)).2.1)), some (.int ((sPk2 S (cT S)).2.2)), some (.int (nI (cT S))), x8, x9]) eX6_tidy_184 rfl rfl ?_
      refine wp_iload_n eX6_tidy_185 rfl ?_
      refine wp_ifT eX6_tidy_186 (show ¬ 1 = 0 from (by decide)) ?_
      obtain ⟨p1, p2, p3, p4, p5⟩ := sPk_get hW c_176
      have hO := hA (pkT S) p1 p3
      have hO2 := hO.2
      rw [p4]
      rw [p5]
      refine wp_aload_n eX6_tidy_192 rfl ?_
      refine wp_dup eX6_tidy_193 rfl ?_
      refine wp_getI (v := S 10 4) eX6_tidy_194 (show Ob (am_wi h S) 10 6 from hM.ob) rfl rfl ?_
      refine wp_aload_n eX6_tidy_197 rfl ?_
      refine wp_getR (v := 18) eX6_tidy_198 (show Ob (am_wi h S) 10 6 from hM.ob) rfl hM.r15 ?_
      refine wp_aload_n eX6_tidy_201 rfl ?_
      refine wp_getR (v := 27) eX6_tidy_202 (show Ob (am_wi h S) 10 6 from hM.ob) rfl hM.r24 ?_
      refine wp_iload eX6_tidy_205 rfl ?_
      refine wp_ial (v := nI (onN S (pkT S))) (t := pkT S) eX6_tidy_207 (show Ar (am_wi h S) 27 7 120 from hM.a27) (by omega) rfl hO.1 ?_
      refine wp_ial (v := S 18 ((onN S (pkT S)))) (t := (onN S (pkT S))) eX6_tidy_208 (show Ar (am_wi h S) 18 7 16 from hM.a18) (by omega) rfl rfl ?_
      refine wp_aload_n eX6_tidy_209 rfl ?_
      refine wp_getR (v := 18) eX6_tidy_210 (show Ob (am_wi h S) 10 6 from hM.ob) rfl hM.r15 ?_
      refine wp_iload eX6_tidy_213 rfl ?_
      refine wp_ial (v := S 18 (pkS S)) (t := pkS S) eX6_tidy_215 (show Ar (am_wi h S) 18 7 16 from hM.a18) (by omega) rfl rfl ?_
      refine wp_iadd eX6_tidy_216 ?_
      refine wp_iadd eX6_tidy_217 ?_
      refine wp_putI (h' := am_wi h (up2 S 10 4 ((S 10 4) + ((S 18 ((onN S (pkT S)))) + (S 18 (pkS S)))))) eX6_tidy_218 (show Ob (am_wi h S) 10 6 from hM.ob) rfl (am_wi_set _ _ _ _ _ rfl rfl) ?_
      refine wp_aload_n eX6_tidy_221 rfl ?_
      refine wp_getR (v := 27) eX6_tidy_222 (show Ob (am_wi h (up2 S 10 4 ((S 10 4) + ((S 18 ((onN S (pkT S)))) + (S 18 (pkS S)))))) 10 6 from hM.ob) rfl hM.r24 ?_
      refine wp_iload eX6_tidy_225 rfl ?_
      refine wp_iload eX6_tidy_227 rfl ?_
      refine wp_ias (t := pkT S) (h' := am_wi h (up2 (up2 S 10 4 ((S 10 4) + ((S 18 ((onN S (pkT S)))) + (S 18 (pkS S))))) 27 (pkT S) (nI (pkS S)))) eX6_tidy_229 (show Ar (am_wi h (up2 S 10 4 ((S 10 4) + ((S 18 ((onN S (pkT S)))) + (S 18 (pkS S)))))) 27 7 120 from hM.a27) (by omega) rfl (am_wi_set _ _ _ _ _ rfl rfl) ?_
      refine wp_iinc (v := nI (k + 1)) (ls' := [some (.ref 10), some (.int (nI N)), some (.int (nI (k + 1))), some (.int 1), some (.int ((sPk2 S (cT S)).1)), some (.int (nI (pkT S))), some (.int (nI (pkS S))), some (.int (nI (cT S))), x8, x9]) eX6_tidy_230 rfl (nI_1 k) rfl ?_
      refine wp_goto eX6_tidy_233 ?_
      simp only [sTd, c_176, ↓reduceIte]
      rw [show k + ((sTd n (sMv S)).1 + 1) = k + 1 + (sTd n (sMv S)).1 by omega]
      exact ih (sMv S) (k + 1) _ _ _ _ _ _ (by omega) hW (sMv_OA hW hA c_176)

set_option maxRecDepth 4000 in
theorem rX6_tidy_ok (d : Nat) {h : Hp} (hM : MOK h) (S : St) (hW : MW S) (hA : OA S) (n : Nat) (hn : n ≤ 50) (hop : sOpen S = 0) : Res (d + 4) nX6_tidy [.ref 10, .int (nI n)] (am_wi h S) (some (.int (nI (sTd n S).1))) (am_wi h ((sTd n S).2)) := by
  have h5 := hW.1.2
  have h11 := hW.2.1.2
  have h12 := hW.2.2.1.2
  have h29 := hW.2.2.2.2
  refine Res_intro (ls := [some (.ref 10), some (.int (nI n)), none, none, none, none, none, none, none, none]) aX6_tidy rfl rfl rfl rfl ?_
  show WP kX6_tidy _ _ _ _ _ _
  refine wp_iload_n eX6_tidy_0 rfl ?_
  refine wp_iconst (v := 0) eX6_tidy_1 rfl ?_
  refine wp_bipush (v := 50) eX6_tidy_2 rfl ?_
  refine wp_stat (rv := (some (.int (sIn (nI n) 0 50)))) (h' := am_wi h S) (r := []) eX6_tidy_4 [.int (nI n), .int 0, .int 50] rfl rfl rfl rfl (rX6_in _ _ _ _ _) ?_
  refine wp_ifF eX6_tidy_7 (show ¬ ((sIn (nI n) 0 50) = 0) from (by rw [show sIn (nI n) 0 50 = 1 from sIn_in (x := 51) (n := 51) rfl (by omega) (by omega)]; decide)) ?_
  refine wp_aload_n eX6_tidy_10 rfl ?_
  refine wp_virt (rv := (some (.int (sOpen S)))) (h' := am_wi h S) (r := []) eX6_tidy_11 [] rfl rfl rfl (show Ob (am_wi h S) 10 6 from hM.ob) (rX6_isOpen _ hM _) ?_
  refine wp_ifT eX6_tidy_14 (show (sOpen S) = 0 from hop) ?_
  refine wp_iconst (v := 0) eX6_tidy_19 rfl ?_
  refine wp_istore_n (ls' := [some (.ref 10), some (.int (nI n)), some (.int 0), none, none, none, none, none, none, none]) eX6_tidy_20 rfl rfl ?_
  refine wp_iconst (v := 1) eX6_tidy_21 rfl ?_
  refine wp_istore_n (ls' := [some (.ref 10), some (.int (nI n)), some (.int 0), some (.int 1), none, none, none, none, none, none]) eX6_tidy_22 rfl rfl ?_
  have q := lX6_tidy3 d hM n hn n S 0 none none none none none none (by omega) hW hA
  rw [Nat.zero_add] at q
  exact q

set_option maxRecDepth 4000 in
theorem rX6_tidy_no (d : Nat) {h : Hp} (hM : MOK h) (S : St) (hW : MW S) (x : Int32) (hn : ¬ (sIn x 0 50 = 1 ∧ sOpen S = 0)) : Res (d + 4) nX6_tidy [.ref 10, .int x] (am_wi h S) (some (.int (-1))) (am_wi h S) := by
  have h5 := hW.1.2
  have h11 := hW.2.1.2
  have h12 := hW.2.2.1.2
  have h29 := hW.2.2.2.2
  have z0 := sIn_01 x 0 50
  refine Res_intro (ls := [some (.ref 10), some (.int x), none, none, none, none, none, none, none, none]) aX6_tidy rfl rfl rfl rfl ?_
  show WP kX6_tidy _ _ _ _ _ _
  refine wp_iload_n eX6_tidy_0 rfl ?_
  refine wp_iconst (v := 0) eX6_tidy_1 rfl ?_
  refine wp_bipush (v := 50) eX6_tidy_2 rfl ?_
  refine wp_stat (rv := (some (.int (sIn x 0 50)))) (h' := am_wi h S) (r := []) eX6_tidy_4 [.int x, .int 0, .int 50] rfl rfl rfl rfl (rX6_in _ _ _ _ _) ?_
  refine wp_if eX6_tidy_7 (fun (c_7 : (sIn x 0 50) = 0) => ?_) (fun (c_7 : ¬ ((sIn x 0 50) = 0)) => ?_)
  · refine wp_iconst (v := (-1)) eX6_tidy_17 rfl ?_
    exact wp_iret eX6_tidy_18 ⟨congrArg (fun z => some (Value.int z)) (rfl), rfl⟩
  · refine wp_aload_n eX6_tidy_10 rfl ?_
    refine wp_virt (rv := (some (.int (sOpen S)))) (h' := am_wi h S) (r := []) eX6_tidy_11 [] rfl rfl rfl (show Ob (am_wi h S) 10 6 from hM.ob) (rX6_isOpen _ hM _) ?_
    refine wp_ifF eX6_tidy_14 (show ¬ ((sOpen S) = 0) from (fun q => hn ⟨by simp_all, q⟩)) ?_
    refine wp_iconst (v := (-1)) eX6_tidy_17 rfl ?_
    exact wp_iret eX6_tidy_18 ⟨congrArg (fun z => some (Value.int z)) (rfl), rfl⟩
