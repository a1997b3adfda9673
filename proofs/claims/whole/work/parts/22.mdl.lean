/-! THE REFERENCE: ask -/
def sHv (S : St) (c k v : Nat) : Nat → Int32
  | 0 => 0
  | n + 1 => sHv S c k v n + (if sIsM S c n = 1 ∧ sMk (S 23 n) (nI k) = nI v then 1 else 0)
def sMost (S : St) (c k : Nat) : Nat → Int32
  | 0 => 0
  | v + 1 => if sHv S c k v (cT S) ≤ sMost S c k v then sMost S c k v else sHv S c k v (cT S)
def sAskB (S : St) (c : Nat) : Nat → Int32 × Int32
  | 0 => (-1, 0)
  | k + 1 => if ¬ S 32 (4 * c + k) < 0 then sAskB S c k else if ¬ (sAskB S c k).1 < 0 ∧ ¬ sMost S c k 16 < (sAskB S c k).2 then sAskB S c k else (nI k, sMost S c k 16)

set_option maxRecDepth 4000 in
theorem lX6_ask1 (d : Nat) {h : Hp} (hM : MOK h) (S : St) (hW : MW S) (c : Nat) (hc : c < cC S) (k v : Nat) (b1 l1 m1 : Int32) {Q : Option Value → Hp → Prop} (kx : WP kX6_ask (Res (d + 3)) Q 129 [some (.ref 10), some (.int (nI c)), some (.int b1), some (.int l1), some (.int (nI k)), some (.int m1), some (.int (nI v)), some (.int (sHv S c k v (cT S))), some (.int (nI (cT S)))] [] (am_wi h S)) : ∀ (n t : Nat) (a : Int32), t + n = cT S → (a = sHv S c k v t) → WP kX6_ask (Res (d + 3)) Q 77 [some (.ref 10), some (.int (nI c)), some (.int b1), some (.int l1), some (.int (nI k)), some (.int m1), some (.int (nI v)), some (.int a), some (.int (nI t))] [] (am_wi h S) := by
  intro n
  induction n with
  | zero =>
    intro t a hn ha
    have h5 := hW.1.2
    have h11 := hW.2.1.2
    have h12 := hW.2.2.1.2
    have h29 := hW.2.2.2.2
    refine wp_iload eX6_ask_77 rfl ?_
    refine wp_aload_n eX6_ask_79 rfl ?_
    refine wp_getI (v := S 10 12) eX6_ask_80 (show Ob (am_wi h S) 10 6 from hM.ob) rfl rfl ?_
    refine wp_icmpT eX6_ask_83 (show (S 10 12) ≤ (nI t) from (lp_ge hW.2.2.1.1 (by omega) (by omega))) ?_
    rw [ha, show t = cT S by omega]
    exact kx
  | succ n ih =>
    intro t a hn ha
    have h5 := hW.1.2
    have h11 := hW.2.1.2
    have h12 := hW.2.2.1.2
    have h29 := hW.2.2.2.2
    refine wp_iload eX6_ask_77 rfl ?_
    refine wp_aload_n eX6_ask_79 rfl ?_
    refine wp_getI (v := S 10 12) eX6_ask_80 (show Ob (am_wi h S) 10 6 from hM.ob) rfl rfl ?_
    refine wp_icmpF eX6_ask_83 (show ¬ ((S 10 12) ≤ (nI t)) from (lp_lt hW.2.2.1.1 (by omega) (by omega))) ?_
    refine wp_iload eX6_ask_86 rfl ?_
    refine wp_aload_n eX6_ask_88 rfl ?_
    refine wp_iload_n eX6_ask_89 rfl ?_
    refine wp_iload eX6_ask_90 rfl ?_
    refine wp_virt (rv := (some (.int (sIsM S c t)))) (h' := am_wi h S) (r := [.int a]) eX6_ask_92 [.int (nI c), .int (nI t)] rfl rfl rfl (show Ob (am_wi h S) 10 6 from hM.ob) (rX6_isMeant _ hM _ _ _ (by omega) (by omega)) ?_
    refine wp_if eX6_ask_95 (fun (c_95 : (sIsM S c t) = 0) => ?_) (fun (c_95 : ¬ ((sIsM S c t) = 0)) => ?_)
    · refine wp_iconst (v := 0) eX6_ask_119 rfl ?_
      refine wp_iadd eX6_ask_120 ?_
      refine wp_istore (ls' := [some (.ref 10), some (.int (nI c)), some (.int b1), some (.int l1), some (.int (nI k)), some (.int m1), some (.int (nI v)), some (.int (a + 0)), some (.int (nI t))]) eX6_ask_121 rfl rfl ?_
      refine wp_iinc (v := nI (t + 1)) (ls' := [some (.ref 10), some (.int (nI c)), some (.int b1), some (.int l1), some (.int (nI k)), some (.int m1), some (.int (nI v)), some (.int (a + 0)), some (.int (nI (t + 1)))]) eX6_ask_123 rfl (nI_1 t) rfl ?_
      refine wp_goto eX6_ask_126 ?_
      exact ih (t + 1) _ (by omega) (by rcases sIsM_01 S c t with q | q <;> simp_all [sHv])
    · refine wp_aload_n eX6_ask_98 rfl ?_
      refine wp_getR (v := 23) eX6_ask_99 (show Ob (am_wi h S) 10 6 from hM.ob) rfl hM.r20 ?_
      refine wp_iload eX6_ask_102 rfl ?_
      refine wp_ial (v := S 23 t) (t := t) eX6_ask_104 (show Ar (am_wi h S) 23 7 120 from hM.a23) (by omega) rfl rfl ?_
      refine wp_iload eX6_ask_105 rfl ?_
      refine wp_stat (rv := (some (.int (sMk (S 23 t) (nI k))))) (h' := am_wi h S) (r := [.int a]) eX6_ask_107 [.int (S 23 t), .int (nI k)] rfl rfl rfl rfl (rX6_markOf _ _ _ _) ?_
      refine wp_iload eX6_ask_110 rfl ?_
      refine wp_icmp eX6_ask_112 (fun (c_112 : ¬ (sMk (S 23 t) (nI k)) = (nI v)) => ?_) (fun (c_112 : ¬ (¬ (sMk (S 23 t) (nI k)) = (nI v))) => ?_)
      · refine wp_iconst (v := 0) eX6_ask_119 rfl ?_
        refine wp_iadd eX6_ask_120 ?_
        refine wp_istore (ls' := [some (.ref 10), some (.int (nI c)), some (.int b1), some (.int l1), some (.int (nI k)), some (.int m1), some (.int (nI v)), some (.int (a + 0)), some (.int (nI t))]) eX6_ask_121 rfl rfl ?_
        refine wp_iinc (v := nI (t + 1)) (ls' := [some (.ref 10), some (.int (nI c)), some (.int b1), some (.int l1), some (.int (nI k)), some (.int m1), some (.int (nI v)), some (.int (a + 0)), some (.int (nI (t + 1)))]) eX6_ask_123 rfl (nI_1 t) rfl ?_
        refine wp_goto eX6_ask_126 ?_
        exact ih (t + 1) _ (by omega) (by rcases sIsM_01 S c t with q | q <;> simp_all [sHv])
      · refine wp_iconst (v := 1) eX6_ask_115 rfl ?_
        refine wp_goto eX6_ask_116 ?_
        refine wp_iadd eX6_ask_120 ?_
        refine wp_istore (ls' := [some (.ref 10), some (.int (nI c)), some (.int b1), some (.int l1), some (.int (nI k)), some (.int m1), some (.int (nI v)), some (.int (a + 1)), some (.int (nI t))]) eX6_ask_121 rfl rfl ?_
        refine wp_iinc (v := nI (t + 1)) (ls' := [some (.ref 10), some (.int (nI c)), some (.int b1), some (.int l1), some (.int (nI k)), some (.int m1), some (.int (nI v)), some (.int (a + 1)), some (.int (nI (t + 1)))]) eX6_ask_123 rfl (nI_1 t) rfl ?_
        refine wp_goto eX6_ask_126 ?_
        exact ih (t + 1) _ (by omega) (by rcases sIsM_01 S c t with q | q <;> simp_all [sHv])

set_option maxRecDepth 4000 in
theorem lX6_ask2 (d : Nat) {h : Hp} (hM : MOK h) (S : St) (hW : MW S) (c : Nat) (hc : c < cC S) (k : Nat) (b1 l1 : Int32) {Q : Option Value → Hp → Prop} (kx : ∀ (x7 x8 : Option Value), WP kX6_ask (Res (d + 3)) Q 151 [some (.ref 10), some (.int (nI c)), some (.int b1), some (.int l1), some (.int (nI k)), some (.int (sMost S c k 16)), some (.int (nI 16)), x7, x8] [] (am_wi h S)) : ∀ (n v : Nat) (a : Int32) (x7 : Option Value) (x8 : Option Value), v + n = 16 → (a = sMost S c k v) → WP kX6_ask (Res (d + 3)) Q 64 [some (.ref 10), some (.int (nI c)), some (.int b1), some (.int l1), some (.int (nI k)), some (.int a), some (.int (nI v)), x7, x8] [] (am_wi h S) := by
  intro n
  induction n with
  | zero =>
    intro v a x7 x8 hn ha
    have h5 := hW.1.2
    have h11 := hW.2.1.2
    have h12 := hW.2.2.1.2
    have h29 := hW.2.2.2.2
    refine wp_iload eX6_ask_64 rfl ?_
    refine wp_bipush (v := 16) eX6_ask_66 rfl ?_
    refine wp_icmpT eX6_ask_68 (show 16 ≤ (nI v) from (lp_ge (show (16 : Int32) = nI 16 from rfl) (by omega) (by omega))) ?_
    rw [ha, show v = 16 by omega]
    exact kx _ _
  | succ n ih =>
    intro v a x7 x8 hn ha
    have h5 := hW.1.2
    have h11 := hW.2.1.2
    have h12 := hW.2.2.1.2
    have h29 := hW.2.2.2.2
    refine wp_iload eX6_ask_64 rfl ?_
    refine wp_bipush (v := 16) eX6_ask_66 rfl ?_
    refine wp_icmpF eX6_ask_68 (show ¬ (16 ≤ (nI v)) from (lp_lt (show (16 : Int32) = nI 16 from rfl) (by omega) (by omega))) ?_
    refine wp_iconst (v := 0) eX6_ask_71 rfl ?_
    refine wp_istore (ls' := [some (.ref 10), some (.int (nI c)), some (.int b1), some (.int l1), some (.int (nI k)), some (.int a), some (.int (nI v)), some (.int 0), x8]) eX6_ask_72 rfl rfl ?_
    refine wp_iconst (v := 0) eX6_ask_74 rfl ?_
    refine wp_istore (ls' := [some (.ref 10), some (.int (nI c)), some (.int b1), some (.int l1), some (.int (nI k)), some (.int a), some (.int (nI v)), some (.int 0), some (.int 0)]) eX6_ask_75 rfl rfl ?_
    refine lX6_ask1 d hM S hW c hc k v b1 l1 a ?_ (cT S) 0 _ (by omega) rfl
    refine wp_iload eX6_ask_129 rfl ?_
    refine wp_iload eX6_ask_131 rfl ?_
    refine wp_icmp eX6_ask_133 (fun (c_133 : (sHv S c k v (cT S)) ≤ a) => ?_) (fun (c_133 : ¬ ((sHv S c k v (cT S)) ≤ a)) => ?_)
    · refine wp_iload eX6_ask_141 rfl ?_
      refine wp_istore (ls' := [some (.ref 10), some (.int (nI c)), some (.int b1), some (.int l1), some (.int (nI k)), some (.int a), some (.int (nI v)), some (.int (sHv S c k v (cT S))), some (.int (nI (cT S)))]) eX6_ask_143 rfl rfl ?_
      refine wp_iinc (v := nI (v + 1)) (ls' := [some (.ref 10), some (.int (nI c)), some (.int b1), some (.int l1), some (.int (nI k)), some (.int a), some (.int (nI (v + 1))), some (.int (sHv S c k v (cT S))), some (.int (nI (cT S)))]) eX6_ask_145 rfl (nI_1 v) rfl ?_
      refine wp_goto eX6_ask_148 ?_
      exact ih (v + 1) _ _ _ (by omega) (by simp only [sMost]; rw [← ha]; first | (rw [if_pos c_133]; done) | (rw [if_neg c_133]; done))
    · refine wp_iload eX6_ask_136 rfl ?_
      refine wp_goto eX6_ask_138 ?_
      refine wp_istore (ls' := [some (.ref 10), some (.int (nI c)), some (.int b1), some (.int l1), some (.int (nI k)), some (.int (sHv S c k v (cT S))), some (.int (nI v)), some (.int (sHv S c k v (cT S))), some (.int (nI (cT S)))]) eX6_ask_143 rfl rfl ?_
      refine wp_iinc (v := nI (v + 1)) (ls' := [some (.ref 10), some (.int (nI c)), some (.int b1), some (.int l1), some (.int (nI k)), some (.int (sHv S c k v (cT S))), some (.int (nI (v + 1))), some (.int (sHv S c k v (cT S))), some (.int (nI (cT S)))]) eX6_ask_145 rfl (nI_1 v) rfl ?_
      refine wp_goto eX6_ask_148 ?_
      exact ih (v + 1) _ _ _ (by omega) (by simp only [sMost]; rw [← ha]; first | (rw [if_pos c_133]; done) | (rw [if_neg c_133]; done))

set_option maxRecDepth 4000 in
theorem lX6_ask3 (d : Nat) {h : Hp} (hM : MOK h) (S : St) (hW : MW S) (c : Nat) (hc : c < cC S) : ∀ (n k : Nat) (a : Int32) (b : Int32) (x5 : Option Value) (x6 : Option Value) (x7 : Option Value) (x8 : Option Value), k + n = 4 → (a = (sAskB S c k).1) → (b = (sAskB S c k).2) → WP kX6_ask (Res (d + 3)) (fun r1 h1 => r1 = some (.int ((sAskB S c 4).1)) ∧ h1 = am_wi h S) 35 [some (.ref 10), some (.int (nI c)), some (.int a), some (.int b), some (.int (nI k)), x5, x6, x7, x8] [] (am_wi h S) := by
  intro n
  induction n with
  | zero =>
    intro k a b x5 x6 x7 x8 hn ha hb
    have h5 := hW.1.2
    have h11 := hW.2.1.2
    have h12 := hW.2.2.1.2
    have h29 := hW.2.2.2.2
    refine wp_iload eX6_ask_35 rfl ?_
    refine wp_iconst (v := 4) eX6_ask_37 rfl ?_
    refine wp_icmpT eX6_ask_38 (show 4 ≤ (nI k) from (lp_ge (show (4 : Int32) = nI 4 from rfl) (by omega) (by omega))) ?_
    refine wp_iload_n eX6_ask_176 rfl ?_
    exact wp_iret eX6_ask_177 ⟨congrArg (fun z => some (Value.int z)) (by rw [ha, show k = 4 by omega]), rfl⟩
  | succ n ih =>
    intro k a b x5 x6 x7 x8 hn ha hb
    have h5 := hW.1.2
    have h11 := hW.2.1.2
    have h12 := hW.2.2.1.2
    have h29 := hW.2.2.2.2
    refine wp_iload eX6_ask_35 rfl ?_
    refine wp_iconst (v := 4) eX6_ask_37 rfl ?_
    refine wp_icmpF eX6_ask_38 (show ¬ (4 ≤ (nI k)) from (lp_lt (show (4 : Int32) = nI 4 from rfl) (by omega) (by omega))) ?_
    refine wp_aload_n eX6_ask_41 rfl ?_
    refine wp_getR (v := 32) eX6_ask_42 (show Ob (am_wi h S) 10 6 from hM.ob) rfl hM.r30 ?_
    refine wp_iconst (v := 4) eX6_ask_45 rfl ?_
    refine wp_iload_n eX6_ask_46 rfl ?_
    refine wp_imul eX6_ask_47 ?_
    refine wp_iload eX6_ask_48 rfl ?_
    refine wp_iadd eX6_ask_50 ?_
    refine wp_top (y := nI (4 * c + k)) (nI_4k c k) ?_
    refine wp_ial (v := S 32 (4 * c + k)) (t := 4 * c + k) eX6_ask_51 (show Ar (am_wi h S) 32 7 160 from hM.a32) (by omega) rfl rfl ?_
    refine wp_if eX6_ask_52 (fun (c_52 : (S 32 (4 * c + k)) < 0) => ?_) (fun (c_52 : ¬ ((S 32 (4 * c + k)) < 0)) => ?_)
    · refine wp_iconst (v := 0) eX6_ask_58 rfl ?_
      refine wp_istore (ls' := [some (.ref 10), some (.int (nI c)), some (.int a), some (.int b), some (.int (nI k)), some (.int 0), x6, x7, x8]) eX6_ask_59 rfl rfl ?_
      refine wp_iconst (v := 0) eX6_ask_61 rfl ?_
      refine wp_istore (ls' := [some (.ref 10), some (.int (nI c)), some (.int a), some (.int b), some (.int (nI k)), some (.int 0), some (.int 0), x7, x8]) eX6_ask_62 rfl rfl ?_
      refine lX6_ask2 d hM S hW c hc k a b (fun x7 x8 => ?_) 16 0 _ _ _ (by omega) rfl
      refine wp_iload_n eX6_ask_151 rfl ?_
      refine wp_if eX6_ask_152 (fun (c_152 : a < 0) => ?_) (fun (c_152 : ¬ (a < 0)) => ?_)
      · refine wp_iload eX6_ask_164 rfl ?_
        refine wp_istore_n (ls' := [some (.ref 10), some (.int (nI c)), some (.int (nI k)), some (.int b), some (.int (nI k)), some (.int (sMost S c k 16)), some (.int (nI 16)), x7, x8]) eX6_ask_166 rfl rfl ?_
        refine wp_iload eX6_ask_167 rfl ?_
        refine wp_istore_n (ls' := [some (.ref 10), some (.int (nI c)), some (.int (nI k)), some (.int (sMost S c k 16)), some (.int (nI k)), some (.int (sMost S c k 16)), some (.int (nI 16)), x7, x8]) eX6_ask_169 rfl rfl ?_
        refine wp_iinc (v := nI (k + 1)) (ls' := [some (.ref 10), some (.int (nI c)), some (.int (nI k)), some (.int (sMost S c k 16)), some (.int (nI (k + 1))), some (.int (sMost S c k 16)), some (.int (nI 16)), x7, x8]) eX6_ask_170 rfl (nI_1 k) rfl ?_
        refine wp_goto eX6_ask_173 ?_
        exact ih (k + 1) _ _ _ _ _ _ (by omega) (by simp only [sAskB]; first | (rw [if_pos c_52]; exact ha) | (rw [if_neg (fun z => z c_52), if_neg (fun z => z.1 (by rw [← ha]; exact c_152))]; done) | (rw [if_neg (fun z => z c_52), if_neg (fun z => z.2 (by rw [← hb]; exact c_158))]; done) | (rw [if_neg (fun z => z c_52), if_pos ⟨by rw [← ha]; exact c_152, by rw [← hb]; exact c_158⟩]; exact ha)) (by simp only [sAskB]; first | (rw [if_pos c_52]; exact hb) | (rw [if_neg (fun z => z c_52), if_neg (fun z => z.1 (by rw [← ha]; exact c_152))]; done) | (rw [if_neg (fun z => z c_52), if_neg (fun z => z.2 (by rw [← hb]; exact c_158))]; done) | (rw [if_neg (fun z => z c_52), if_pos ⟨by rw [← ha]; exact c_152, by rw [← hb]; exact c_158⟩]; exact hb))
      · refine wp_iload eX6_ask_155 rfl ?_
        refine wp_iload_n eX6_ask_157 rfl ?_
        refine wp_icmp eX6_ask_158 (fun (c_158 : (sMost S c k 16) < b) => ?_) (fun (c_158 : ¬ ((sMost S c k 16) < b)) => ?_)
        · refine wp_iload eX6_ask_164 rfl ?_
          refine wp_istore_n (ls' := [some (.ref 10), some (.int (nI c)), some (.int (nI k)), some (.int b), some (.int (nI k)), some (.int (sMost S c k 16)), some (.int (nI 16)), x7, x8]) eX6_ask_166 rfl rfl ?_
          refine wp_iload eX6_ask_167 rfl ?_
          refine wp_istore_n (ls' := [some (.ref 10), some (.int (nI c)), some (.int (nI k)), some (.int (sMost S c k 16)), some (.int (nI k)), some (.int (sMost S c k 16)), some (.int (nI 16)), x7, x8]) eX6_ask_169 rfl rfl ?_
          refine wp_iinc (v := nI (k + 1)) (ls' := [some (.ref 10), some (.int (nI c)), some (.int (nI k)), some (.int (sMost S c k 16)), some (.int (nI (k + 1))), some (.int (sMost S c k 16)), some (.int (nI 16)), x7, x8]) eX6_ask_170 rfl (nI_1 k) rfl ?_
          refine wp_goto eX6_ask_173 ?_
          exact ih (k + 1) _ _ _ _ _ _ (by omega) (by simp only [sAskB]; first | (rw [if_pos c_52]; exact ha) | (rw [if_neg (fun z => z c_52), if_neg (fun z => z.1 (by rw [← ha]; exact c_152))]; done) | (rw [if_neg (fun z => z c_52), if_neg (fun z => z.2 (by rw [← hb]; exact c_158))]; done) | (rw [if_neg (fun z => z c_52), if_pos ⟨by rw [← ha]; exact c_152, by rw [← hb]; exact c_158⟩]; exact ha)) (by simp only [sAskB]; first | (rw [if_pos c_52]; exact hb) | (rw [if_neg (fun z => z c_52), if_neg (fun z => z.1 (by rw [← ha]; exact c_152))]; done) | (rw [if_neg (fun z => z c_52), if_neg (fun z => z.2 (by rw [← hb]; exact c_158))]; done) | (rw [if_neg (fun z => z c_52), if_pos ⟨by rw [← ha]; exact c_152, by rw [← hb]; exact c_158⟩]; exact hb))
        · refine wp_goto eX6_ask_161 ?_
          refine wp_iinc (v := nI (k + 1)) (ls' := [some (.ref 10), some (.int (nI c)), some (.int a), some (.int b), some (.int (nI (k + 1))), some (.int (sMost S c k 16)), some (.int (nI 16)), x7, x8]) eX6_ask_170 rfl (nI_1 k) rfl ?_
          refine wp_goto eX6_ask_173 ?_
          exact ih (k + 1) _ _ _ _ _ _ (by omega) (by simp only [sAskB]; first | (rw [if_pos c_52]; exact ha) | (rw [if_neg (fun z => z c_52), if_neg (fun z => z.1 (by rw [← ha]; exact c_152))]; done) | (rw [if_neg (fun z => z c_52), if_neg (fun z => z.2 (by rw [← hb]; exact c_158))]; done) | (rw [if_neg (fun z => z c_52), if_pos ⟨by rw [← ha]; exact c_152, by rw [← hb]; exact c_158⟩]; exact ha)) (by simp only [sAskB]; first | (rw [if_pos c_52]; exact hb) | (rw [if_neg (fun z => z c_52), if_neg (fun z => z.1 (by rw [← ha]; exact c_152))]; done) | (rw [if_neg (fun z => z c_52), if_neg (fun z => z.2 (by rw [← hb]; exact c_158))]; done) | (rw [if_neg (fun z => z c_52), if_pos ⟨by rw [← ha]; exact c_152, by rw [← hb]; exact c_158⟩]; exact hb))
    · refine wp_goto eX6_ask_55 ?_
      refine wp_iinc (v := nI (k + 1)) (ls' := [some (.ref 10), some (.int (nI c)), some (.int a), some (.int b), some (.int (nI (k + 1))), x5, x6, x7, x8]) eX6_ask_170 rfl (nI_1 k) rfl ?_
      refine wp_goto eX6_ask_173 ?_
      exact ih (k + 1) _ _ _ _ _ _ (by omega) (by simp only [sAskB]; first | (rw [if_pos c_52]; exact ha) | (rw [if_neg (fun z => z c_52), if_neg (fun z => z.1 (by rw [← ha]; exact c_152))]; done) | (rw [if_neg (fun z => z c_52), if_neg (fun z => z.2 (by rw [← hb]; exact c_158))]; done) | (rw [if_neg (fun z => z c_52), if_pos ⟨by rw [← ha]; exact c_152, by rw [← hb]; exact c_158⟩]; exact ha)) (by simp only [sAskB]; first | (rw [if_pos c_52]; exact hb) | (rw [if_neg (fun z => z c_52), if_neg (fun z => z.1 (by rw [← ha]; exact c_152))]; done) | (rw [if_neg (fun z => z c_52), if_neg (fun z => z.2 (by rw [← hb]; exact c_158))]; done) | (rw [if_neg (fun z => z c_52), if_pos ⟨by rw [← ha]; exact c_152, by rw [← hb]; exact c_158⟩]; exact hb))

set_option maxRecDepth 4000 in
theorem rX6_ask_yes (d : Nat) {h : Hp} (hM : MOK h) (S : St) (hW : MW S) (c : Nat) (hc : c < cC S) (h34 : S 34 c = 0) (h2 : 2 ≤ sMeans S c (cT S)) : Res (d + 4) nX6_ask [.ref 10, .int (nI c)] (am_wi h S) (some (.int ((sAskB S c 4).1))) (am_wi h S) := by
  have h5 := hW.1.2
  have h11 := hW.2.1.2
  have h12 := hW.2.2.1.2
  have h29 := hW.2.2.2.2
  refine Res_intro (ls := [some (.ref 10), some (.int (nI c)), none, none, none, none, none, none, none]) aX6_ask rfl rfl rfl rfl ?_
  show WP kX6_ask _ _ _ _ _ _
  refine wp_aload_n eX6_ask_0 rfl ?_
  refine wp_iload_n eX6_ask_1 rfl ?_
  refine wp_virt (rv := (some (.int (sIn (nI c) 0 (S 10 29 - 1))))) (h' := am_wi h S) (r := []) eX6_ask_2 [.int (nI c)] rfl rfl rfl (show Ob (am_wi h S) 10 6 from hM.ob) (rX6_isClaim _ hM _ _) ?_
  refine wp_ifF eX6_ask_5 (show ¬ ((sIn (nI c) 0 (S 10 29 - 1)) = 0) from (by rw [sIn_in hW.2.2.2.1 hc (by omega)]; decide)) ?_
  refine wp_aload_n eX6_ask_8 rfl ?_
  refine wp_getR (v := 34) eX6_ask_9 (show Ob (am_wi h S) 10 6 from hM.ob) rfl hM.r32 ?_
  refine wp_iload_n eX6_ask_12 rfl ?_
  refine wp_zal (v := S 34 c) (t := c) eX6_ask_13 (show Ar (am_wi h S) 34 8 40 from hM.a34) (by omega) rfl rfl ?_
  refine wp_ifF eX6_ask_14 (show ¬ (¬ (S 34 c) = 0) from (fun q => q h34)) ?_
  refine wp_aload_n eX6_ask_17 rfl ?_
  refine wp_iload_n eX6_ask_18 rfl ?_
  refine wp_virt (rv := (some (.int (sMeans S c (cT S))))) (h' := am_wi h S) (r := []) eX6_ask_19 [.int (nI c)] rfl rfl rfl (show Ob (am_wi h S) 10 6 from hM.ob) (rX6_means _ hM _ hW _ (by omega)) ?_
  refine wp_iconst (v := 2) eX6_ask_22 rfl ?_
  refine wp_icmpT eX6_ask_23 (show 2 ≤ (sMeans S c (cT S)) from h2) ?_
  refine wp_iconst (v := (-1)) eX6_ask_28 rfl ?_
  refine wp_istore_n (ls' := [some (.ref 10), some (.int (nI c)), some (.int ((-1))), none, none, none, none, none, none]) eX6_ask_29 rfl rfl ?_
  refine wp_iconst (v := 0) eX6_ask_30 rfl ?_
  refine wp_istore_n (ls' := [some (.ref 10), some (.int (nI c)), some (.int ((-1))), some (.int 0), none, none, none, none, none]) eX6_ask_31 rfl rfl ?_
  refine wp_iconst (v := 0) eX6_ask_32 rfl ?_
  refine wp_istore (ls' := [some (.ref 10), some (.int (nI c)), some (.int ((-1))), some (.int 0), some (.int 0), none, none, none, none]) eX6_ask_33 rfl rfl ?_
  exact lX6_ask3 d hM S hW c hc 4 0 _ _ _ _ _ _ (by omega) rfl rfl

set_option maxRecDepth 4000 in
theorem rX6_ask_no (d : Nat) {h : Hp} (hM : MOK h) (S : St) (hW : MW S) (c : Nat) (hc : c < cC S) (hn : ¬ (S 34 c = 0 ∧ 2 ≤ sMeans S c (cT S))) : Res (d + 4) nX6_ask [.ref 10, .int (nI c)] (am_wi h S) (some (.int (-1))) (am_wi h S) := by
  have h5 := hW.1.2
  have h11 := hW.2.1.2
  have h12 := hW.2.2.1.2
  have h29 := hW.2.2.2.2
  refine Res_intro (ls := [some (.ref 10), some (.int (nI c)), none, none, none, none, none, none, none]) aX6_ask rfl rfl rfl rfl ?_
  show WP kX6_ask _ _ _ _ _ _
  refine wp_aload_n eX6_ask_0 rfl ?_
  refine wp_iload_n eX6_ask_1 rfl ?_
  refine wp_virt (rv := (some (.int (sIn (nI c) 0 (S 10 29 - 1))))) (h' := am_wi h S) (r := []) eX6_ask_2 [.int (nI c)] rfl rfl rfl (show Ob (am_wi h S) 10 6 from hM.ob) (rX6_isClaim _ hM _ _) ?_
  refine wp_ifF eX6_ask_5 (show ¬ ((sIn (nI c) 0 (S 10 29 - 1)) = 0) from (by rw [sIn_in hW.2.2.2.1 hc (by omega)]; decide)) ?_
  refine wp_aload_n eX6_ask_8 rfl ?_
  refine wp_getR (v := 34) eX6_ask_9 (show Ob (am_wi h S) 10 6 from hM.ob) rfl hM.r32 ?_
  refine wp_iload_n eX6_ask_12 rfl ?_
  refine wp_zal (v := S 34 c) (t := c) eX6_ask_13 (show Ar (am_wi h S) 34 8 40 from hM.a34) (by omega) rfl rfl ?_
  refine wp_if eX6_ask_14 (fun (c_14 : ¬ (S 34 c) = 0) => ?_) (fun (c_14 : ¬ (¬ (S 34 c) = 0)) => ?_)
  · refine wp_iconst (v := (-1)) eX6_ask_26 rfl ?_
    exact wp_iret eX6_ask_27 ⟨congrArg (fun z => some (Value.int z)) (rfl), rfl⟩
  · refine wp_aload_n eX6_ask_17 rfl ?_
    refine wp_iload_n eX6_ask_18 rfl ?_
    refine wp_virt (rv := (some (.int (sMeans S c (cT S))))) (h' := am_wi h S) (r := []) eX6_ask_19 [.int (nI c)] rfl rfl rfl (show Ob (am_wi h S) 10 6 from hM.ob) (rX6_means _ hM _ hW _ (by omega)) ?_
    refine wp_iconst (v := 2) eX6_ask_22 rfl ?_
    refine wp_icmpF eX6_ask_23 (show ¬ (2 ≤ (sMeans S c (cT S))) from (fun q => hn ⟨Decidable.not_not.mp c_14, q⟩)) ?_
    refine wp_iconst (v := (-1)) eX6_ask_26 rfl ?_
    exact wp_iret eX6_ask_27 ⟨congrArg (fun z => some (Value.int z)) (rfl), rfl⟩

set_option maxRecDepth 4000 in
theorem rX6_ask_out (d : Nat) {h : Hp} (hM : MOK h) (S : St) (hW : MW S) (x : Int32) (hx : ∀ c, c < cC S → ¬ x = nI c) : Res (d + 4) nX6_ask [.ref 10, .int x] (am_wi h S) (some (.int (-1))) (am_wi h S) := by
  have h5 := hW.1.2
  have h11 := hW.2.1.2
  have h12 := hW.2.2.1.2
  have h29 := hW.2.2.2.2
  refine Res_intro (ls := [some (.ref 10), some (.int x), none, none, none, none, none, none, none]) aX6_ask rfl rfl rfl rfl ?_
  show WP kX6_ask _ _ _ _ _ _
  refine wp_aload_n eX6_ask_0 rfl ?_
  refine wp_iload_n eX6_ask_1 rfl ?_
  refine wp_virt (rv := (some (.int (sIn x 0 (S 10 29 - 1))))) (h' := am_wi h S) (r := []) eX6_ask_2 [.int x] rfl rfl rfl (show Ob (am_wi h S) 10 6 from hM.ob) (rX6_isClaim _ hM _ _) ?_
  refine wp_ifT eX6_ask_5 (show (sIn x 0 (S 10 29 - 1)) = 0 from (sIn_out hW.2.2.2.1 hx (by omega))) ?_
  refine wp_iconst (v := (-1)) eX6_ask_26 rfl ?_
  exact wp_iret eX6_ask_27 ⟨congrArg (fun z => some (Value.int z)) (rfl), rfl⟩
