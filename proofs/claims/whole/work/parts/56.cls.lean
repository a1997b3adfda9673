/-! THE CLASS: least -/
set_option maxRecDepth 4000 in
theorem lX5_le2 (d : Nat) {S : St} (hW : MW S) (hL : LR S) (hA : OA S) (hV : ∃ f, VlK (sPb S) f (pbM (sPb S))) (h0 : Hp) (Q : Option Value → Hp → Prop) (hm : sMany S (cT S) ≤ 5) (rest : Int32) (hq : ∀ (h1 : Hp) (v : Nat), Scr h0 h1 → IsL (sPb S) v → Q (some (.int (rest + nI v))) h1) : ∀ (n s : Nat) (h : Hp) (A : Nat → Nat) (x3 : Option Value), s + n = cS S → Scr h0 h → ArI S h → DpI (sPb S) s A → (∀ y, y < 2 ^ sMany S (cT S) → am_i h 9 y = nI (A y)) → WP kX5_least (Res (d + 4)) Q 82 [some (.ref 1), some (.int rest), some (.int (nI s)), x3] [] h := by
  intro n
  induction n with
  | zero =>
    intro s h A x3 hn hs hI hD h9
    have hR := hI.1
    have hC := hR.1
    have h5 := hW.1.2
    have h11 := hW.2.1.2
    have h12 := hW.2.2.1.2
    have h29 := hW.2.2.2.2
    refine wp_iload_n eX5_least_82 rfl ?_
    refine wp_aload_n eX5_least_83 rfl ?_
    refine wp_getI (v := S 10 11) eX5_least_84 (show Ob h 1 5 from hC.ob) rfl hR.c1 ?_
    refine wp_icmpT eX5_least_87 (show (S 10 11) ≤ (nI s) from (lp_ge hW.2.1.1 (by omega) (by omega))) ?_
    refine wp_iload_n eX5_least_126 rfl ?_
    refine wp_aload_n eX5_least_127 rfl ?_
    refine wp_getR (v := 7) eX5_least_128 (show Ob h 1 5 from hC.ob) rfl hC.r9 ?_
    refine wp_virt (rv := (some (.int (nI (A (2 ^ sMany S (cT S) - 1)))))) (h' := h) (r := [.int rest]) eX5_least_131 [] rfl rfl rfl (show Ob h 7 0 from hC.o7) (bX0_leastSum _ hW hm hI A h9) ?_
    refine wp_iadd eX5_least_134 ?_
    obtain ⟨f0, hf0⟩ := hV
    have es : s = cS S := by omega
    subst es
    exact wp_iret eX5_least_135 (hq h _ hs (DpI.done (P := sPb S) (show sMany S (cT S) < 6 by omega) (fun i s a b => (hL.mis a b).2) hD hf0))
  | succ n ih =>
    intro s h A x3 hn hs hI hD h9
    have hR := hI.1
    have hC := hR.1
    have h5 := hW.1.2
    have h11 := hW.2.1.2
    have h12 := hW.2.2.1.2
    have h29 := hW.2.2.2.2
    refine wp_iload_n eX5_least_82 rfl ?_
    refine wp_aload_n eX5_least_83 rfl ?_
    refine wp_getI (v := S 10 11) eX5_least_84 (show Ob h 1 5 from hC.ob) rfl hR.c1 ?_
    refine wp_icmpF eX5_least_87 (show ¬ ((S 10 11) ≤ (nI s)) from (lp_lt hW.2.1.1 (by omega) (by omega))) ?_
    refine wp_aload_n eX5_least_90 rfl ?_
    refine wp_getR (v := 2) eX5_least_91 (show Ob h 1 5 from hC.ob) rfl hC.r0 ?_
    refine wp_iload_n eX5_least_94 rfl ?_
    refine wp_aal (v := shA h s) (t := s) eX5_least_95 (show Ar h 2 9 16 from hC.a2) rfl rfl (by omega) rfl (hR.sh_r s (by omega)) ?_
    refine wp_astore_n (ls' := [some (.ref 1), some (.int rest), some (.int (nI s)), some (.ref (shA h s))]) eX5_least_96 rfl rfl ?_
    refine wp_aload_n eX5_least_97 rfl ?_
    refine wp_ifnullF eX5_least_98 ?_
    refine wp_aload_n eX5_least_101 rfl ?_
    refine wp_getI (v := S 20 s) eX5_least_102 (show Ob h (shA h s) 3 from hR.sh_ob s (by omega)) rfl (hR.sh7 s (by omega)) ?_
    refine wp_if eX5_least_105 (fun (c_105 : ¬ (S 20 s) = 0) => ?_) (fun (c_105 : ¬ (¬ (S 20 s) = 0)) => ?_)
    · refine wp_iinc (v := nI (s + 1)) (ls' := [some (.ref 1), some (.int rest), some (.int (nI (s + 1))), some (.ref (shA h s))]) eX5_least_120 rfl (nI_1 s) rfl ?_
      refine wp_goto eX5_least_123 ?_
      exact ih (s + 1) h A _ (by omega) hs hI (hD.skip (fun i hi => decide_eq_false (by unfold sSuit; rw [if_neg (fun z => c_105 z.1)]; decide))) h9
    · refine wp_aload_n eX5_least_108 rfl ?_
      refine wp_getR (v := 7) eX5_least_109 (show Ob h 1 5 from hC.ob) rfl hC.r9 ?_
      refine wp_aload_n eX5_least_112 rfl ?_
      refine wp_aload_n eX5_least_113 rfl ?_
      refine wp_getI (v := S 10 0) eX5_least_114 (show Ob h 1 5 from hC.ob) rfl hR.c10 ?_
      obtain ⟨rv, g, ⟨erv, s9, hg⟩, rg⟩ := bX0_offer d hW hL hm s (by omega) (Decidable.not_not.mp c_105) A (fun y hy => (hD y hy).1) hI h9
      subst erv
      refine wp_virt (rv := none) (h' := g) (r := []) eX5_least_117 [.ref (shA h s), .int (S 10 0)] rfl rfl rfl (show Ob h 7 0 from hC.o7) rg ?_
      refine wp_iinc (v := nI (s + 1)) (ls' := [some (.ref 1), some (.int rest), some (.int (nI (s + 1))), some (.ref (shA h s))]) eX5_least_120 rfl (nI_1 s) rfl ?_
      refine wp_goto eX5_least_123 ?_
      exact ih (s + 1) g (fun y => inn (sPb S) s A y y) _ (by omega) (hs.trans s9.scr) (hI.sc9 s9) (DpI.offer (P := sPb S) (show sMany S (cT S) < 6 by omega) hD (fun x hx => rfl)) hg

set_option maxRecDepth 4000 in
theorem lX5_le1 (d : Nat) {S : St} (hW : MW S) (hL : LR S) (hA : OA S) (hV : ∃ f, VlK (sPb S) f (pbM (sPb S))) (h0 : Hp) (Q : Option Value → Hp → Prop) (hq0 : 6 ≤ sMany S (cT S) → ∀ h1, Scr h0 h1 → Q (some (.int (-1))) h1) (hq : ∀ (h1 : Hp) (v : Nat), sMany S (cT S) ≤ 5 → Scr h0 h1 → IsL (sPb S) v → Q (some (.int (sRst S (cT S) + nI v))) h1) : ∀ (n t : Nat) (h : Hp) (x3 : Option Value), t + n = cT S → Scr h0 h → CR S h → sMany S t ≤ 5 → am_i h 7 2 = nI (sMany S t) → (∀ i, i < sMany S t → am_r h 8 i = some (thA h (sNth S i t))) → am_i h 9 0 = 0 → (∀ x, 0 < x → x < 32 → am_i h 9 x = 1000000) → WP kX5_least (Res (d + 4)) Q 11 [some (.ref 1), some (.int (sRst S t)), some (.int (nI t)), x3] [] h := by
  intro n
  induction n with
  | zero =>
    intro t h x3 hn hs hR h5' h7 h8 h90 h9
    have hC := hR.1
    have h5 := hW.1.2
    have h11 := hW.2.1.2
    have h12 := hW.2.2.1.2
    have h29 := hW.2.2.2.2
    refine wp_iload_n eX5_least_11 rfl ?_
    refine wp_aload_n eX5_least_12 rfl ?_
    refine wp_getI (v := S 10 12) eX5_least_13 (show Ob h 1 5 from hC.ob) rfl hR.c3 ?_
    refine wp_icmpT eX5_least_16 (show (S 10 12) ≤ (nI t) from (lp_ge hW.2.2.1.1 (by omega) (by omega))) ?_
    refine wp_iconst (v := 0) eX5_least_80 rfl ?_
    refine wp_istore_n (ls' := [some (.ref 1), some (.int (sRst S t)), some (.int 0), x3]) eX5_least_81 rfl rfl ?_
    have et : t = cT S := by omega
    subst et
    have h32 := two5 (sMany S (cT S)) (by omega)
    exact lX5_le2 d hW hL hA hV h0 Q h5' _ (fun h1 v a b => hq h1 v h5' a b) (cS S) 0 h (fun y => if y = 0 then 0 else 1000000) _ (by omega) hs ⟨hR, h7, h8⟩ (DpI.start (sPb S) (show sMany S (cT S) < 6 by omega) _ rfl (fun x x1 x2 => if_neg (by omega))) (fun y hy => by rcases Nat.eq_zero_or_pos y with z | z; (rw [z]; exact h90); (show _ = nI (if y = 0 then 0 else 1000000); rw [if_neg (by omega)]; exact h9 y z (by omega)))
  | succ n ih =>
    intro t h x3 hn hs hR h5' h7 h8 h90 h9
    have hC := hR.1
    have h5 := hW.1.2
    have h11 := hW.2.1.2
    have h12 := hW.2.2.1.2
    have h29 := hW.2.2.2.2
    rcases Nat.lt_or_ge (sMany S t) 5 with hlt | hge
    · refine wp_iload_n eX5_least_11 rfl ?_
      refine wp_aload_n eX5_least_12 rfl ?_
      refine wp_getI (v := S 10 12) eX5_least_13 (show Ob h 1 5 from hC.ob) rfl hR.c3 ?_
      refine wp_icmpF eX5_least_16 (show ¬ ((S 10 12) ≤ (nI t)) from (lp_lt hW.2.2.1.1 (by omega) (by omega))) ?_
      refine wp_aload_n eX5_least_19 rfl ?_
      refine wp_getR (v := 3) eX5_least_20 (show Ob h 1 5 from hC.ob) rfl hC.r2 ?_
      refine wp_iload_n eX5_least_23 rfl ?_
      refine wp_aal (v := thA h t) (t := t) eX5_least_24 (show Ar h 3 10 120 from hC.a3) rfl rfl (by omega) rfl (hR.th_r t (by omega)) ?_
      refine wp_astore_n (ls' := [some (.ref 1), some (.int (sRst S t)), some (.int (nI t)), some (.ref (thA h t))]) eX5_least_25 rfl rfl ?_
      refine wp_aload_n eX5_least_26 rfl ?_
      refine wp_ifnullF eX5_least_27 ?_
      refine wp_aload_n eX5_least_30 rfl ?_
      refine wp_getI (v := S 26 t) eX5_least_31 (show Ob h (thA h t) 4 from hR.th_ob t (by omega)) rfl (hR.th7 t (by omega)) ?_
      refine wp_if eX5_least_34 (fun (c_34 : (S 26 t) = 0) => ?_) (fun (c_34 : ¬ ((S 26 t) = 0)) => ?_)
      · have h26 : S 26 t = 0 := c_34
        have hO := hA t (by omega) h26
        refine wp_aload_n eX5_least_40 rfl ?_
        refine wp_virt (rv := (some (.int (if S 20 (onN S t) = 0 then 0 else 1)))) (h' := h) (r := []) eX5_least_41 [] rfl rfl rfl (show Ob h (thA h t) 4 from hR.th_ob t (by omega)) (bX4_isStuck _ hR (by omega) h26 hO) ?_
        refine wp_if eX5_least_44 (fun (c_44 : (if S 20 (onN S t) = 0 then 0 else 1) = 0) => ?_) (fun (c_44 : ¬ ((if S 20 (onN S t) = 0 then 0 else 1) = 0)) => ?_)
        · refine wp_aload_n eX5_least_61 rfl ?_
          refine wp_getR (v := 7) eX5_least_62 (show Ob h 1 5 from hC.ob) rfl hC.r9 ?_
          refine wp_aload_n eX5_least_65 rfl ?_
          refine wp_virt (rv := (some (.int 1))) (h' := am_setI (am_setR h 8 (sMany S t) (some (thA h t))) 7 2 (nI (sMany S t) + 1)) (r := []) eX5_least_66 [.ref (thA h t)] rfl rfl rfl (show Ob h 7 0 from hC.o7) (rX0_add _ hC _ (hR.th_ob t (by omega)) _ h7 hlt) ?_
          refine wp_ifT eX5_least_69 (show ¬ 1 = 0 from (by decide)) ?_
          refine wp_iinc (v := nI (t + 1)) (ls' := [some (.ref 1), some (.int (sRst S t)), some (.int (nI (t + 1))), some (.ref (thA h t))]) eX5_least_74 rfl (nI_1 t) rfl ?_
          refine wp_goto eX5_least_77 ?_
          have c44 : S 20 (onN S t) = 0 := Decidable.byContradiction (fun z => by rw [if_neg z] at c_44; exact absurd c_44 (by decide))
          have e1 : lsT S t = true := decide_eq_true ⟨c_34, c44⟩
          have e2 : sMany S (t + 1) = sMany S t + 1 := by simp only [sMany, e1, if_true]
          have e3 : sRst S (t + 1) = sRst S t := if_neg (fun z => z.2 c44)
          have sc : Scr h (am_setI (am_setR h 8 (sMany S t) (some (thA h t))) 7 2 (nI (sMany S t) + 1)) := (Scr.setR h _ _).trans (Scr.setI _ _ _ (by omega))
          have q := ih (t + 1) (am_setI (am_setR h 8 (sMany S t) (some (thA h t))) 7 2 (nI (sMany S t) + 1)) (some (.ref (thA h t))) (by omega) (hs.trans sc) (hR.scr sc) (by omega) (by rw [e2, ← nI_1]; exact am_ij_eq) (fun i hi => by
            rw [e2] at hi
            rw [sc.th]
            simp only [sNth]
            show (if 8 = 8 ∧ i = sMany S t then some (thA h t) else am_r h 8 i) = _
            by_cases e : i = sMany S t
            · rw [if_pos ⟨rfl, e⟩, if_pos ⟨e1, e.symm⟩]
            · rw [if_neg (fun z => e z.2), if_neg (fun z => e z.2.symm)]; exact h8 i (by omega)) ((congrFun (am_ix_ne (by decide)) 0).trans h90) (fun x x1 x2 => (congrFun (am_ix_ne (by decide)) x).trans (h9 x x1 x2))
          rw [e3] at q
          exact q
        · refine wp_iload_n eX5_least_47 rfl ?_
          refine wp_aload_n eX5_least_48 rfl ?_
          refine wp_aload_n eX5_least_49 rfl ?_
          refine wp_getI (v := S 10 0) eX5_least_50 (show Ob h 1 5 from hC.ob) rfl hR.c10 ?_
          refine wp_virt (rv := (some (.int (sMis S t (onN S t))))) (h' := h) (r := [.int (sRst S t)]) eX5_least_53 [.int (S 10 0)] rfl rfl rfl (show Ob h (thA h t) 4 from hR.th_ob t (by omega)) (bX4_misfitHere _ hR hL.1 (by omega) h26 hO) ?_
          refine wp_iadd eX5_least_56 ?_
          refine wp_istore_n (ls' := [some (.ref 1), some (.int ((sRst S t) + (sMis S t (onN S t)))), some (.int (nI t)), some (.ref (thA h t))]) eX5_least_57 rfl rfl ?_
          refine wp_goto eX5_least_58 ?_
          refine wp_iinc (v := nI (t + 1)) (ls' := [some (.ref 1), some (.int ((sRst S t) + (sMis S t (onN S t)))), some (.int (nI (t + 1))), some (.ref (thA h t))]) eX5_least_74 rfl (nI_1 t) rfl ?_
          refine wp_goto eX5_least_77 ?_
          have c44 : ¬ S 20 (onN S t) = 0 := fun z => c_44 (by rw [if_pos z])
          have e1 : ¬ lsT S t = true := fun z => c44 (of_decide_eq_true z).2
          have e2 : sMany S (t + 1) = sMany S t := by simp only [sMany]; rw [if_neg e1, Nat.add_zero]
          have e3 : sRst S (t + 1) = sRst S t + sMis S t (onN S t) := if_pos ⟨c_34, c44⟩
          have q := ih (t + 1) h (some (.ref (thA h t))) (by omega) hs hR (by rw [e2]; exact h5') (by rw [e2]; exact h7) (fun i hi => by
            rw [e2] at hi
            simp only [sNth]
            rw [if_neg (fun z => e1 z.1)]
            exact h8 i hi) h90 h9
          rw [e3] at q
          exact q
      · refine wp_goto eX5_least_37 ?_
        refine wp_iinc (v := nI (t + 1)) (ls' := [some (.ref 1), some (.int (sRst S t)), some (.int (nI (t + 1))), some (.ref (thA h t))]) eX5_least_74 rfl (nI_1 t) rfl ?_
        refine wp_goto eX5_least_77 ?_
        have e1 : ¬ lsT S t = true := fun z => c_34 (of_decide_eq_true z).1
        have e2 : sMany S (t + 1) = sMany S t := by simp only [sMany]; rw [if_neg e1, Nat.add_zero]
        have e3 : sRst S (t + 1) = sRst S t := if_neg (fun z => c_34 z.1)
        have q := ih (t + 1) h (some (.ref (thA h t))) (by omega) hs hR (by rw [e2]; exact h5') (by rw [e2]; exact h7) (fun i hi => by
          rw [e2] at hi
          simp only [sNth]
          rw [if_neg (fun z => e1 z.1)]
          exact h8 i hi) h90 h9
        rw [e3] at q
        exact q
    · refine wp_iload_n eX5_least_11 rfl ?_
      refine wp_aload_n eX5_least_12 rfl ?_
      refine wp_getI (v := S 10 12) eX5_least_13 (show Ob h 1 5 from hC.ob) rfl hR.c3 ?_
      refine wp_icmpF eX5_least_16 (show ¬ ((S 10 12) ≤ (nI t)) from (lp_lt hW.2.2.1.1 (by omega) (by omega))) ?_
      refine wp_aload_n eX5_least_19 rfl ?_
      refine wp_getR (v := 3) eX5_least_20 (show Ob h 1 5 from hC.ob) rfl hC.r2 ?_
      refine wp_iload_n eX5_least_23 rfl ?_
      refine wp_aal (v := thA h t) (t := t) eX5_least_24 (show Ar h 3 10 120 from hC.a3) rfl rfl (by omega) rfl (hR.th_r t (by omega)) ?_
      refine wp_astore_n (ls' := [some (.ref 1), some (.int (sRst S t)), some (.int (nI t)), some (.ref (thA h t))]) eX5_least_25 rfl rfl ?_
      refine wp_aload_n eX5_least_26 rfl ?_
      refine wp_ifnullF eX5_least_27 ?_
      refine wp_aload_n eX5_least_30 rfl ?_
      refine wp_getI (v := S 26 t) eX5_least_31 (show Ob h (thA h t) 4 from hR.th_ob t (by omega)) rfl (hR.th7 t (by omega)) ?_
      refine wp_if eX5_least_34 (fun (c_34 : (S 26 t) = 0) => ?_) (fun (c_34 : ¬ ((S 26 t) = 0)) => ?_)
      · have h26 : S 26 t = 0 := c_34
        have hO := hA t (by omega) h26
        refine wp_aload_n eX5_least_40 rfl ?_
        refine wp_virt (rv := (some (.int (if S 20 (onN S t) = 0 then 0 else 1)))) (h' := h) (r := []) eX5_least_41 [] rfl rfl rfl (show Ob h (thA h t) 4 from hR.th_ob t (by omega)) (bX4_isStuck _ hR (by omega) h26 hO) ?_
        refine wp_if eX5_least_44 (fun (c_44 : (if S 20 (onN S t) = 0 then 0 else 1) = 0) => ?_) (fun (c_44 : ¬ ((if S 20 (onN S t) = 0 then 0 else 1) = 0)) => ?_)
        · refine wp_aload_n eX5_least_61 rfl ?_
          refine wp_getR (v := 7) eX5_least_62 (show Ob h 1 5 from hC.ob) rfl hC.r9 ?_
          refine wp_aload_n eX5_least_65 rfl ?_
          refine wp_virt (rv := (some (.int 0))) (h' := h) (r := []) eX5_least_66 [.ref (thA h t)] rfl rfl rfl (show Ob h 7 0 from hC.o7) (rX0_add_no _ hC _ _ h7 (by omega)) ?_
          refine wp_ifF eX5_least_69 (show ¬ (¬ 0 = 0) from (by decide)) ?_
          refine wp_iconst (v := (-1)) eX5_least_72 rfl ?_
          have c44 : S 20 (onN S t) = 0 := Decidable.byContradiction (fun z => by rw [if_neg z] at c_44; exact absurd c_44 (by decide))
          have e1 : lsT S t = true := decide_eq_true ⟨c_34, c44⟩
          have e2 : sMany S (t + 1) = sMany S t + 1 := by simp only [sMany, e1, if_true]
          have e6 := sMany_mono S (cT S) (t + 1) (by omega)
          exact wp_iret eX5_least_73 (hq0 (by omega) h hs)
        · refine wp_iload_n eX5_least_47 rfl ?_
          refine wp_aload_n eX5_least_48 rfl ?_
          refine wp_aload_n eX5_least_49 rfl ?_
          refine wp_getI (v := S 10 0) eX5_least_50 (show Ob h 1 5 from hC.ob) rfl hR.c10 ?_
          refine wp_virt (rv := (some (.int (sMis S t (onN S t))))) (h' := h) (r := [.int (sRst S t)]) eX5_least_53 [.int (S 10 0)] rfl rfl rfl (show Ob h (thA h t) 4 from hR.th_ob t (by omega)) (bX4_misfitHere _ hR hL.1 (by omega) h26 hO) ?_
          refine wp_iadd eX5_least_56 ?_
          refine wp_istore_n (ls' := [some (.ref 1), some (.int ((sRst S t) + (sMis S t (onN S t)))), some (.int (nI t)), some (.ref (thA h t))]) eX5_least_57 rfl rfl ?_
          refine wp_goto eX5_least_58 ?_
          refine wp_iinc (v := nI (t + 1)) (ls' := [some (.ref 1), some (.int ((sRst S t) + (sMis S t (onN S t)))), some (.int (nI (t + 1))), some (.ref (thA h t))]) eX5_least_74 rfl (nI_1 t) rfl ?_
          refine wp_goto eX5_least_77 ?_
          have c44 : ¬ S 20 (onN S t) = 0 := fun z => c_44 (by rw [if_pos z])
          have e1 : ¬ lsT S t = true := fun z => c44 (of_decide_eq_true z).2
          have e2 : sMany S (t + 1) = sMany S t := by simp only [sMany]; rw [if_neg e1, Nat.add_zero]
          have e3 : sRst S (t + 1) = sRst S t + sMis S t (onN S t) := if_pos ⟨c_34, c44⟩
          have q := ih (t + 1) h (some (.ref (thA h t))) (by omega) hs hR (by rw [e2]; exact h5') (by rw [e2]; exact h7) (fun i hi => by
            rw [e2] at hi
            simp only [sNth]
            rw [if_neg (fun z => e1 z.1)]
            exact h8 i hi) h90 h9
          rw [e3] at q
          exact q
      · refine wp_goto eX5_least_37 ?_
        refine wp_iinc (v := nI (t + 1)) (ls' := [some (.ref 1), some (.int (sRst S t)), some (.int (nI (t + 1))), some (.ref (thA h t))]) eX5_least_74 rfl (nI_1 t) rfl ?_
        refine wp_goto eX5_least_77 ?_
        have e1 : ¬ lsT S t = true := fun z => c_34 (of_decide_eq_true z).1
        have e2 : sMany S (t + 1) = sMany S t := by simp only [sMany]; rw [if_neg e1, Nat.add_zero]
        have e3 : sRst S (t + 1) = sRst S t := if_neg (fun z => c_34 z.1)
        have q := ih (t + 1) h (some (.ref (thA h t))) (by omega) hs hR (by rw [e2]; exact h5') (by rw [e2]; exact h7) (fun i hi => by
          rw [e2] at hi
          simp only [sNth]
          rw [if_neg (fun z => e1 z.1)]
          exact h8 i hi) h90 h9
        rw [e3] at q
        exact q

set_option maxRecDepth 4000 in
theorem bX5_least (d : Nat) {h : Hp} {S : St} (hR : CR S h) (hW : MW S) (hL : LR S) (hA : OA S) (hV : ∃ f, VlK (sPb S) f (pbM (sPb S))) : ∃ rv h', (Scr h h' ∧ ((6 ≤ sMany S (cT S) ∧ rv = some (.int (-1))) ∨ (sMany S (cT S) ≤ 5 ∧ ∃ v, IsL (sPb S) v ∧ rv = some (.int (sRst S (cT S) + nI v))))) ∧ Res (d + 5) nX5_least [.ref 1] h rv h' := by
  have hC := hR.1
  have h5 := hW.1.2
  have h11 := hW.2.1.2
  have h12 := hW.2.2.1.2
  have h29 := hW.2.2.2.2
  refine Res_ex (P := fun rv h' => (Scr h h' ∧ ((6 ≤ sMany S (cT S) ∧ rv = some (.int (-1))) ∨ (sMany S (cT S) ≤ 5 ∧ ∃ v, IsL (sPb S) v ∧ rv = some (.int (sRst S (cT S) + nI v)))))) (ls := [some (.ref 1), none, none, none]) aX5_least rfl rfl rfl rfl ?_
  show WP kX5_least _ _ _ _ _ _
  refine wp_aload_n eX5_least_0 rfl ?_
  refine wp_getR (v := 7) eX5_least_1 (show Ob h 1 5 from hC.ob) rfl hC.r9 ?_
  obtain ⟨rv, g, ⟨erv, sg, g7, g90, g9⟩, rg⟩ := bX0_clear (d + 3) hC
  subst erv
  refine wp_virt (rv := none) (h' := g) (r := []) eX5_least_4 [] rfl rfl rfl (show Ob h 7 0 from hC.o7) rg ?_
  refine wp_iconst (v := 0) eX5_least_7 rfl ?_
  refine wp_istore_n (ls' := [some (.ref 1), some (.int 0), none, none]) eX5_least_8 rfl rfl ?_
  refine wp_iconst (v := 0) eX5_least_9 rfl ?_
  refine wp_istore_n (ls' := [some (.ref 1), some (.int 0), some (.int 0), none]) eX5_least_10 rfl rfl ?_
  exact lX5_le1 d hW hL hA hV h _ (fun h6 h1 a => ⟨a, Or.inl ⟨h6, rfl⟩⟩) (fun h1 v h5 a b => ⟨a, Or.inr ⟨h5, v, b, rfl⟩⟩) (cT S) 0 g _ (by omega) sg (hR.scr sg) (Nat.zero_le _) g7 (fun i hi => absurd hi (Nat.not_lt_zero _)) g90 g9
