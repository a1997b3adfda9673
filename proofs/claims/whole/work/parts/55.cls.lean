/-! THE CLASS: the arranger -/
theorem Scr.cok {h h' : Hp} (x : Scr h h') (c : COK h) : COK h' := x.gr.cok c (fun j => by rw [x.2.2.2.2.2 1 (by decide)]) (fun j => by rw [x.2.2.2.2.2 7 (by decide)])
theorem fs_nI : ∀ k, k < 6 → ((1 : Int32) <<< (nI k &&& 31)) - 1 = nI (2 ^ k - 1) := by decide +kernel
theorem sh_bi : ∀ r, r < 32 → ∀ i, i < 5 → (nI r >>> (nI i &&& 31)) &&& 1 = nI (bi r i) := by decide +kernel
theorem mn_nI {a b : Nat} (ha : a < 2 ^ 31) (hb : b < 2 ^ 31) : mn (nI a) (nI b) = nI (min a b) := by
  unfold mn
  by_cases h : b < a
  · rw [if_pos (nI_lt h ha), Nat.min_eq_right (by omega)]
  · rw [if_neg (nI_nlt (by omega) hb), Nat.min_eq_left (by omega)]
theorem bX3_suits (d : Nat) {h : Hp} {S : St} (hR : CR S h) {t s : Nat} (ht : t < cT S) (hs : s < cS S) (h20 : S 20 s = 0) : Res (d + 1) nX3_suits [.ref (shA h s), .ref (thA h t)] h (some (.int (sSuit S t s))) h := by
  have q := rX3_suits (h := h) d (thA h t) (hR.th_ob t ht) (shA h s) (hR.sh_ob s hs)
  have e : cSuit h (shA h s) (thA h t) = sSuit S t s := by
    unfold cSuit sSuit
    rw [hR.sh2 s hs, hR.sh3 s hs, hR.th1 t ht, hR.th2 t ht]
    simp only [h20, true_and]
  rw [e] at q
  exact q
/-- the loose things are in the arranger -/
def ArI (S : St) (h : Hp) : Prop := CR S h ∧ am_i h 7 2 = nI (sMany S (cT S)) ∧ ∀ i, i < sMany S (cT S) → am_r h 8 i = some (thA h (tkn S i))
/-- only the sums change -/
def Sc9 (h h' : Hp) : Prop := am_n h' = am_n h ∧ am_z h' = am_z h ∧ am_k h' = am_k h ∧ am_l h' = am_l h ∧ am_r h' = am_r h ∧ ∀ a, ¬ a = 9 → am_i h' a = am_i h a
theorem Sc9.rfl' (h : Hp) : Sc9 h h := ⟨rfl, rfl, rfl, rfl, rfl, fun _ _ => rfl⟩
theorem Sc9.setI {h h' : Hp} (x : Sc9 h h') (k : Nat) (v : Int32) : Sc9 h (am_setI h' 9 k v) := ⟨x.1, x.2.1, x.2.2.1, x.2.2.2.1, x.2.2.2.2.1, fun a e => (am_ix_ne e).trans (x.2.2.2.2.2 a e)⟩
theorem Sc9.scr {h h' : Hp} (x : Sc9 h h') : Scr h h' := ⟨x.1, x.2.1, x.2.2.1, x.2.2.2.1, fun a e => x.2.2.2.2.2 a (by omega), fun a _ => by rw [x.2.2.2.2.1]⟩
theorem ArI.sc9 {S : St} {h h' : Hp} (a : ArI S h) (x : Sc9 h h') : ArI S h' := ⟨a.1.scr x.scr, by rw [x.2.2.2.2.2 7 (by decide)]; exact a.2.1, fun i hi => by rw [x.2.2.2.2.1, x.scr.th]; exact a.2.2 i hi⟩

set_option maxRecDepth 4000 in
theorem lX0_clear {Cal : am_Ct} (h0 : Hp) : ∀ (n v : Nat) (h : Hp), v + n = 32 → 1 ≤ v → Scr h0 h → COK h → am_i h 7 2 = 0 → am_i h 9 0 = 0 → (∀ w, 0 < w → w < v → am_i h 9 w = 1000000) → WP kX0_clear Cal (fun r1 h1 => r1 = none ∧ Scr h0 h1 ∧ am_i h1 7 2 = 0 ∧ am_i h1 9 0 = 0 ∧ ∀ x, 0 < x → x < 32 → am_i h1 9 x = 1000000) 14 [some (.ref 7), some (.int (nI v))] [] h := by
  intro n
  induction n with
  | zero =>
    intro v h hn hv hs hC h7 h9 hw
    refine wp_iload_n eX0_clear_14 rfl ?_
    refine wp_aload_n eX0_clear_15 rfl ?_
    refine wp_getR (v := 9) eX0_clear_16 (show Ob h 7 0 from hC.o7) rfl hC.q1 ?_
    refine wp_alen (v := nI 32) eX0_clear_19 hC.a9.1.2.1 (by rw [hC.a9.1.2.2]; decide) (by rw [hC.a9.1.2.2]; decide) (by rw [hC.a9.2]; rfl) ?_
    refine wp_icmpT eX0_clear_20 (show (nI 32) ≤ (nI v) from (lp_ge (rfl : nI 32 = nI 32) (by omega) (by omega))) ?_
    exact wp_vret eX0_clear_37 ⟨rfl, hs, h7, h9, fun x a b => hw x a (by omega)⟩
  | succ n ih =>
    intro v h hn hv hs hC h7 h9 hw
    refine wp_iload_n eX0_clear_14 rfl ?_
    refine wp_aload_n eX0_clear_15 rfl ?_
    refine wp_getR (v := 9) eX0_clear_16 (show Ob h 7 0 from hC.o7) rfl hC.q1 ?_
    refine wp_alen (v := nI 32) eX0_clear_19 hC.a9.1.2.1 (by rw [hC.a9.1.2.2]; decide) (by rw [hC.a9.1.2.2]; decide) (by rw [hC.a9.2]; rfl) ?_
    refine wp_icmpF eX0_clear_20 (show ¬ ((nI 32) ≤ (nI v)) from (lp_lt (rfl : nI 32 = nI 32) (by omega) (by omega))) ?_
    refine wp_aload_n eX0_clear_23 rfl ?_
    refine wp_getR (v := 9) eX0_clear_24 (show Ob h 7 0 from hC.o7) rfl hC.q1 ?_
    refine wp_iload_n eX0_clear_27 rfl ?_
    refine wp_ldc (v := 1000000) eX0_clear_28 rfl ?_
    refine wp_ias (t := v) (h' := am_setI h 9 v 1000000) eX0_clear_30 (show Ar h 9 7 32 from hC.a9) (by omega) rfl rfl ?_
    refine wp_iinc (v := nI (v + 1)) (ls' := [some (.ref 7), some (.int (nI (v + 1)))]) eX0_clear_31 rfl (nI_1 v) rfl ?_
    refine wp_goto eX0_clear_34 ?_
    exact ih (v + 1) _ (by omega) (by omega) (hs.trans (Scr.setI h _ _ (by omega))) ((Scr.setI h _ _ (by omega)).cok hC) ((congrFun (am_ix_ne (by decide)) 2).trans h7) ((am_ij_ne (by omega)).trans h9) (fun w w1 w2 => by rw [am_i_setI]; by_cases q : w = v; (rw [if_pos ⟨rfl, q⟩]); (rw [if_neg (fun z => q z.2)]; exact hw w w1 (by omega)))

set_option maxRecDepth 4000 in
theorem bX0_clear (d : Nat) {h : Hp} (hC : COK h) : ∃ rv h', (rv = none ∧ Scr h h' ∧ am_i h' 7 2 = 0 ∧ am_i h' 9 0 = 0 ∧ ∀ x, 0 < x → x < 32 → am_i h' 9 x = 1000000) ∧ Res (d + 1) nX0_clear [.ref 7] h rv h' := by
  refine Res_ex (P := fun rv h' => (rv = none ∧ Scr h h' ∧ am_i h' 7 2 = 0 ∧ am_i h' 9 0 = 0 ∧ ∀ x, 0 < x → x < 32 → am_i h' 9 x = 1000000)) (ls := [some (.ref 7), none]) aX0_clear rfl rfl rfl rfl ?_
  show WP kX0_clear _ _ _ _ _ _
  refine wp_aload_n eX0_clear_0 rfl ?_
  refine wp_iconst (v := 0) eX0_clear_1 rfl ?_
  refine wp_putI (h' := am_setI h 7 2 0) eX0_clear_2 (show Ob h 7 0 from hC.o7) rfl rfl ?_
  refine wp_aload_n eX0_clear_5 rfl ?_
  refine wp_getR (v := 9) eX0_clear_6 (show Ob (am_setI h 7 2 0) 7 0 from hC.o7) rfl hC.q1 ?_
  refine wp_iconst (v := 0) eX0_clear_9 rfl ?_
  refine wp_iconst (v := 0) eX0_clear_10 rfl ?_
  refine wp_ias (t := 0) (h' := am_setI (am_setI h 7 2 0) 9 0 0) eX0_clear_11 (show Ar (am_setI h 7 2 0) 9 7 32 from hC.a9) (by omega) rfl rfl ?_
  refine wp_iconst (v := 1) eX0_clear_12 rfl ?_
  refine wp_istore_n (ls' := [some (.ref 7), some (.int 1)]) eX0_clear_13 rfl rfl ?_
  exact lX0_clear h 31 1 _ (by omega) (by omega) ((Scr.setI h _ _ (by omega)).trans (Scr.setI _ _ _ (by omega))) (((Scr.setI h _ _ (by omega)).trans (Scr.setI _ _ _ (by omega))).cok hC) ((congrFun (am_ix_ne (by decide)) 2).trans am_ij_eq) am_ij_eq (fun w w1 w2 => by omega)

set_option maxRecDepth 4000 in
theorem rX0_add (d : Nat) {h : Hp} (hC : COK h) (a : Nat) (hA : Ob h a 4) (k : Nat) (hk : am_i h 7 2 = nI k) (h5 : k < 5) : Res (d + 1) nX0_add [.ref 7, .ref a] h (some (.int 1)) (am_setI (am_setR h 8 k (some a)) 7 2 (nI k + 1)) := by
  refine Res_intro (ls := [some (.ref 7), some (.ref a)]) aX0_add rfl rfl rfl rfl ?_
  show WP kX0_add _ _ _ _ _ _
  refine wp_aload_n eX0_add_0 rfl ?_
  refine wp_getI (v := nI k) eX0_add_1 (show Ob h 7 0 from hC.o7) rfl hk ?_
  refine wp_iconst (v := 5) eX0_add_4 rfl ?_
  refine wp_icmpT eX0_add_5 (show (nI k) < 5 from (show nI k < 5 from nI_lt (b := 5) h5 (by decide))) ?_
  refine wp_aload_n eX0_add_10 rfl ?_
  refine wp_getR (v := 8) eX0_add_11 (show Ob h 7 0 from hC.o7) rfl hC.q0 ?_
  refine wp_aload_n eX0_add_14 rfl ?_
  refine wp_getI (v := nI k) eX0_add_15 (show Ob h 7 0 from hC.o7) rfl hk ?_
  refine wp_aload_n eX0_add_18 rfl ?_
  refine wp_aas (t := k) (h' := am_setR h 8 k (some a)) eX0_add_19 (show Ar h 8 10 5 from hC.a8) rfl rfl hA (by omega) rfl rfl ?_
  refine wp_aload_n eX0_add_20 rfl ?_
  refine wp_dup eX0_add_21 rfl ?_
  refine wp_getI (v := nI k) eX0_add_22 (show Ob (am_setR h 8 k (some a)) 7 0 from hC.o7) rfl hk ?_
  refine wp_iconst (v := 1) eX0_add_25 rfl ?_
  refine wp_iadd eX0_add_26 ?_
  refine wp_putI (h' := am_setI (am_setR h 8 k (some a)) 7 2 ((nI k) + 1)) eX0_add_27 (show Ob (am_setR h 8 k (some a)) 7 0 from hC.o7) rfl rfl ?_
  refine wp_iconst (v := 1) eX0_add_30 rfl ?_
  exact wp_zret eX0_add_31 (by first | exact Or.inl rfl | exact Or.inr rfl | assumption) ⟨congrArg (fun z => some (Value.int z)) (rfl), rfl⟩

set_option maxRecDepth 4000 in
theorem rX0_add_no (d : Nat) {h : Hp} (hC : COK h) (a : Nat) (k : Nat) (hk : am_i h 7 2 = nI k) (h5 : k = 5) : Res (d + 1) nX0_add [.ref 7, .ref a] h (some (.int 0)) h := by
  refine Res_intro (ls := [some (.ref 7), some (.ref a)]) aX0_add rfl rfl rfl rfl ?_
  show WP kX0_add _ _ _ _ _ _
  refine wp_aload_n eX0_add_0 rfl ?_
  refine wp_getI (v := nI k) eX0_add_1 (show Ob h 7 0 from hC.o7) rfl hk ?_
  refine wp_iconst (v := 5) eX0_add_4 rfl ?_
  refine wp_icmpF eX0_add_5 (show ¬ ((nI k) < 5) from (by rw [h5]; decide)) ?_
  refine wp_iconst (v := 0) eX0_add_8 rfl ?_
  exact wp_zret eX0_add_9 (by first | exact Or.inl rfl | exact Or.inr rfl | assumption) ⟨congrArg (fun z => some (Value.int z)) (rfl), rfl⟩

set_option maxRecDepth 4000 in
theorem rX0_fullSet (d : Nat) {h : Hp} (hC : COK h) (k : Nat) (hk : am_i h 7 2 = nI k) (h5 : k < 6) : Res (d + 1) nX0_fullSet [.ref 7] h (some (.int (nI (2 ^ k - 1)))) h := by
  refine Res_intro (ls := [some (.ref 7)]) aX0_fullSet rfl rfl rfl rfl ?_
  show WP kX0_fullSet _ _ _ _ _ _
  refine wp_iconst (v := 1) eX0_fullSet_0 rfl ?_
  refine wp_aload_n eX0_fullSet_1 rfl ?_
  refine wp_getI (v := nI k) eX0_fullSet_2 (show Ob h 7 0 from hC.o7) rfl hk ?_
  refine wp_ishl eX0_fullSet_5 ?_
  refine wp_iconst (v := 1) eX0_fullSet_6 rfl ?_
  refine wp_isub eX0_fullSet_7 ?_
  exact wp_iret eX0_fullSet_8 ⟨congrArg (fun z => some (Value.int z)) (fs_nI k h5), rfl⟩

theorem psV_no {P : Pb} {p r i : Nat} (hi : i < pbM P) (h : psP P p r (i + 1) = false) : psV P p r = 1000000 := by
  unfold psV
  rw [if_neg]
  intro z
  have := psP_down (show i + 1 ≤ pbM P from hi) z
  rw [h] at this
  cases this

set_option maxRecDepth 4000 in
theorem lX0_ps (d : Nat) {h : Hp} {S : St} (hW : MW S) (hL : LR S) (hm : sMany S (cT S) ≤ 5) (hI : ArI S h) (p : Nat) (hp : p < cS S) (h20 : S 20 p = 0) (r : Nat) (hr : r < 32) : ∀ (n i : Nat) (x7 : Option Value), i + n = sMany S (cT S) → psP (sPb S) p r i = true → WP kX0_partSum (Res (d + 2)) (fun r1 h1 => r1 = some (.int (nI (psV (sPb S) p r))) ∧ h1 = h) 12 [some (.ref 7), some (.int (nI r)), some (.ref (shA h p)), some (.int (S 10 0)), some (.int (nI (pcS (sPb S) p r i))), some (.int (nI (pbR (sPb S) p - plS (sPb S) r i))), some (.int (nI i)), x7] [] h := by
  have hR := hI.1
  have hC := hR.1
  have h11 := hW.2.1.2
  have h12 := hW.2.2.1.2
  have hroom := hL.room hp
  intro n
  induction n with
  | zero =>
    intro i x7 hn hps
    refine wp_iload eX0_partSum_12 rfl ?_
    refine wp_aload_n eX0_partSum_14 rfl ?_
    refine wp_getI (v := nI (sMany S (cT S))) eX0_partSum_15 (show Ob h 7 0 from hC.o7) rfl hI.2.1 ?_
    refine wp_icmpT eX0_partSum_18 (show (nI (sMany S (cT S))) ≤ (nI i) from (lp_ge (rfl : nI (sMany S (cT S)) = nI (sMany S (cT S))) (by omega) (by omega))) ?_
    refine wp_iload eX0_partSum_92 rfl ?_
    exact wp_iret eX0_partSum_94 ⟨congrArg (fun z => some (Value.int z)) (by have e : i = sMany S (cT S) := (by omega); subst e; rw [show psV (sPb S) p r = pcS (sPb S) p r (sMany S (cT S)) from if_pos hps]), rfl⟩
  | succ n ih =>
    intro i x7 hn hps
    have him : i < sMany S (cT S) := by omega
    have htk := (tkn_ok him).1
    have hz := hL.siz him
    have hpl := (psP_1 hps).2
    refine wp_iload eX0_partSum_12 rfl ?_
    refine wp_aload_n eX0_partSum_14 rfl ?_
    refine wp_getI (v := nI (sMany S (cT S))) eX0_partSum_15 (show Ob h 7 0 from hC.o7) rfl hI.2.1 ?_
    refine wp_icmpF eX0_partSum_18 (show ¬ ((nI (sMany S (cT S))) ≤ (nI i)) from (lp_lt (rfl : nI (sMany S (cT S)) = nI (sMany S (cT S))) (by omega) (by omega))) ?_
    refine wp_aload_n eX0_partSum_21 rfl ?_
    refine wp_getR (v := 8) eX0_partSum_22 (show Ob h 7 0 from hC.o7) rfl hC.q0 ?_
    refine wp_iload eX0_partSum_25 rfl ?_
    refine wp_aal (v := thA h (tkn S i)) (t := i) eX0_partSum_27 (show Ar h 8 10 5 from hC.a8) rfl rfl (by omega) rfl (hI.2.2 i him) ?_
    refine wp_astore (ls' := [some (.ref 7), some (.int (nI r)), some (.ref (shA h p)), some (.int (S 10 0)), some (.int (nI (pcS (sPb S) p r i))), some (.int (nI (pbR (sPb S) p - plS (sPb S) r i))), some (.int (nI i)), some (.ref (thA h (tkn S i)))]) eX0_partSum_28 rfl rfl ?_
    refine wp_iload_n eX0_partSum_30 rfl ?_
    refine wp_iload eX0_partSum_31 rfl ?_
    refine wp_ishr eX0_partSum_33 ?_
    refine wp_iconst (v := 1) eX0_partSum_34 rfl ?_
    refine wp_iand eX0_partSum_35 ?_
    refine wp_top (y := nI (bi r i)) (sh_bi r hr i (by omega)) ?_
    refine wp_if eX0_partSum_36 (fun (c_36 : (nI (bi r i)) = 0) => ?_) (fun (c_36 : ¬ ((nI (bi r i)) = 0)) => ?_)
    · refine wp_iinc (v := nI (i + 1)) (ls' := [some (.ref 7), some (.int (nI r)), some (.ref (shA h p)), some (.int (S 10 0)), some (.int (nI (pcS (sPb S) p r i))), some (.int (nI (pbR (sPb S) p - plS (sPb S) r i))), some (.int (nI (i + 1))), some (.ref (thA h (tkn S i)))]) eX0_partSum_86 rfl (nI_1 i) rfl ?_
      refine wp_goto eX0_partSum_89 ?_
      have b0 : bi r i = 0 := (nI_eq (by have := bi_01 r i; omega) (by decide)).mp c_36
      have e1 : plS (sPb S) r (i + 1) = plS (sPb S) r i := by simp only [plS, b0]; rfl
      have e2 : pcS (sPb S) p r (i + 1) = pcS (sPb S) p r i := by simp only [pcS, b0]; rfl
      have q := ih (i + 1) (some (.ref (thA h (tkn S i)))) (by omega) (by simp only [psP, hps, b0]; rfl)
      rw [e1, e2] at q
      exact q
    · refine wp_aload eX0_partSum_39 rfl ?_
      refine wp_ifnonnullT eX0_partSum_41 ?_
      have b1 : bi r i = 1 := (bi_01 r i).resolve_left (fun z => c_36 (by rw [z]; rfl))
      refine wp_iload eX0_partSum_47 rfl ?_
      refine wp_aload eX0_partSum_49 rfl ?_
      refine wp_getI (v := nI (pbZ (sPb S) i)) eX0_partSum_51 (show Ob h (thA h (tkn S i)) 4 from hR.th_ob (tkn S i) (by omega)) rfl ((hR.th0 _ htk).trans hz.1) ?_
      refine wp_isub eX0_partSum_54 ?_
      refine wp_istore (ls' := [some (.ref 7), some (.int (nI r)), some (.ref (shA h p)), some (.int (S 10 0)), some (.int (nI (pcS (sPb S) p r i))), some (.int ((nI (pbR (sPb S) p - plS (sPb S) r i)) - (nI (pbZ (sPb S) i)))), some (.int (nI i)), some (.ref (thA h (tkn S i)))]) eX0_partSum_55 rfl rfl ?_
      refine wp_iload eX0_partSum_57 rfl ?_
      refine wp_if eX0_partSum_59 (fun (c_59 : ((nI (pbR (sPb S) p - plS (sPb S) r i)) - (nI (pbZ (sPb S) i))) < 0) => ?_) (fun (c_59 : ¬ (((nI (pbR (sPb S) p - plS (sPb S) r i)) - (nI (pbZ (sPb S) i))) < 0)) => ?_)
      · refine wp_ldc (v := 1000000) eX0_partSum_71 rfl ?_
        exact wp_iret eX0_partSum_73 ⟨congrArg (fun z => some (Value.int z)) (by rw [psV_no (P := sPb S) (p := p) (r := r) (i := i) him (by simp only [psP, hps, b1]; first | (rw [show decide (plS (sPb S) r (i + 1) ≤ pbR (sPb S) p) = false from decide_eq_false (by simp only [plS, b1, if_true]; intro z; apply Int32.not_lt.mpr (nI_pos' (n := pbR (sPb S) p - plS (sPb S) r i - pbZ (sPb S) i) (by omega)); rw [← pk_sub (by omega)]; exact c_59)]; simp) | (rw [show pbK (sPb S) i p = false from decide_eq_false (by rw [Decidable.not_not.mp c_68]; decide)]; simp))]; rfl), rfl⟩
      · have hge : pbZ (sPb S) i ≤ pbR (sPb S) p - plS (sPb S) r i := by
          rcases Nat.lt_or_ge (pbR (sPb S) p - plS (sPb S) r i) (pbZ (sPb S) i) with z | z
          · exact absurd (pk_sneg (by omega) z) c_59
          · exact z
        refine wp_aload_n eX0_partSum_62 rfl ?_
        refine wp_aload eX0_partSum_63 rfl ?_
        refine wp_virt (rv := (some (.int (sSuit S (tkn S i) p)))) (h' := h) (r := []) eX0_partSum_65 [.ref (thA h (tkn S i))] rfl rfl rfl (show Ob h (shA h p) 3 from hR.sh_ob p (by omega)) (bX3_suits _ hR htk hp h20) ?_
        refine wp_if eX0_partSum_68 (fun (c_68 : ¬ (sSuit S (tkn S i) p) = 0) => ?_) (fun (c_68 : ¬ (¬ (sSuit S (tkn S i) p) = 0)) => ?_)
        · refine wp_iload eX0_partSum_74 rfl ?_
          refine wp_aload eX0_partSum_76 rfl ?_
          refine wp_aload_n eX0_partSum_78 rfl ?_
          refine wp_iload_n eX0_partSum_79 rfl ?_
          refine wp_virt (rv := (some (.int (sMis S (tkn S i) p)))) (h' := h) (r := [.int (nI (pcS (sPb S) p r i))]) eX0_partSum_80 [.ref (shA h p), .int (S 10 0)] rfl rfl rfl (show Ob h (thA h (tkn S i)) 4 from hR.th_ob (tkn S i) (by omega)) (bX4_misfitOn _ hR hL.1 (hR.tv htk) (hL.1.2.1 _ htk) hp) ?_
          refine wp_iadd eX0_partSum_83 ?_
          refine wp_istore (ls' := [some (.ref 7), some (.int (nI r)), some (.ref (shA h p)), some (.int (S 10 0)), some (.int ((nI (pcS (sPb S) p r i)) + (sMis S (tkn S i) p))), some (.int ((nI (pbR (sPb S) p - plS (sPb S) r i)) - (nI (pbZ (sPb S) i)))), some (.int (nI i)), some (.ref (thA h (tkn S i)))]) eX0_partSum_84 rfl rfl ?_
          refine wp_iinc (v := nI (i + 1)) (ls' := [some (.ref 7), some (.int (nI r)), some (.ref (shA h p)), some (.int (S 10 0)), some (.int ((nI (pcS (sPb S) p r i)) + (sMis S (tkn S i) p))), some (.int ((nI (pbR (sPb S) p - plS (sPb S) r i)) - (nI (pbZ (sPb S) i)))), some (.int (nI (i + 1))), some (.ref (thA h (tkn S i)))]) eX0_partSum_86 rfl (nI_1 i) rfl ?_
          refine wp_goto eX0_partSum_89 ?_
          have e1 : plS (sPb S) r (i + 1) = plS (sPb S) r i + pbZ (sPb S) i := by simp only [plS, b1, if_true]
          have e2 : pcS (sPb S) p r (i + 1) = pcS (sPb S) p r i + pbC (sPb S) i p := by simp only [pcS, b1, if_true]
          have e3 : psP (sPb S) p r (i + 1) = true := by
            simp only [psP, Bool.and_eq_true, Bool.or_eq_true, decide_eq_true_eq]
            exact ⟨hps, Or.inr ⟨decide_eq_true ((sSuit_01 S (tkn S i) p).resolve_left c_68), by omega⟩⟩
          rw [pk_sub (by omega), show pbR (sPb S) p - plS (sPb S) r i - pbZ (sPb S) i = pbR (sPb S) p - plS (sPb S) r (i + 1) by omega, (hL.mis him hp).1, nI_add, ← e2]
          exact ih (i + 1) _ (by omega) e3
        · refine wp_ldc (v := 1000000) eX0_partSum_71 rfl ?_
          exact wp_iret eX0_partSum_73 ⟨congrArg (fun z => some (Value.int z)) (by rw [psV_no (P := sPb S) (p := p) (r := r) (i := i) him (by simp only [psP, hps, b1]; first | (rw [show decide (plS (sPb S) r (i + 1) ≤ pbR (sPb S) p) = false from decide_eq_false (by simp only [plS, b1, if_true]; intro z; apply Int32.not_lt.mpr (nI_pos' (n := pbR (sPb S) p - plS (sPb S) r i - pbZ (sPb S) i) (by omega)); rw [← pk_sub (by omega)]; exact c_59)]; simp) | (rw [show pbK (sPb S) i p = false from decide_eq_false (by rw [Decidable.not_not.mp c_68]; decide)]; simp))]; rfl), rfl⟩

set_option maxRecDepth 4000 in
theorem bX0_partSum (d : Nat) {h : Hp} {S : St} (hW : MW S) (hL : LR S) (hm : sMany S (cT S) ≤ 5) (hI : ArI S h) (p : Nat) (hp : p < cS S) (h20 : S 20 p = 0) (r : Nat) (hr : r < 32) : Res (d + 3) nX0_partSum [.ref 7, .int (nI r), .ref (shA h p), .int (S 10 0)] h (some (.int (nI (psV (sPb S) p r)))) h := by
  have hR := hI.1
  have hC := hR.1
  have h11 := hW.2.1.2
  have h12 := hW.2.2.1.2
  have hroom := hL.room hp
  refine Res_intro (ls := [some (.ref 7), some (.int (nI r)), some (.ref (shA h p)), some (.int (S 10 0)), none, none, none, none]) aX0_partSum rfl rfl rfl rfl ?_
  show WP kX0_partSum _ _ _ _ _ _
  refine wp_iconst (v := 0) eX0_partSum_0 rfl ?_
  refine wp_istore (ls' := [some (.ref 7), some (.int (nI r)), some (.ref (shA h p)), some (.int (S 10 0)), some (.int 0), none, none, none]) eX0_partSum_1 rfl rfl ?_
  refine wp_aload_n eX0_partSum_3 rfl ?_
  refine wp_getI (v := nI (pbR (sPb S) p)) eX0_partSum_4 (show Ob h (shA h p) 3 from hR.sh_ob p (by omega)) rfl ((hR.sh1 p hp).trans hroom.1) ?_
  refine wp_istore (ls' := [some (.ref 7), some (.int (nI r)), some (.ref (shA h p)), some (.int (S 10 0)), some (.int 0), some (.int (nI (pbR (sPb S) p))), none, none]) eX0_partSum_7 rfl rfl ?_
  refine wp_iconst (v := 0) eX0_partSum_9 rfl ?_
  refine wp_istore (ls' := [some (.ref 7), some (.int (nI r)), some (.ref (shA h p)), some (.int (S 10 0)), some (.int 0), some (.int (nI (pbR (sPb S) p))), some (.int 0), none]) eX0_partSum_10 rfl rfl ?_
  exact lX0_ps d hW hL hm hI p hp h20 r hr (sMany S (cT S)) 0 _ (by omega) rfl

theorem psV_le {S : St} (hL : LR S) (hm : sMany S (cT S) ≤ 5) {p : Nat} (hp : p < cS S) (r : Nat) : psV (sPb S) p r ≤ 1000000 := by
  unfold psV
  split
  · have key : ∀ k, k ≤ sMany S (cT S) → pcS (sPb S) p r k ≤ 99 * k := by
      intro k
      induction k with
      | zero => intro _; exact Nat.le_refl _
      | succ k ih =>
        intro hk
        have a := ih (by omega)
        have b := (hL.mis (show k < sMany S (cT S) by omega) hp).2
        simp only [pcS]
        split <;> omega
    have := key (sMany S (cT S)) (Nat.le_refl _)
    have e : pbM (sPb S) = sMany S (cT S) := rfl
    rw [e]
    omega
  · exact Nat.le_refl _
/-- the sums while the set x is being mended: done above it, old below -/
def OfI (S : St) (h : Hp) (p : Nat) (A : Nat → Nat) (x : Nat) : Prop := (∀ y, y < x → am_i h 9 y = nI (A y)) ∧ ∀ y, x < y → y < 2 ^ sMany S (cT S) → am_i h 9 y = nI (inn (sPb S) p A y y)

set_option maxRecDepth 4000 in
theorem lX0_off1 (d : Nat) {S : St} (hW : MW S) (hL : LR S) (hm : sMany S (cT S) ≤ 5) (p : Nat) (hp : p < cS S) (h20 : S 20 p = 0) (A : Nat → Nat) (hA : ∀ y, y < 2 ^ sMany S (cT S) → A y ≤ 1000000) (h0 : Hp) (x : Nat) (hx : x < 2 ^ sMany S (cT S)) (kx : ∀ (h : Hp) (x5 : Option Value), Sc9 h0 h → ArI S h → OfI S h p A x → am_i h 9 x = nI (inn (sPb S) p A x x) → WP kX0_offer (Res (d + 3)) (fun r1 h1 => r1 = none ∧ Sc9 h0 h1 ∧ ∀ y, y < 2 ^ sMany S (cT S) → am_i h1 9 y = nI (inn (sPb S) p A y y)) 70 [some (.ref 7), some (.ref (shA h p)), some (.int (S 10 0)), some (.int (nI x)), some (.int (nI (x + 1))), x5] [] h) : ∀ (n q : Nat) (h : Hp) (x5 : Option Value), q + n = x → Sc9 h0 h → ArI S h → OfI S h p A x → am_i h 9 x = nI (inn (sPb S) p A x q) → WP kX0_offer (Res (d + 3)) (fun r1 h1 => r1 = none ∧ Sc9 h0 h1 ∧ ∀ y, y < 2 ^ sMany S (cT S) → am_i h1 9 y = nI (inn (sPb S) p A y y)) 12 [some (.ref 7), some (.ref (shA h p)), some (.int (S 10 0)), some (.int (nI x)), some (.int (nI (q + 1))), x5] [] h := by
  intro n
  induction n with
  | zero =>
    intro q h x5 hn hs hI hO hx9
    have hR := hI.1
    have hC := hR.1
    have h11 := hW.2.1.2
    have h32 := two5 (sMany S (cT S)) (by omega)
    refine wp_iload eX0_offer_12 rfl ?_
    refine wp_iload_n eX0_offer_14 rfl ?_
    refine wp_icmpT eX0_offer_15 (show (nI x) < (nI (q + 1)) from (lp_gtT (rfl : nI x = nI x) (by omega) (by omega))) ?_
    have e : q = x := by omega
    subst e
    exact kx h _ hs hI hO hx9
  | succ n ih =>
    intro q h x5 hn hs hI hO hx9
    have hR := hI.1
    have hC := hR.1
    have h11 := hW.2.1.2
    have h32 := two5 (sMany S (cT S)) (by omega)
    refine wp_iload eX0_offer_12 rfl ?_
    refine wp_iload_n eX0_offer_14 rfl ?_
    refine wp_icmpF eX0_offer_15 (show ¬ ((nI x) < (nI (q + 1))) from (lp_gtF (rfl : nI x = nI x) (by omega) (by omega))) ?_
    refine wp_iload eX0_offer_18 rfl ?_
    refine wp_iload_n eX0_offer_20 rfl ?_
    refine wp_iand eX0_offer_21 ?_
    refine wp_iload eX0_offer_22 rfl ?_
    refine wp_icmp eX0_offer_24 (fun (c_24 : ¬ ((nI (q + 1)) &&& (nI x)) = (nI (q + 1))) => ?_) (fun (c_24 : ¬ (¬ ((nI (q + 1)) &&& (nI x)) = (nI (q + 1)))) => ?_)
    · refine wp_iinc (v := nI ((q + 1) + 1)) (ls' := [some (.ref 7), some (.ref (shA h p)), some (.int (S 10 0)), some (.int (nI x)), some (.int (nI ((q + 1) + 1))), x5]) eX0_offer_64 rfl (nI_1 ((q + 1))) rfl ?_
      refine wp_goto eX0_offer_67 ?_
      have e2 : inn (sPb S) p A x (q + 1) = inn (sPb S) p A x q := if_neg (fun z => c_24 (of_decide_eq_true z))
      exact ih (q + 1) h _ (by omega) hs hI hO (by rw [e2]; exact hx9)
    · refine wp_aload_n eX0_offer_27 rfl ?_
      refine wp_getR (v := 9) eX0_offer_28 (show Ob h 7 0 from hC.o7) rfl hC.q1 ?_
      refine wp_iload_n eX0_offer_31 rfl ?_
      refine wp_iload eX0_offer_32 rfl ?_
      refine wp_isub eX0_offer_34 ?_
      refine wp_top (y := nI (x - (q + 1))) (pk_sub (by omega)) ?_
      refine wp_ial (v := nI (A (x - (q + 1)))) (t := (x - (q + 1))) eX0_offer_35 (show Ar h 9 7 32 from hC.a9) (by omega) rfl (hO.1 _ (by omega)) ?_
      refine wp_aload_n eX0_offer_36 rfl ?_
      refine wp_iload eX0_offer_37 rfl ?_
      refine wp_aload_n eX0_offer_39 rfl ?_
      refine wp_iload_n eX0_offer_40 rfl ?_
      refine wp_virt (rv := (some (.int (nI (psV (sPb S) p (q + 1)))))) (h' := h) (r := [.int (nI (A (x - (q + 1))))]) eX0_offer_41 [.int (nI (q + 1)), .ref (shA h p), .int (S 10 0)] rfl rfl rfl (show Ob h 7 0 from hC.o7) (bX0_partSum _ hW hL hm hI p hp h20 _ (by omega)) ?_
      refine wp_iadd eX0_offer_44 ?_
      refine wp_istore (ls' := [some (.ref 7), some (.ref (shA h p)), some (.int (S 10 0)), some (.int (nI x)), some (.int (nI (q + 1))), some (.int ((nI (A (x - (q + 1)))) + (nI (psV (sPb S) p (q + 1)))))]) eX0_offer_45 rfl rfl ?_
      refine wp_aload_n eX0_offer_47 rfl ?_
      refine wp_getR (v := 9) eX0_offer_48 (show Ob h 7 0 from hC.o7) rfl hC.q1 ?_
      refine wp_iload_n eX0_offer_51 rfl ?_
      refine wp_aload_n eX0_offer_52 rfl ?_
      refine wp_getR (v := 9) eX0_offer_53 (show Ob h 7 0 from hC.o7) rfl hC.q1 ?_
      refine wp_iload_n eX0_offer_56 rfl ?_
      refine wp_ial (v := nI (inn (sPb S) p A x q)) (t := x) eX0_offer_57 (show Ar h 9 7 32 from hC.a9) (by omega) rfl hx9 ?_
      refine wp_iload eX0_offer_58 rfl ?_
      have c24 : sbs (q + 1) x = true := decide_eq_true (Decidable.not_not.mp c_24)
      have b1 := hA x hx
      have b2 := (inn_le (sPb S) p A x q).1
      have b3 := hA (x - (q + 1)) (by omega)
      have b4 := psV_le hL hm hp (q + 1)
      refine wp_min eX0_offer_60 rfl ?_
      refine wp_top (y := nI (inn (sPb S) p A x (q + 1))) (by rw [nI_add]; exact (mn_nI (by omega) (by omega)).trans (congrArg nI (if_pos c24).symm)) ?_
      refine wp_ias (t := x) (h' := am_setI h 9 x (nI (inn (sPb S) p A x (q + 1)))) eX0_offer_63 (show Ar h 9 7 32 from hC.a9) (by omega) rfl rfl ?_
      refine wp_iinc (v := nI ((q + 1) + 1)) (ls' := [some (.ref 7), some (.ref (shA h p)), some (.int (S 10 0)), some (.int (nI x)), some (.int (nI ((q + 1) + 1))), some (.int ((nI (A (x - (q + 1)))) + (nI (psV (sPb S) p (q + 1)))))]) eX0_offer_64 rfl (nI_1 ((q + 1))) rfl ?_
      refine wp_goto eX0_offer_67 ?_
      exact ih (q + 1) _ _ (by omega) (hs.setI _ _) (hI.sc9 ((Sc9.rfl' h).setI _ _)) ⟨fun y hy => (am_ij_ne (by omega)).trans (hO.1 y hy), fun y hy hy2 => (am_ij_ne (by omega)).trans (hO.2 y hy hy2)⟩ am_ij_eq

set_option maxRecDepth 4000 in
theorem lX0_off2 (d : Nat) {S : St} (hW : MW S) (hL : LR S) (hm : sMany S (cT S) ≤ 5) (p : Nat) (hp : p < cS S) (h20 : S 20 p = 0) (A : Nat → Nat) (hA : ∀ y, y < 2 ^ sMany S (cT S) → A y ≤ 1000000) (h0 : Hp) : ∀ (x : Nat) (h : Hp) (x4 x5 : Option Value), x < 2 ^ sMany S (cT S) → Sc9 h0 h → ArI S h → OfI S h p A x → am_i h 9 x = nI (A x) → WP kX0_offer (Res (d + 3)) (fun r1 h1 => r1 = none ∧ Sc9 h0 h1 ∧ ∀ y, y < 2 ^ sMany S (cT S) → am_i h1 9 y = nI (inn (sPb S) p A y y)) 5 [some (.ref 7), some (.ref (shA h p)), some (.int (S 10 0)), some (.int (nI x)), x4, x5] [] h := by
  intro x
  induction x with
  | zero =>
    intro h x4 x5 hx hs hI hO hx9
    have hR := hI.1
    have hC := hR.1
    have h11 := hW.2.1.2
    have h32 := two5 (sMany S (cT S)) (by omega)
    refine wp_iload_n eX0_offer_5 rfl ?_
    refine wp_ifT eX0_offer_6 (show (nI 0) ≤ 0 from (by decide)) ?_
    exact wp_vret eX0_offer_76 ⟨rfl, hs, fun y hy => by rcases Nat.eq_zero_or_pos y with z | z; (rw [z]; exact hx9); (exact hO.2 y z hy)⟩
  | succ x ih =>
    intro h x4 x5 hx hs hI hO hx9
    have hR := hI.1
    have hC := hR.1
    have h11 := hW.2.1.2
    have h32 := two5 (sMany S (cT S)) (by omega)
    refine wp_iload_n eX0_offer_5 rfl ?_
    refine wp_ifF eX0_offer_6 (show ¬ ((nI (x + 1)) ≤ 0) from (nI_nle (by omega) (by omega))) ?_
    refine wp_iconst (v := 1) eX0_offer_9 rfl ?_
    refine wp_istore (ls' := [some (.ref 7), some (.ref (shA h p)), some (.int (S 10 0)), some (.int (nI (x + 1))), some (.int 1), x5]) eX0_offer_10 rfl rfl ?_
    refine lX0_off1 d hW hL hm p hp h20 A hA h0 (x + 1) hx (fun h x5 hs hI hO hx9 => ?_) (x + 1) 0 h _ (by omega) hs hI hO hx9
    clear hR hC
    have hR := hI.1
    have hC := hR.1
    refine wp_iinc (v := nI x) (ls' := [some (.ref 7), some (.ref (shA h p)), some (.int (S 10 0)), some (.int (nI x)), some (.int (nI (x + 1 + 1))), x5]) eX0_offer_70 rfl (pk_m1 x) rfl ?_
    refine wp_goto eX0_offer_73 ?_
    exact ih h _ _ (by omega) hs hI ⟨fun y hy => hO.1 y (by omega), fun y hy hy2 => by by_cases e : y = x + 1; (rw [e]; exact hx9); (exact hO.2 y (by omega) hy2)⟩ (hO.1 x (by omega))

set_option maxRecDepth 4000 in
theorem bX0_offer (d : Nat) {h : Hp} {S : St} (hW : MW S) (hL : LR S) (hm : sMany S (cT S) ≤ 5) (p : Nat) (hp : p < cS S) (h20 : S 20 p = 0) (A : Nat → Nat) (hA : ∀ y, y < 2 ^ sMany S (cT S) → A y ≤ 1000000) (hI : ArI S h) (h9 : ∀ y, y < 2 ^ sMany S (cT S) → am_i h 9 y = nI (A y)) : ∃ rv h', (rv = none ∧ Sc9 h h' ∧ ∀ y, y < 2 ^ sMany S (cT S) → am_i h' 9 y = nI (inn (sPb S) p A y y)) ∧ Res (d + 4) nX0_offer [.ref 7, .ref (shA h p), .int (S 10 0)] h rv h' := by
  have hR := hI.1
  have hC := hR.1
  have h11 := hW.2.1.2
  have h32 := two5 (sMany S (cT S)) (by omega)
  refine Res_ex (P := fun rv h' => (rv = none ∧ Sc9 h h' ∧ ∀ y, y < 2 ^ sMany S (cT S) → am_i h' 9 y = nI (inn (sPb S) p A y y))) (ls := [some (.ref 7), some (.ref (shA h p)), some (.int (S 10 0)), none, none, none]) aX0_offer rfl rfl rfl rfl ?_
  show WP kX0_offer _ _ _ _ _ _
  refine wp_aload_n eX0_offer_0 rfl ?_
  refine wp_virt (rv := (some (.int (nI (2 ^ sMany S (cT S) - 1))))) (h' := h) (r := []) eX0_offer_1 [] rfl rfl rfl (show Ob h 7 0 from hC.o7) (rX0_fullSet _ hC _ hI.2.1 (by omega)) ?_
  refine wp_istore_n (ls' := [some (.ref 7), some (.ref (shA h p)), some (.int (S 10 0)), some (.int (nI (2 ^ sMany S (cT S) - 1))), none, none]) eX0_offer_4 rfl rfl ?_
  exact lX0_off2 d hW hL hm p hp h20 A hA h (2 ^ sMany S (cT S) - 1) h _ _ (by omega) (Sc9.rfl' h) hI ⟨fun y hy => h9 y (by omega), fun y hy hy2 => by omega⟩ (h9 _ (by omega))

set_option maxRecDepth 4000 in
theorem bX0_leastSum (d : Nat) {h : Hp} {S : St} (hW : MW S) (hm : sMany S (cT S) ≤ 5) (hI : ArI S h) (A : Nat → Nat) (h9 : ∀ y, y < 2 ^ sMany S (cT S) → am_i h 9 y = nI (A y)) : Res (d + 2) nX0_leastSum [.ref 7] h (some (.int (nI (A (2 ^ sMany S (cT S) - 1))))) h := by
  have hR := hI.1
  have hC := hR.1
  have h11 := hW.2.1.2
  have h32 := two5 (sMany S (cT S)) (by omega)
  refine Res_intro (ls := [some (.ref 7)]) aX0_leastSum rfl rfl rfl rfl ?_
  show WP kX0_leastSum _ _ _ _ _ _
  refine wp_aload_n eX0_leastSum_0 rfl ?_
  refine wp_getR (v := 9) eX0_leastSum_1 (show Ob h 7 0 from hC.o7) rfl hC.q1 ?_
  refine wp_aload_n eX0_leastSum_4 rfl ?_
  refine wp_virt (rv := (some (.int (nI (2 ^ sMany S (cT S) - 1))))) (h' := h) (r := [.ref 9]) eX0_leastSum_5 [] rfl rfl rfl (show Ob h 7 0 from hC.o7) (rX0_fullSet _ hC _ hI.2.1 (by omega)) ?_
  refine wp_ial (v := nI (A (2 ^ sMany S (cT S) - 1))) (t := (2 ^ sMany S (cT S) - 1)) eX0_leastSum_8 (show Ar h 9 7 32 from hC.a9) (by omega) rfl (h9 _ (by omega)) ?_
  exact wp_iret eX0_leastSum_9 ⟨congrArg (fun z => some (Value.int z)) (rfl), rfl⟩
