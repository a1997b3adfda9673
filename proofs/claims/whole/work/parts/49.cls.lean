/-! THE CLASS: ask -/
/-- only the class's scratch cells change -/
def Scr (h h' : Hp) : Prop := am_n h' = am_n h ∧ am_z h' = am_z h ∧ am_k h' = am_k h ∧ am_l h' = am_l h ∧ (∀ a, ¬ (6 ≤ a ∧ a ≤ 9) → am_i h' a = am_i h a) ∧ ∀ a, ¬ a = 8 → am_r h' a = am_r h a
theorem Scr.rfl' (h : Hp) : Scr h h := ⟨rfl, rfl, rfl, rfl, fun _ _ => rfl, fun _ _ => rfl⟩
theorem Scr.trans {h h1 h2 : Hp} (x : Scr h h1) (y : Scr h1 h2) : Scr h h2 := ⟨y.1.trans x.1, y.2.1.trans x.2.1, y.2.2.1.trans x.2.2.1, y.2.2.2.1.trans x.2.2.2.1, fun a e => (y.2.2.2.2.1 a e).trans (x.2.2.2.2.1 a e), fun a e => (y.2.2.2.2.2 a e).trans (x.2.2.2.2.2 a e)⟩
theorem Scr.setI (h : Hp) {a : Nat} (k : Nat) (v : Int32) (ha : 6 ≤ a ∧ a ≤ 9) : Scr h (am_setI h a k v) := ⟨rfl, rfl, rfl, rfl, fun x e => am_ix_ne (fun z => e (by rw [z]; exact ha)), fun _ _ => rfl⟩
theorem Scr.setR (h : Hp) (k : Nat) (v : Option Nat) : Scr h (am_setR h 8 k v) := ⟨rfl, rfl, rfl, rfl, fun _ _ => rfl, fun x e => by funext j; rw [am_r_setR, if_neg (fun z => e z.1)]⟩
theorem Scr.gr {h h' : Hp} (x : Scr h h') : Gr h h' := ⟨Nat.le_of_eq x.1.symm, fun a _ => ⟨by rw [x.2.2.1], by rw [x.2.2.2.1]⟩⟩
theorem Scr.ob {h h' : Hp} (x : Scr h h') {a k : Nat} (q : Ob h a k) : Ob h' a k := x.gr.ob q
theorem CR.scr {S : St} {h h' : Hp} (hR : CR S h) (x : Scr h h') : CR S h' := hR.same x.gr (fun a e _ => x.2.2.2.2.1 a (by omega)) (fun a e _ => x.2.2.2.2.2 a (by omega)) (fun _ => rfl) (fun _ _ _ _ _ => rfl)
theorem Scr.sh {h h' : Hp} (x : Scr h h') (k : Nat) : shA h' k = shA h k := by unfold shA; rw [x.2.2.2.2.2 2 (by decide)]
theorem Scr.th {h h' : Hp} (x : Scr h h') (k : Nat) : thA h' k = thA h k := by unfold thA; rw [x.2.2.2.2.2 3 (by decide)]
theorem Scr.cl {h h' : Hp} (x : Scr h h') (k : Nat) : clA h' k = clA h k := by unfold clA; rw [x.2.2.2.2.2 4 (by decide)]
/-! the greatest of sixteen -/
def MxI (f : Nat → Int32) (M : Int32) : Prop := (∀ v, v < 16 → f v ≤ M) ∧ (M = 0 ∨ ∃ v, v < 16 ∧ f v = M)
theorem MxI.le {f : Nat → Int32} {M M' : Int32} (x : MxI f M) (y : MxI f M') (h0 : ∀ v, v < 16 → 0 ≤ f v) : M ≤ M' := by
  rcases x.2 with e | ⟨v, hv, e⟩
  · rw [e]
    rcases y.2 with e2 | ⟨w, hw, e2⟩
    · rw [e2]; exact Int32.le_refl _
    · rw [← e2]; exact h0 w hw
  · rw [← e]; exact y.1 v hv
theorem MxI.un {f : Nat → Int32} {M M' : Int32} (x : MxI f M) (y : MxI f M') (h0 : ∀ v, v < 16 → 0 ≤ f v) : M = M' := Int32.le_antisymm (x.le y h0) (y.le x h0)
theorem sHv_nI (S : St) (c k v : Nat) : ∀ (n : Nat), ∃ q, q ≤ n ∧ sHv S c k v n = nI q := by
  intro n
  induction n with
  | zero => exact ⟨0, Nat.le_refl _, rfl⟩
  | succ n ih =>
    obtain ⟨q, hq, e⟩ := ih
    show ∃ q, q ≤ n + 1 ∧ sHv S c k v n + (if sIsM S c n = 1 ∧ sMk (S 23 n) (nI k) = nI v then 1 else 0) = nI q
    split
    · exact ⟨q + 1, by omega, by rw [e, nI_1]⟩
    · exact ⟨q, by omega, by rw [e, Int32.add_zero]⟩
theorem sHv_no {S : St} {c n : Nat} (k v : Nat) (h : sIsM S c n = 0) : sHv S c k v (n + 1) = sHv S c k v n := by
  show sHv S c k v n + (if sIsM S c n = 1 ∧ _ then 1 else 0) = _
  rw [if_neg (fun z => by rw [h] at z; exact absurd z.1 (by decide)), Int32.add_zero]
theorem sHv_yes {S : St} {c n k v : Nat} (w : Nat) (h : sIsM S c n = 1) (e : sMk (S 23 n) (nI k) = nI v) (hv : v < 16) (hw : w < 16) : sHv S c k w (n + 1) = if w = v then sHv S c k v n + 1 else sHv S c k w n := by
  show sHv S c k w n + (if sIsM S c n = 1 ∧ sMk (S 23 n) (nI k) = nI w then 1 else 0) = _
  by_cases q : w = v
  · subst q
    rw [if_pos ⟨h, e⟩, if_pos rfl]
  · rw [if_neg (fun z => q ((nI_eq (by omega) (by omega)).mp (z.2.symm.trans e))), if_neg q, Int32.add_zero]
theorem sMk_16 (m k : Int32) : ∃ v, v < 16 ∧ sMk m k = nI v := by
  obtain ⟨j, h1, h2⟩ := pk_andE (m >>> ((4 * k) &&& 31)) (m := 15) 4 (by decide)
  exact ⟨j, h1, h2⟩
theorem MxI.no {S : St} {c n k : Nat} {g : Int32} (h : sIsM S c n = 0) (x : MxI (fun v => sHv S c k v n) g) : MxI (fun v => sHv S c k v (n + 1)) g := by
  have e : (fun v => sHv S c k v (n + 1)) = fun v => sHv S c k v n := by funext v; exact sHv_no k v h
  rw [e]; exact x
theorem MxI.yes {S : St} {c n k v : Nat} {g : Int32} (hn : n < 120) (h : sIsM S c n = 1) (e : sMk (S 23 n) (nI k) = nI v) (hv : v < 16) (x : MxI (fun v => sHv S c k v n) g) : MxI (fun v => sHv S c k v (n + 1)) (mx g (sHv S c k v n + 1)) := by
  obtain ⟨q, hq, eq⟩ := sHv_nI S c k v n
  have l1 : g ≤ mx g (sHv S c k v n + 1) := by
    unfold mx
    split
    · rename_i z; exact Int32.le_of_lt z
    · exact Int32.le_refl _
  have l2 : sHv S c k v n + 1 ≤ mx g (sHv S c k v n + 1) := by
    unfold mx
    split
    · exact Int32.le_refl _
    · rename_i z; exact Int32.not_lt.mp z
  refine ⟨fun w hw => ?_, ?_⟩
  · show sHv S c k w (n + 1) ≤ _
    rw [sHv_yes w h e hv hw]
    split
    · exact l2
    · exact Int32.le_trans (x.1 w hw) l1
  · by_cases z : g < sHv S c k v n + 1
    · refine Or.inr ⟨v, hv, ?_⟩
      show sHv S c k v (n + 1) = _
      rw [sHv_yes v h e hv hv, if_pos rfl]
      exact (if_pos z).symm
    · have ez : mx g (sHv S c k v n + 1) = g := if_neg z
      rw [ez]
      rcases x.2 with e0 | ⟨w, hw, ew⟩
      · exact Or.inl e0
      · refine Or.inr ⟨w, hw, ?_⟩
        show sHv S c k w (n + 1) = _
        have nw : ¬ w = v := by
          intro y
          subst y
          apply z
          rw [← ew]
          show sHv S c k w n < sHv S c k w n + 1
          rw [eq, nI_1]
          exact nI_lt (by omega) (by omega)
        rw [sHv_yes w h e hv hw, if_neg nw]
        exact ew
theorem sMost_ok (S : St) (c k : Nat) : ∀ (n : Nat), (∀ v, v < n → sHv S c k v (cT S) ≤ sMost S c k n) ∧ (sMost S c k n = 0 ∨ ∃ v, v < n ∧ sHv S c k v (cT S) = sMost S c k n) := by
  intro n
  induction n with
  | zero => exact ⟨fun v hv => by omega, Or.inl rfl⟩
  | succ n ih =>
    show (∀ v, v < n + 1 → _ ≤ (if sHv S c k n (cT S) ≤ sMost S c k n then sMost S c k n else sHv S c k n (cT S))) ∧ ((if sHv S c k n (cT S) ≤ sMost S c k n then sMost S c k n else sHv S c k n (cT S)) = 0 ∨ ∃ v, v < n + 1 ∧ _ = (if sHv S c k n (cT S) ≤ sMost S c k n then sMost S c k n else sHv S c k n (cT S)))
    by_cases q : sHv S c k n (cT S) ≤ sMost S c k n
    · simp only [if_pos q]
      refine ⟨fun v hv => ?_, ?_⟩
      · by_cases e : v = n
        · rw [e]; exact q
        · exact ih.1 v (by omega)
      · rcases ih.2 with e | ⟨v, hv, e⟩
        · exact Or.inl e
        · exact Or.inr ⟨v, by omega, e⟩
    · simp only [if_neg q]
      refine ⟨fun v hv => ?_, Or.inr ⟨n, by omega, rfl⟩⟩
      by_cases e : v = n
      · rw [e]; exact Int32.le_refl _
      · exact Int32.le_trans (ih.1 v (by omega)) (Int32.le_of_lt (Int32.not_le.mp q))
theorem sMost_mx (S : St) (c k : Nat) : MxI (fun v => sHv S c k v (cT S)) (sMost S c k 16) := sMost_ok S c k 16
theorem sHv_0 {S : St} (hW : MW S) (c k v n : Nat) (hn : n ≤ cT S) : 0 ≤ sHv S c k v n := by
  obtain ⟨q, hq, e⟩ := sHv_nI S c k v n
  rw [e]
  exact nI_pos' (by have := hW.2.2.1.2; omega)
theorem sMost_lt {S : St} (hW : MW S) (c k : Nat) : sMost S c k 16 < 121 ∧ ¬ sMost S c k 16 < 0 := by
  rcases (sMost_mx S c k).2 with e | ⟨v, hv, e⟩
  · rw [e]; decide
  · obtain ⟨q, hq, e2⟩ := sHv_nI S c k v (cT S)
    have h12 := hW.2.2.1.2
    rw [← e]
    show sHv S c k v (cT S) < 121 ∧ ¬ sHv S c k v (cT S) < 0
    rw [e2]
    exact ⟨nI_lt (b := 121) (by omega) (by decide), nI_pos (by omega)⟩

set_option maxRecDepth 4000 in
theorem lX5_gh2 (d : Nat) {S : St} (hW : MW S) (c k : Nat) (hc : c < cC S) (hT : TI S c) (h0 : Hp) : ∀ (n t : Nat) (h : Hp) (g : Int32) (x5 x6 : Option Value), t + n = cT S → Scr h0 h → CR S h → (∀ v, v < 16 → am_i h 6 v = sHv S c k v t) → MxI (fun v => sHv S c k v t) g → WP kX5_greatestHeap (Res (d + 2)) (fun r1 h1 => r1 = some (.int (sMost S c k 16)) ∧ Scr h0 h1) 29 [some (.ref 1), some (.ref (clA h c)), some (.int (nI k)), some (.int g), some (.int (nI t)), x5, x6] [] h := by
  intro n
  induction n with
  | zero =>
    intro t h g x5 x6 hn hs hR h6 hm
    have hC := hR.1
    have h5 := hW.1.2
    have h11 := hW.2.1.2
    have h12 := hW.2.2.1.2
    have h29 := hW.2.2.2.2
    refine wp_iload eX5_greatestHeap_29 rfl ?_
    refine wp_aload_n eX5_greatestHeap_31 rfl ?_
    refine wp_getI (v := S 10 12) eX5_greatestHeap_32 (show Ob h 1 5 from hC.ob) rfl hR.c3 ?_
    refine wp_icmpT eX5_greatestHeap_35 (show (S 10 12) ≤ (nI t) from (lp_ge hW.2.2.1.1 (by omega) (by omega))) ?_
    refine wp_iload_n eX5_greatestHeap_98 rfl ?_
    exact wp_iret eX5_greatestHeap_99 ⟨congrArg (fun z => some (Value.int z)) (hm.un (show MxI (fun v => sHv S c k v t) _ by rw [show t = cT S by omega]; exact sMost_mx S c k) (fun v _ => sHv_0 hW c k v t (by omega))), hs⟩
  | succ n ih =>
    intro t h g x5 x6 hn hs hR h6 hm
    have hC := hR.1
    have h5 := hW.1.2
    have h11 := hW.2.1.2
    have h12 := hW.2.2.1.2
    have h29 := hW.2.2.2.2
    refine wp_iload eX5_greatestHeap_29 rfl ?_
    refine wp_aload_n eX5_greatestHeap_31 rfl ?_
    refine wp_getI (v := S 10 12) eX5_greatestHeap_32 (show Ob h 1 5 from hC.ob) rfl hR.c3 ?_
    refine wp_icmpF eX5_greatestHeap_35 (show ¬ ((S 10 12) ≤ (nI t)) from (lp_lt hW.2.2.1.1 (by omega) (by omega))) ?_
    refine wp_aload_n eX5_greatestHeap_38 rfl ?_
    refine wp_getR (v := 3) eX5_greatestHeap_39 (show Ob h 1 5 from hC.ob) rfl hC.r2 ?_
    refine wp_iload eX5_greatestHeap_42 rfl ?_
    refine wp_aal (v := thA h t) (t := t) eX5_greatestHeap_44 (show Ar h 3 10 120 from hC.a3) rfl rfl (by omega) rfl (hR.th_r t (by omega)) ?_
    refine wp_astore (ls' := [some (.ref 1), some (.ref (clA h c)), some (.int (nI k)), some (.int g), some (.int (nI t)), some (.ref (thA h t)), x6]) eX5_greatestHeap_45 rfl rfl ?_
    refine wp_aload eX5_greatestHeap_47 rfl ?_
    refine wp_ifnullF eX5_greatestHeap_49 ?_
    refine wp_aload_n eX5_greatestHeap_52 rfl ?_
    refine wp_aload eX5_greatestHeap_53 rfl ?_
    refine wp_virt (rv := (some (.int (sIsM S c t)))) (h' := h) (r := []) eX5_greatestHeap_55 [.ref (thA h t)] rfl rfl rfl (show Ob h (clA h c) 1 from hR.cl_ob c (by omega)) (bX1_isAbout _ hR hW _ _ (by omega) (by omega) hT) ?_
    refine wp_if eX5_greatestHeap_58 (fun (c_58 : (sIsM S c t) = 0) => ?_) (fun (c_58 : ¬ ((sIsM S c t) = 0)) => ?_)
    · refine wp_iinc (v := nI (t + 1)) (ls' := [some (.ref 1), some (.ref (clA h c)), some (.int (nI k)), some (.int g), some (.int (nI (t + 1))), some (.ref (thA h t)), x6]) eX5_greatestHeap_92 rfl (nI_1 t) rfl ?_
      refine wp_goto eX5_greatestHeap_95 ?_
      exact ih (t + 1) h g _ _ (by omega) hs hR (fun v hv => (h6 v hv).trans (sHv_no k v c_58).symm) (hm.no c_58)
    · refine wp_aload eX5_greatestHeap_61 rfl ?_
      refine wp_iload_n eX5_greatestHeap_63 rfl ?_
      obtain ⟨v, hv, ev⟩ := sMk_16 (S 23 t) (nI k)
      refine wp_virt (rv := (some (.int (sMk (S 23 t) (nI k))))) (h' := h) (r := []) eX5_greatestHeap_64 [.int (nI k)] rfl rfl rfl (show Ob h (thA h t) 4 from hR.th_ob t (by omega)) (bX4_markAt _ hR (by omega) _) ?_
      refine wp_top (y := nI v) ev ?_
      refine wp_istore (ls' := [some (.ref 1), some (.ref (clA h c)), some (.int (nI k)), some (.int g), some (.int (nI t)), some (.ref (thA h t)), some (.int (nI v))]) eX5_greatestHeap_67 rfl rfl ?_
      refine wp_aload_n eX5_greatestHeap_69 rfl ?_
      refine wp_getR (v := 6) eX5_greatestHeap_70 (show Ob h 1 5 from hC.ob) rfl hC.r8 ?_
      refine wp_iload eX5_greatestHeap_73 rfl ?_
      refine wp_dup2 eX5_greatestHeap_75 rfl rfl ?_
      refine wp_ial (v := sHv S c k v t) (t := v) eX5_greatestHeap_76 (show Ar h 6 7 16 from hC.a6) (by omega) rfl (h6 v hv) ?_
      refine wp_iconst (v := 1) eX5_greatestHeap_77 rfl ?_
      refine wp_iadd eX5_greatestHeap_78 ?_
      refine wp_ias (t := v) (h' := am_setI h 6 v ((sHv S c k v t) + 1)) eX5_greatestHeap_79 (show Ar h 6 7 16 from hC.a6) (by omega) rfl rfl ?_
      refine wp_iload_n eX5_greatestHeap_80 rfl ?_
      refine wp_aload_n eX5_greatestHeap_81 rfl ?_
      refine wp_getR (v := 6) eX5_greatestHeap_82 (show Ob (am_setI h 6 v ((sHv S c k v t) + 1)) 1 5 from hC.ob) rfl hC.r8 ?_
      refine wp_iload eX5_greatestHeap_85 rfl ?_
      refine wp_ial (v := sHv S c k v t + 1) (t := v) eX5_greatestHeap_87 (show Ar (am_setI h 6 v ((sHv S c k v t) + 1)) 6 7 16 from hC.a6) (by omega) rfl am_ij_eq ?_
      refine wp_max eX5_greatestHeap_88 rfl ?_
      refine wp_istore_n (ls' := [some (.ref 1), some (.ref (clA h c)), some (.int (nI k)), some (.int (mx g (sHv S c k v t + 1))), some (.int (nI t)), some (.ref (thA h t)), some (.int (nI v))]) eX5_greatestHeap_91 rfl rfl ?_
      refine wp_iinc (v := nI (t + 1)) (ls' := [some (.ref 1), some (.ref (clA h c)), some (.int (nI k)), some (.int (mx g (sHv S c k v t + 1))), some (.int (nI (t + 1))), some (.ref (thA h t)), some (.int (nI v))]) eX5_greatestHeap_92 rfl (nI_1 t) rfl ?_
      refine wp_goto eX5_greatestHeap_95 ?_
      have e1 : sIsM S c t = 1 := (sIsM_01 S c t).resolve_left c_58
      exact ih (t + 1) _ _ _ _ (by omega) (hs.trans (Scr.setI h _ _ (by omega))) (hR.scr (Scr.setI h _ _ (by omega))) (fun w hw => by rw [sHv_yes w e1 ev hv hw, am_i_setI]; by_cases q : w = v; (rw [if_pos ⟨rfl, q⟩, if_pos q]); (rw [if_neg (fun z => q z.2), if_neg q]; exact h6 w hw)) (hm.yes (by omega) e1 ev hv)

set_option maxRecDepth 4000 in
theorem lX5_gh1 (d : Nat) {S : St} (hW : MW S) (c k : Nat) (hc : c < cC S) (hT : TI S c) (h0 : Hp) : ∀ (n v : Nat) (h : Hp), v + n = 16 → Scr h0 h → CR S h → (∀ w, w < v → am_i h 6 w = 0) → WP kX5_greatestHeap (Res (d + 2)) (fun r1 h1 => r1 = some (.int (sMost S c k 16)) ∧ Scr h0 h1) 2 [some (.ref 1), some (.ref (clA h c)), some (.int (nI k)), some (.int (nI v)), none, none, none] [] h := by
  intro n
  induction n with
  | zero =>
    intro v h hn hs hR h6
    have hC := hR.1
    have h5 := hW.1.2
    have h11 := hW.2.1.2
    have h12 := hW.2.2.1.2
    have h29 := hW.2.2.2.2
    refine wp_iload_n eX5_greatestHeap_2 rfl ?_
    refine wp_aload_n eX5_greatestHeap_3 rfl ?_
    refine wp_getR (v := 6) eX5_greatestHeap_4 (show Ob h 1 5 from hC.ob) rfl hC.r8 ?_
    refine wp_alen (v := nI 16) eX5_greatestHeap_7 hC.a6.1.2.1 (by rw [hC.a6.1.2.2]; decide) (by rw [hC.a6.1.2.2]; decide) (by rw [hC.a6.2]; rfl) ?_
    refine wp_icmpT eX5_greatestHeap_8 (show (nI 16) ≤ (nI v) from (lp_ge (rfl : nI 16 = nI 16) (by omega) (by omega))) ?_
    refine wp_iconst (v := 0) eX5_greatestHeap_24 rfl ?_
    refine wp_istore_n (ls' := [some (.ref 1), some (.ref (clA h c)), some (.int (nI k)), some (.int 0), none, none, none]) eX5_greatestHeap_25 rfl rfl ?_
    refine wp_iconst (v := 0) eX5_greatestHeap_26 rfl ?_
    refine wp_istore (ls' := [some (.ref 1), some (.ref (clA h c)), some (.int (nI k)), some (.int 0), some (.int 0), none, none]) eX5_greatestHeap_27 rfl rfl ?_
    exact lX5_gh2 d hW c k hc hT h0 (cT S) 0 h 0 _ _ (by omega) hs hR (fun w hw => h6 w (by omega)) ⟨fun w _ => Int32.le_refl _, Or.inl rfl⟩
  | succ n ih =>
    intro v h hn hs hR h6
    have hC := hR.1
    have h5 := hW.1.2
    have h11 := hW.2.1.2
    have h12 := hW.2.2.1.2
    have h29 := hW.2.2.2.2
    refine wp_iload_n eX5_greatestHeap_2 rfl ?_
    refine wp_aload_n eX5_greatestHeap_3 rfl ?_
    refine wp_getR (v := 6) eX5_greatestHeap_4 (show Ob h 1 5 from hC.ob) rfl hC.r8 ?_
    refine wp_alen (v := nI 16) eX5_greatestHeap_7 hC.a6.1.2.1 (by rw [hC.a6.1.2.2]; decide) (by rw [hC.a6.1.2.2]; decide) (by rw [hC.a6.2]; rfl) ?_
    refine wp_icmpF eX5_greatestHeap_8 (show ¬ ((nI 16) ≤ (nI v)) from (lp_lt (rfl : nI 16 = nI 16) (by omega) (by omega))) ?_
    refine wp_aload_n eX5_greatestHeap_11 rfl ?_
    refine wp_getR (v := 6) eX5_greatestHeap_12 (show Ob h 1 5 from hC.ob) rfl hC.r8 ?_
    refine wp_iload_n eX5_greatestHeap_15 rfl ?_
    refine wp_iconst (v := 0) eX5_greatestHeap_16 rfl ?_
    refine wp_ias (t := v) (h' := am_setI h 6 v 0) eX5_greatestHeap_17 (show Ar h 6 7 16 from hC.a6) (by omega) rfl rfl ?_
    refine wp_iinc (v := nI (v + 1)) (ls' := [some (.ref 1), some (.ref (clA h c)), some (.int (nI k)), some (.int (nI (v + 1))), none, none, none]) eX5_greatestHeap_18 rfl (nI_1 v) rfl ?_
    refine wp_goto eX5_greatestHeap_21 ?_
    exact ih (v + 1) _ (by omega) (hs.trans (Scr.setI h _ _ (by omega))) (hR.scr (Scr.setI h _ _ (by omega))) (fun w hw => by rw [am_i_setI]; by_cases q : w = v; (rw [if_pos ⟨rfl, q⟩]); (rw [if_neg (fun z => q z.2)]; exact h6 w (by omega)))

set_option maxRecDepth 4000 in
theorem bX5_gh (d : Nat) {h : Hp} {S : St} (hR : CR S h) (hW : MW S) (c k : Nat) (hc : c < cC S) (hT : TI S c) : ∃ rv h', (rv = some (.int (sMost S c k 16)) ∧ Scr h h') ∧ Res (d + 3) nX5_greatestHeap [.ref 1, .ref (clA h c), .int (nI k)] h rv h' := by
  have hC := hR.1
  have h5 := hW.1.2
  have h11 := hW.2.1.2
  have h12 := hW.2.2.1.2
  have h29 := hW.2.2.2.2
  refine Res_ex (P := fun rv h' => (rv = some (.int (sMost S c k 16)) ∧ Scr h h')) (ls := [some (.ref 1), some (.ref (clA h c)), some (.int (nI k)), none, none, none, none]) aX5_greatestHeap rfl rfl rfl rfl ?_
  show WP kX5_greatestHeap _ _ _ _ _ _
  refine wp_iconst (v := 0) eX5_greatestHeap_0 rfl ?_
  refine wp_istore_n (ls' := [some (.ref 1), some (.ref (clA h c)), some (.int (nI k)), some (.int 0), none, none, none]) eX5_greatestHeap_1 rfl rfl ?_
  exact lX5_gh1 d hW c k hc hT h 16 0 h (by omega) (Scr.rfl' h) hR (fun w hw => by omega)

set_option maxRecDepth 4000 in
theorem lX5_ask (d : Nat) {S : St} (hW : MW S) (c : Nat) (hc : c < cC S) (hT : TI S c) (h0 : Hp) : ∀ (n k : Nat) (h : Hp) (a b : Int32) (q : Nat) (x6 : Option Value), k + n = 4 → Scr h0 h → CR S h → q = clA h c → a = (sAskB S c k).1 → ((a < 0 ∧ b = 121) ∨ (¬ a < 0 ∧ b = (sAskB S c k).2)) → WP kX5_ask (Res (d + 3)) (fun r1 h1 => r1 = some (.int (sAskB S c 4).1) ∧ Scr h0 h1) 37 [some (.ref 1), some (.int (nI c)), some (.ref q), some (.int a), some (.int b), some (.int (nI k)), x6] [] h := by
  intro n
  induction n with
  | zero =>
    intro k h a b q x6 hn hs hR hq ha hb
    subst hq
    have hC := hR.1
    have h5 := hW.1.2
    have h11 := hW.2.1.2
    have h12 := hW.2.2.1.2
    have h29 := hW.2.2.2.2
    refine wp_iload eX5_ask_37 rfl ?_
    refine wp_iconst (v := 4) eX5_ask_39 rfl ?_
    refine wp_icmpT eX5_ask_40 (show 4 ≤ (nI k) from (lp_ge (show (4 : Int32) = nI 4 from rfl) (by omega) (by omega))) ?_
    refine wp_iload_n eX5_ask_86 rfl ?_
    exact wp_iret eX5_ask_87 ⟨congrArg (fun z => some (Value.int z)) (by rw [ha, show k = 4 by omega]), hs⟩
  | succ n ih =>
    intro k h a b q x6 hn hs hR hq ha hb
    subst hq
    have hC := hR.1
    have h5 := hW.1.2
    have h11 := hW.2.1.2
    have h12 := hW.2.2.1.2
    have h29 := hW.2.2.2.2
    refine wp_iload eX5_ask_37 rfl ?_
    refine wp_iconst (v := 4) eX5_ask_39 rfl ?_
    refine wp_icmpF eX5_ask_40 (show ¬ (4 ≤ (nI k)) from (lp_lt (show (4 : Int32) = nI 4 from rfl) (by omega) (by omega))) ?_
    refine wp_aload_n eX5_ask_43 rfl ?_
    refine wp_getR (v := toA h c) eX5_ask_44 (show Ob h (clA h c) 1 from hR.cl_ob c (by omega)) rfl (hR.cl_t c (by omega)) ?_
    refine wp_iload eX5_ask_47 rfl ?_
    refine wp_ial (v := S 32 (4 * c + k)) (t := k) eX5_ask_49 (show Ar h (toA h c) 7 4 from hR.cl_ta c (by omega)) (by omega) rfl (hR.cl_tv c (by omega) k (by omega)) ?_
    refine wp_iconst (v := (-1)) eX5_ask_50 rfl ?_
    refine wp_icmp eX5_ask_51 (fun (c_51 : (S 32 (4 * c + k)) = ((-1))) => ?_) (fun (c_51 : ¬ ((S 32 (4 * c + k)) = ((-1)))) => ?_)
    · refine wp_aload_n eX5_ask_57 rfl ?_
      refine wp_aload_n eX5_ask_58 rfl ?_
      refine wp_iload eX5_ask_59 rfl ?_
      have ht : S 32 (4 * c + k) < 0 := by rw [c_51]; decide
      obtain ⟨rv, g, ⟨erv, sg⟩, rg⟩ := bX5_gh d hR hW c k hc hT
      subst erv
      have hRg := hR.scr sg
      refine wp_virt (rv := (some (.int (sMost S c k 16)))) (h' := g) (r := []) eX5_ask_61 [.ref (clA h c), .int (nI k)] rfl rfl rfl (show Ob h 1 5 from hC.ob) rg ?_
      refine wp_istore (ls' := [some (.ref 1), some (.int (nI c)), some (.ref (clA h c)), some (.int a), some (.int b), some (.int (nI k)), some (.int (sMost S c k 16))]) eX5_ask_64 rfl rfl ?_
      refine wp_iload eX5_ask_66 rfl ?_
      refine wp_iload eX5_ask_68 rfl ?_
      refine wp_icmp eX5_ask_70 (fun (c_70 : b ≤ (sMost S c k 16)) => ?_) (fun (c_70 : ¬ (b ≤ (sMost S c k 16))) => ?_)
      · refine wp_iinc (v := nI (k + 1)) (ls' := [some (.ref 1), some (.int (nI c)), some (.ref (clA h c)), some (.int a), some (.int b), some (.int (nI (k + 1))), some (.int (sMost S c k 16))]) eX5_ask_80 rfl (nI_1 k) rfl ?_
        refine wp_goto eX5_ask_83 ?_
        have e2 : sAskB S c (k + 1) = sAskB S c k := by
          simp only [sAskB]
          rw [if_neg (fun z => z ht), if_pos]
          rcases hb with ⟨_, hb2⟩ | ⟨hb1, hb2⟩
          · rw [hb2] at c_70; exact absurd (sMost_lt hW c k).1 (Int32.not_lt.mpr c_70)
          · rw [← ha, ← hb2]; exact ⟨hb1, Int32.not_lt.mpr c_70⟩
        exact ih (k + 1) g a b _ _ (by omega) (hs.trans sg) hRg (sg.cl c).symm (by rw [e2]; exact ha) (by rw [e2]; exact hb)
      · refine wp_iload eX5_ask_73 rfl ?_
        refine wp_istore (ls' := [some (.ref 1), some (.int (nI c)), some (.ref (clA h c)), some (.int a), some (.int (sMost S c k 16)), some (.int (nI k)), some (.int (sMost S c k 16))]) eX5_ask_75 rfl rfl ?_
        refine wp_iload eX5_ask_77 rfl ?_
        refine wp_istore_n (ls' := [some (.ref 1), some (.int (nI c)), some (.ref (clA h c)), some (.int (nI k)), some (.int (sMost S c k 16)), some (.int (nI k)), some (.int (sMost S c k 16))]) eX5_ask_79 rfl rfl ?_
        refine wp_iinc (v := nI (k + 1)) (ls' := [some (.ref 1), some (.int (nI c)), some (.ref (clA h c)), some (.int (nI k)), some (.int (sMost S c k 16)), some (.int (nI (k + 1))), some (.int (sMost S c k 16))]) eX5_ask_80 rfl (nI_1 k) rfl ?_
        refine wp_goto eX5_ask_83 ?_
        have e2 : sAskB S c (k + 1) = (nI k, sMost S c k 16) := by
          simp only [sAskB]
          rw [if_neg (fun z => z ht), if_neg]
          rintro ⟨z1, z2⟩
          rcases hb with ⟨hb1, _⟩ | ⟨_, hb2⟩
          · rw [← ha] at z1; exact z1 hb1
          · rw [← hb2] at z2; exact c_70 (Int32.not_lt.mp z2)
        exact ih (k + 1) g (nI k) (sMost S c k 16) _ _ (by omega) (hs.trans sg) hRg (sg.cl c).symm (by rw [e2]) (Or.inr ⟨nI_pos (by omega), by rw [e2]⟩)
    · refine wp_goto eX5_ask_54 ?_
      refine wp_iinc (v := nI (k + 1)) (ls' := [some (.ref 1), some (.int (nI c)), some (.ref (clA h c)), some (.int a), some (.int b), some (.int (nI (k + 1))), x6]) eX5_ask_80 rfl (nI_1 k) rfl ?_
      refine wp_goto eX5_ask_83 ?_
      have nt : ¬ S 32 (4 * c + k) < 0 := fun z => c_51 (hT k (by omega) z)
      have e2 : sAskB S c (k + 1) = sAskB S c k := by simp only [sAskB]; rw [if_pos nt]
      exact ih (k + 1) h a b _ _ (by omega) hs hR rfl (by rw [e2]; exact ha) (by rw [e2]; exact hb)

set_option maxRecDepth 4000 in
theorem bX5_ask_yes (d : Nat) {h : Hp} {S : St} (hR : CR S h) (hW : MW S) (c : Nat) (hc : c < cC S) (hT : TI S c) (h34 : S 34 c = 0) (h2 : 2 ≤ sMeans S c (cT S)) : ∃ rv h', (rv = some (.int (sAskB S c 4).1) ∧ Scr h h') ∧ Res (d + 4) nX5_ask [.ref 1, .int (nI c)] h rv h' := by
  have hC := hR.1
  have h5 := hW.1.2
  have h11 := hW.2.1.2
  have h12 := hW.2.2.1.2
  have h29 := hW.2.2.2.2
  refine Res_ex (P := fun rv h' => (rv = some (.int (sAskB S c 4).1) ∧ Scr h h')) (ls := [some (.ref 1), some (.int (nI c)), none, none, none, none, none]) aX5_ask rfl rfl rfl rfl ?_
  show WP kX5_ask _ _ _ _ _ _
  refine wp_aload_n eX5_ask_0 rfl ?_
  refine wp_iload_n eX5_ask_1 rfl ?_
  refine wp_virt (rv := (some (.ref (clA h c)))) (h' := h) (r := []) eX5_ask_2 [.int (nI c)] rfl rfl rfl (show Ob h 1 5 from hC.ob) (bX5_claimAt _ hR hW _ (by omega)) ?_
  refine wp_astore_n (ls' := [some (.ref 1), some (.int (nI c)), some (.ref (clA h c)), none, none, none, none]) eX5_ask_5 rfl rfl ?_
  refine wp_aload_n eX5_ask_6 rfl ?_
  refine wp_ifnullF eX5_ask_7 ?_
  refine wp_aload_n eX5_ask_10 rfl ?_
  refine wp_getI (v := S 34 c) eX5_ask_11 (show Ob h (clA h c) 1 from hR.cl_ob c (by omega)) rfl (hR.cl1 c (by omega)) ?_
  refine wp_ifF eX5_ask_14 (show ¬ (¬ (S 34 c) = 0) from (fun q => q h34)) ?_
  refine wp_aload_n eX5_ask_17 rfl ?_
  refine wp_aload_n eX5_ask_18 rfl ?_
  refine wp_virt (rv := (some (.int (sMeans S c (cT S))))) (h' := h) (r := []) eX5_ask_19 [.ref (clA h c)] rfl rfl rfl (show Ob h 1 5 from hC.ob) (bX5_meantBy _ hR hW _ (by omega) hT) ?_
  refine wp_iconst (v := 2) eX5_ask_22 rfl ?_
  refine wp_icmpT eX5_ask_23 (show 2 ≤ (sMeans S c (cT S)) from h2) ?_
  refine wp_iconst (v := (-1)) eX5_ask_28 rfl ?_
  refine wp_istore_n (ls' := [some (.ref 1), some (.int (nI c)), some (.ref (clA h c)), some (.int ((-1))), none, none, none]) eX5_ask_29 rfl rfl ?_
  refine wp_bipush (v := 121) eX5_ask_30 rfl ?_
  refine wp_istore (ls' := [some (.ref 1), some (.int (nI c)), some (.ref (clA h c)), some (.int ((-1))), some (.int 121), none, none]) eX5_ask_32 rfl rfl ?_
  refine wp_iconst (v := 0) eX5_ask_34 rfl ?_
  refine wp_istore (ls' := [some (.ref 1), some (.int (nI c)), some (.ref (clA h c)), some (.int ((-1))), some (.int 121), some (.int 0), none]) eX5_ask_35 rfl rfl ?_
  exact lX5_ask d hW c hc hT h 4 0 h _ _ _ _ (by omega) (Scr.rfl' h) hR rfl rfl (Or.inl ⟨by decide, rfl⟩)

set_option maxRecDepth 4000 in
theorem bX5_ask_no (d : Nat) {h : Hp} {S : St} (hR : CR S h) (hW : MW S) (c : Nat) (hc : c < cC S) (hT : TI S c) (hn : ¬ (S 34 c = 0 ∧ 2 ≤ sMeans S c (cT S))) : Res (d + 4) nX5_ask [.ref 1, .int (nI c)] h (some (.int (-1))) h := by
  have hC := hR.1
  have h5 := hW.1.2
  have h11 := hW.2.1.2
  have h12 := hW.2.2.1.2
  have h29 := hW.2.2.2.2
  refine Res_intro (ls := [some (.ref 1), some (.int (nI c)), none, none, none, none, none]) aX5_ask rfl rfl rfl rfl ?_
  show WP kX5_ask _ _ _ _ _ _
  refine wp_aload_n eX5_ask_0 rfl ?_
  refine wp_iload_n eX5_ask_1 rfl ?_
  refine wp_virt (rv := (some (.ref (clA h c)))) (h' := h) (r := []) eX5_ask_2 [.int (nI c)] rfl rfl rfl (show Ob h 1 5 from hC.ob) (bX5_claimAt _ hR hW _ (by omega)) ?_
  refine wp_astore_n (ls' := [some (.ref 1), some (.int (nI c)), some (.ref (clA h c)), none, none, none, none]) eX5_ask_5 rfl rfl ?_
  refine wp_aload_n eX5_ask_6 rfl ?_
  refine wp_ifnullF eX5_ask_7 ?_
  refine wp_aload_n eX5_ask_10 rfl ?_
  refine wp_getI (v := S 34 c) eX5_ask_11 (show Ob h (clA h c) 1 from hR.cl_ob c (by omega)) rfl (hR.cl1 c (by omega)) ?_
  refine wp_if eX5_ask_14 (fun (c_14 : ¬ (S 34 c) = 0) => ?_) (fun (c_14 : ¬ (¬ (S 34 c) = 0)) => ?_)
  · refine wp_iconst (v := (-1)) eX5_ask_26 rfl ?_
    exact wp_iret eX5_ask_27 ⟨congrArg (fun z => some (Value.int z)) (rfl), rfl⟩
  · refine wp_aload_n eX5_ask_17 rfl ?_
    refine wp_aload_n eX5_ask_18 rfl ?_
    refine wp_virt (rv := (some (.int (sMeans S c (cT S))))) (h' := h) (r := []) eX5_ask_19 [.ref (clA h c)] rfl rfl rfl (show Ob h 1 5 from hC.ob) (bX5_meantBy _ hR hW _ (by omega) hT) ?_
    refine wp_iconst (v := 2) eX5_ask_22 rfl ?_
    refine wp_icmpF eX5_ask_23 (show ¬ (2 ≤ (sMeans S c (cT S))) from (fun q => hn ⟨Decidable.not_not.mp c_14, q⟩)) ?_
    refine wp_iconst (v := (-1)) eX5_ask_26 rfl ?_
    exact wp_iret eX5_ask_27 ⟨congrArg (fun z => some (Value.int z)) (rfl), rfl⟩

set_option maxRecDepth 4000 in
theorem bX5_ask_out (d : Nat) {h : Hp} {S : St} (hR : CR S h) (hW : MW S) (x : Int32) (hx : ∀ c, c < cC S → ¬ x = nI c) : Res (d + 4) nX5_ask [.ref 1, .int x] h (some (.int (-1))) h := by
  have hC := hR.1
  have h5 := hW.1.2
  have h11 := hW.2.1.2
  have h12 := hW.2.2.1.2
  have h29 := hW.2.2.2.2
  refine Res_intro (ls := [some (.ref 1), some (.int x), none, none, none, none, none]) aX5_ask rfl rfl rfl rfl ?_
  show WP kX5_ask _ _ _ _ _ _
  refine wp_aload_n eX5_ask_0 rfl ?_
  refine wp_iload_n eX5_ask_1 rfl ?_
  refine wp_virt (rv := (some (va_rf none))) (h' := h) (r := []) eX5_ask_2 [.int x] rfl rfl rfl (show Ob h 1 5 from hC.ob) (bX5_claimAtN _ hR hW _ hx) ?_
  refine wp_astore_nO (ls' := [some (.ref 1), some (.int x), some (va_rf none), none, none, none, none]) eX5_ask_5 rfl rfl ?_
  refine wp_aload_nO eX5_ask_6 rfl ?_
  refine wp_ifnullT eX5_ask_7 ?_
  refine wp_iconst (v := (-1)) eX5_ask_26 rfl ?_
  exact wp_iret eX5_ask_27 ⟨congrArg (fun z => some (Value.int z)) (rfl), rfl⟩
