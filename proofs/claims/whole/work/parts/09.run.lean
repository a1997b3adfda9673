/-! ONE STEP, AND THE RUN -/
def am_fin (M : am_M) (i : Instr) (rv : Option Value) : Prop :=
  (i = .ireturn ∧ ∃ x, rv = some (.int x) ∧ (M.2.2.2.1 = some .int ∨ (M.2.2.2.1 = some .boolean ∧ (x = 0 ∨ x = 1)))) ∨ (i = .areturn ∧ ∃ x n, rv = some (va_rf x) ∧ M.2.2.2.1 = some (.object n)) ∨ (i = .return_ ∧ rv = none ∧ M.2.2.2.1 = none)
section AT
variable {p : Program} {l : Launch} {e : Env} {R : Room} {s : State} {m : MethodId} {args : Array Value} {below : List Frame} {meth : Method} {c : Code} {Q : State → Prop} {M : am_M} {D : va_G} {cy : Nat → ClassId} {b base d : Nat} {Cal : am_Ct} {hs : Hp}
variable {pc : Nat} {ls : am_Ls} {st : List Value} {h : Hp}
set_option maxHeartbeats 4000000 in
theorem am_step (X : am_Cx p l R s m args meth c M D cy b base d Cal) {N0 Z0 : Nat} (hN : N0 ≤ am_n hs + R.cells) (hZ : Z0 ≤ am_z hs + R.slots) {K : am_Kt} {Qa : Option Value → Hp → Prop} (hK : ∀ pc ls st h, K pc ls st h → am_n h ≤ N0 ∧ am_z h ≤ Z0 ∧ am_G p l e R s m args below meth c Q M D cy b base hs pc ls st h)
    (hQ : ∀ (i : Instr) (pc : Nat) (ls : am_Ls) (rv : Option Value) (h : Hp), decode M.2.1 pc = .ok (i, 1) → am_fin M i rv → Qa rv h → am_n h ≤ N0 ∧ am_z h ≤ Z0 ∧ am_G p l e R s m args below meth c Q M D cy b base hs pc ls rv.toList h) {q : Instr × Nat × Nat × Nat × Nat} (hc : am_chk M (pc, q) = true) (hdo : am_do K Cal Qa pc q ls st h) : am_n h ≤ N0 ∧ am_z h ≤ Z0 ∧ am_G p l e R s m args below meth c Q M D cy b base hs pc ls st h := by
  obtain ⟨i, len, r1, r2, r3⟩ := q
  unfold am_chk at hc
  simp only [Bool.and_eq_true, decide_eq_true_eq] at hc
  obtain ⟨⟨hd, hlen⟩, hc⟩ := hc
  cases i with
  | iload j =>
    have hl9 : len = 2 := by simpa [am_len] using hlen
    subst hl9
    obtain ⟨x, h1, hk⟩ := hdo
    obtain ⟨g1, g2, g3⟩ := hK _ _ _ _ hk
    exact ⟨g1, g2, as_iload X hd h1 g3⟩
  | iload_n j =>
    have hl9 : len = 1 := by simpa [am_len] using hlen
    subst hl9
    obtain ⟨x, h1, hk⟩ := hdo
    obtain ⟨g1, g2, g3⟩ := hK _ _ _ _ hk
    exact ⟨g1, g2, as_iload_n X hd h1 g3⟩
  | aload j =>
    have hl9 : len = 2 := by simpa [am_len] using hlen
    subst hl9
    obtain ⟨x, h1, hk⟩ := hdo
    obtain ⟨g1, g2, g3⟩ := hK _ _ _ _ hk
    exact ⟨g1, g2, as_aload X hd h1 g3⟩
  | aload_n j =>
    have hl9 : len = 1 := by simpa [am_len] using hlen
    subst hl9
    obtain ⟨x, h1, hk⟩ := hdo
    obtain ⟨g1, g2, g3⟩ := hK _ _ _ _ hk
    exact ⟨g1, g2, as_aload_n X hd h1 g3⟩
  | istore j =>
    have hl9 : len = 2 := by simpa [am_len] using hlen
    subst hl9
    obtain ⟨x, r, rfl, h1, hk⟩ := hdo
    obtain ⟨g1, g2, g3⟩ := hK _ _ _ _ hk
    exact ⟨g1, g2, as_istore X hd h1 g3⟩
  | istore_n j =>
    have hl9 : len = 1 := by simpa [am_len] using hlen
    subst hl9
    obtain ⟨x, r, rfl, h1, hk⟩ := hdo
    obtain ⟨g1, g2, g3⟩ := hK _ _ _ _ hk
    exact ⟨g1, g2, as_istore_n X hd h1 g3⟩
  | astore j =>
    have hl9 : len = 2 := by simpa [am_len] using hlen
    subst hl9
    obtain ⟨x, r, rfl, h1, hk⟩ := hdo
    obtain ⟨g1, g2, g3⟩ := hK _ _ _ _ hk
    exact ⟨g1, g2, as_astore X hd h1 g3⟩
  | astore_n j =>
    have hl9 : len = 1 := by simpa [am_len] using hlen
    subst hl9
    obtain ⟨x, r, rfl, h1, hk⟩ := hdo
    obtain ⟨g1, g2, g3⟩ := hK _ _ _ _ hk
    exact ⟨g1, g2, as_astore_n X hd h1 g3⟩
  | iconst n =>
    have hl9 : len = 1 := by simpa [am_len] using hlen
    subst hl9
    obtain ⟨g1, g2, g3⟩ := hK _ _ _ _ hdo
    exact ⟨g1, g2, as_iconst X hd g3⟩
  | bipush n =>
    have hl9 : len = 2 := by simpa [am_len] using hlen
    subst hl9
    obtain ⟨g1, g2, g3⟩ := hK _ _ _ _ hdo
    exact ⟨g1, g2, as_bipush X hd g3⟩
  | sipush n =>
    have hl9 : len = 3 := by simpa [am_len] using hlen
    subst hl9
    obtain ⟨g1, g2, g3⟩ := hK _ _ _ _ hdo
    exact ⟨g1, g2, as_sipush X hd g3⟩
  | ldc idx =>
    have hl9 : len = 2 := by simpa [am_len] using hlen
    subst hl9
    obtain ⟨g1, g2, g3⟩ := hK _ _ _ _ hdo
    exact ⟨g1, g2, as_ldc X (am_at_mem hc) hd g3⟩
  | aconst_null =>
    have hl9 : len = 1 := by simpa [am_len] using hlen
    subst hl9
    obtain ⟨g1, g2, g3⟩ := hK _ _ _ _ hdo
    exact ⟨g1, g2, as_null X hd g3⟩
  | iinc j n =>
    have hl9 : len = 3 := by simpa [am_len] using hlen
    subst hl9
    obtain ⟨x, h1, hk⟩ := hdo
    obtain ⟨g1, g2, g3⟩ := hK _ _ _ _ hk
    exact ⟨g1, g2, as_iinc X hd h1 g3⟩
  | iadd =>
    have hl9 : len = 1 := by simpa [am_len] using hlen
    subst hl9
    obtain ⟨x, y, r, rfl, hk⟩ := hdo
    obtain ⟨g1, g2, g3⟩ := hK _ _ _ _ hk
    exact ⟨g1, g2, as_iadd X hd g3⟩
  | isub =>
    have hl9 : len = 1 := by simpa [am_len] using hlen
    subst hl9
    obtain ⟨x, y, r, rfl, hk⟩ := hdo
    obtain ⟨g1, g2, g3⟩ := hK _ _ _ _ hk
    exact ⟨g1, g2, as_isub X hd g3⟩
  | imul =>
    have hl9 : len = 1 := by simpa [am_len] using hlen
    subst hl9
    obtain ⟨x, y, r, rfl, hk⟩ := hdo
    obtain ⟨g1, g2, g3⟩ := hK _ _ _ _ hk
    exact ⟨g1, g2, as_imul X hd g3⟩
  | iand =>
    have hl9 : len = 1 := by simpa [am_len] using hlen
    subst hl9
    obtain ⟨x, y, r, rfl, hk⟩ := hdo
    obtain ⟨g1, g2, g3⟩ := hK _ _ _ _ hk
    exact ⟨g1, g2, as_iand X hd g3⟩
  | ishl =>
    have hl9 : len = 1 := by simpa [am_len] using hlen
    subst hl9
    obtain ⟨x, y, r, rfl, hk⟩ := hdo
    obtain ⟨g1, g2, g3⟩ := hK _ _ _ _ hk
    exact ⟨g1, g2, as_ishl X hd g3⟩
  | ishr =>
    have hl9 : len = 1 := by simpa [am_len] using hlen
    subst hl9
    obtain ⟨x, y, r, rfl, hk⟩ := hdo
    obtain ⟨g1, g2, g3⟩ := hK _ _ _ _ hk
    exact ⟨g1, g2, as_ishr X hd g3⟩
  | idiv =>
    have hl9 : len = 1 := by simpa [am_len] using hlen
    subst hl9
    obtain ⟨x, y, r, rfl, h1, hk⟩ := hdo
    obtain ⟨g1, g2, g3⟩ := hK _ _ _ _ hk
    exact ⟨g1, g2, as_idiv X hd h1 g3⟩
  | irem =>
    have hl9 : len = 1 := by simpa [am_len] using hlen
    subst hl9
    obtain ⟨x, y, r, rfl, h1, hk⟩ := hdo
    obtain ⟨g1, g2, g3⟩ := hK _ _ _ _ hk
    exact ⟨g1, g2, as_irem X hd h1 g3⟩
  | ineg =>
    have hl9 : len = 1 := by simpa [am_len] using hlen
    subst hl9
    obtain ⟨x, r, rfl, hk⟩ := hdo
    obtain ⟨g1, g2, g3⟩ := hK _ _ _ _ hk
    exact ⟨g1, g2, as_ineg X hd g3⟩
  | dup =>
    have hl9 : len = 1 := by simpa [am_len] using hlen
    subst hl9
    obtain ⟨v, r, rfl, h1, hk⟩ := hdo
    obtain ⟨g1, g2, g3⟩ := hK _ _ _ _ hk
    exact ⟨g1, g2, as_dup X hd h1 g3⟩
  | dup2 =>
    have hl9 : len = 1 := by simpa [am_len] using hlen
    subst hl9
    obtain ⟨v, w, r, rfl, h1, h2, hk⟩ := hdo
    obtain ⟨g1, g2, g3⟩ := hK _ _ _ _ hk
    exact ⟨g1, g2, as_dup2 X hd h1 h2 g3⟩
  | goto off =>
    have hl9 : len = 3 := by simpa [am_len] using hlen
    subst hl9
    dsimp only at hc
    simp only [decide_eq_true_eq] at hc
    obtain ⟨g1, g2, g3⟩ := hK _ _ _ _ hdo
    exact ⟨g1, g2, as_goto X hd hc g3⟩
  | ifCond cnd off =>
    have hl9 : len = 3 := by simpa [am_len] using hlen
    subst hl9
    dsimp only at hc
    simp only [decide_eq_true_eq] at hc
    obtain ⟨x, r, rfl, k1, k2⟩ := hdo
    have hboth : am_n h ≤ N0 ∧ am_z h ≤ Z0 := by
      by_cases q : am_cond cnd x 0
      · exact ⟨(hK _ _ _ _ (k1 q)).1, (hK _ _ _ _ (k1 q)).2.1⟩
      · exact ⟨(hK _ _ _ _ (k2 q)).1, (hK _ _ _ _ (k2 q)).2.1⟩
    exact ⟨hboth.1, hboth.2, as_if X hd hc (fun z => (hK _ _ _ _ (k1 z)).2.2) (fun z => (hK _ _ _ _ (k2 z)).2.2)⟩
  | if_icmp cnd off =>
    have hl9 : len = 3 := by simpa [am_len] using hlen
    subst hl9
    dsimp only at hc
    simp only [decide_eq_true_eq] at hc
    obtain ⟨x, y, r, rfl, k1, k2⟩ := hdo
    have hboth : am_n h ≤ N0 ∧ am_z h ≤ Z0 := by
      by_cases q : am_cond cnd x y
      · exact ⟨(hK _ _ _ _ (k1 q)).1, (hK _ _ _ _ (k1 q)).2.1⟩
      · exact ⟨(hK _ _ _ _ (k2 q)).1, (hK _ _ _ _ (k2 q)).2.1⟩
    exact ⟨hboth.1, hboth.2, as_icmp X hd hc (fun z => (hK _ _ _ _ (k1 z)).2.2) (fun z => (hK _ _ _ _ (k2 z)).2.2)⟩
  | ifnull off =>
    have hl9 : len = 3 := by simpa [am_len] using hlen
    subst hl9
    dsimp only at hc
    simp only [decide_eq_true_eq] at hc
    obtain ⟨x, r, rfl, k1, k2⟩ := hdo
    have hboth : am_n h ≤ N0 ∧ am_z h ≤ Z0 := by
      by_cases q : x = none
      · exact ⟨(hK _ _ _ _ (k1 q)).1, (hK _ _ _ _ (k1 q)).2.1⟩
      · exact ⟨(hK _ _ _ _ (k2 q)).1, (hK _ _ _ _ (k2 q)).2.1⟩
    exact ⟨hboth.1, hboth.2, as_ifnull X hd hc (fun z => (hK _ _ _ _ (k1 z)).2.2) (fun z => (hK _ _ _ _ (k2 z)).2.2)⟩
  | ifnonnull off =>
    have hl9 : len = 3 := by simpa [am_len] using hlen
    subst hl9
    dsimp only at hc
    simp only [decide_eq_true_eq] at hc
    obtain ⟨x, r, rfl, k1, k2⟩ := hdo
    have hboth : am_n h ≤ N0 ∧ am_z h ≤ Z0 := by
      by_cases q : x = none
      · exact ⟨(hK _ _ _ _ (k2 q)).1, (hK _ _ _ _ (k2 q)).2.1⟩
      · exact ⟨(hK _ _ _ _ (k1 q)).1, (hK _ _ _ _ (k1 q)).2.1⟩
    exact ⟨hboth.1, hboth.2, as_ifnonnull X hd hc (fun z => (hK _ _ _ _ (k1 z)).2.2) (fun z => (hK _ _ _ _ (k2 z)).2.2)⟩
  | if_acmp cnd off =>
    cases cnd with
    | ne => exact hdo.elim
    | eq =>
      have hl9 : len = 3 := by simpa [am_len] using hlen
      subst hl9
      dsimp only at hc
      simp only [decide_eq_true_eq] at hc
      obtain ⟨x, y, r, rfl, k1, k2⟩ := hdo
      have hboth : am_n h ≤ N0 ∧ am_z h ≤ Z0 := by
        by_cases q : x = y
        · exact ⟨(hK _ _ _ _ (k1 q)).1, (hK _ _ _ _ (k1 q)).2.1⟩
        · exact ⟨(hK _ _ _ _ (k2 q)).1, (hK _ _ _ _ (k2 q)).2.1⟩
      exact ⟨hboth.1, hboth.2, as_acmp X hd hc (fun z => (hK _ _ _ _ (k1 z)).2.2) (fun z => (hK _ _ _ _ (k2 z)).2.2)⟩
  | tableswitch df lo hi offs =>
    obtain ⟨x, r, tgt, rfl, h1, hk⟩ := hdo
    obtain ⟨g1, g2, g3⟩ := hK _ _ _ _ hk
    exact ⟨g1, g2, as_switch X hd h1 g3⟩
  | getfield idx =>
    have hl9 : len = 3 := by simpa [am_len] using hlen
    subst hl9
    dsimp only at hc
    simp only [Bool.and_eq_true, decide_eq_true_eq] at hc
    obtain ⟨⟨c1, c2⟩, c3⟩ := hc
    obtain ⟨a, r, rfl, ha, han, hka, hk⟩ := hdo
    obtain ⟨g1, g2, g3⟩ := hK _ _ _ _ hk
    exact ⟨g1, g2, as_get X c1 c2 (am_at_mem c3) hd ha han hka g3⟩
  | putfield idx =>
    have hl9 : len = 3 := by simpa [am_len] using hlen
    subst hl9
    dsimp only at hc
    simp only [Bool.and_eq_true, decide_eq_true_eq] at hc
    obtain ⟨⟨⟨c1, c2⟩, c3⟩, c4⟩ := hc
    have hfin : (am_T r1 r2).2.2.2 = true → (am_T r1 r2).1 = M.2.2.2.2.1 ∧ M.1.name = "<init>" := by
      intro z
      rw [z] at c4
      simpa using c4
    obtain ⟨a, v, r, rfl, ha, han, hka, hk⟩ := hdo
    rcases hk with ⟨f1, x, rfl, hk⟩ | ⟨f1, x, rfl, hx, hk⟩
    · obtain ⟨g1, g2, g3⟩ := hK _ _ _ _ hk
      exact ⟨g1, g2, as_putR X c1 c2 (am_at_mem c3) hfin hd f1 ha han hka g3⟩
    · obtain ⟨g1, g2, g3⟩ := hK _ _ _ _ hk
      exact ⟨g1, g2, as_putI X c1 c2 (am_at_mem c3) hfin hd f1 hx ha han hka g3⟩
  | new idx =>
    have hl9 : len = 3 := by simpa [am_len] using hlen
    subst hl9
    dsimp only at hc
    simp only [Bool.and_eq_true, decide_eq_true_eq] at hc
    obtain ⟨c1, c2⟩ := hc
    obtain ⟨g1, g2, g3⟩ := hK _ _ _ _ hdo
    have g1' : am_n h + 1 ≤ N0 := g1
    have g2' : am_z h + am_N r1 ≤ Z0 := g2
    exact ⟨by omega, by omega, as_new X c1 (am_at_mem c2) hd (by omega) (by omega) g3⟩
  | newarray at1 =>
    have hl9 : len = 2 := by simpa [am_len] using hlen
    subst hl9
    dsimp only at hc
    simp only [Bool.or_eq_true, decide_eq_true_eq] at hc
    obtain ⟨n, r, rfl, h1, h2, hk⟩ := hdo
    obtain ⟨g1, g2, g3⟩ := hK _ _ _ _ hk
    have g1' : am_n h + 1 ≤ N0 := g1
    have g2' : am_z h + n.toNatClampNeg ≤ Z0 := g2
    exact ⟨by omega, by omega, as_newarray X hc hd h1 h2 (by omega) (by omega) g3⟩
  | anewarray idx =>
    have hl9 : len = 3 := by simpa [am_len] using hlen
    subst hl9
    dsimp only at hc
    simp only [Bool.and_eq_true, decide_eq_true_eq] at hc
    obtain ⟨⟨c1, c2⟩, c3⟩ := hc
    obtain ⟨n, r, rfl, h1, h2, hk⟩ := hdo
    obtain ⟨g1, g2, g3⟩ := hK _ _ _ _ hk
    have g1' : am_n h + 1 ≤ N0 := g1
    have g2' : am_z h + n.toNatClampNeg ≤ Z0 := g2
    exact ⟨by omega, by omega, as_anewarray X c1 c2 (am_at_mem c3) hd h1 h2 (by omega) (by omega) g3⟩
  | iaload =>
    have hl9 : len = 1 := by simpa [am_len] using hlen
    subst hl9
    obtain ⟨i, a, r, rfl, h1, h2, h3, hk⟩ := hdo
    obtain ⟨g1, g2, g3⟩ := hK _ _ _ _ hk
    exact ⟨g1, g2, as_iaload X hd h1 h2 h3 g3⟩
  | baload =>
    have hl9 : len = 1 := by simpa [am_len] using hlen
    subst hl9
    obtain ⟨i, a, r, rfl, h0, h1, h2, h3, hk⟩ := hdo
    obtain ⟨g1, g2, g3⟩ := hK _ _ _ _ hk
    exact ⟨g1, g2, as_baload X hd h0 h1 h2 h3 g3⟩
  | aaload =>
    have hl9 : len = 1 := by simpa [am_len] using hlen
    subst hl9
    obtain ⟨i, a, r, rfl, h0, h1, h2, h3, h4, hk⟩ := hdo
    obtain ⟨g1, g2, g3⟩ := hK _ _ _ _ hk
    exact ⟨g1, g2, as_aaload X hd h0 h1 h2 h3 h4 g3⟩
  | iastore =>
    have hl9 : len = 1 := by simpa [am_len] using hlen
    subst hl9
    obtain ⟨x, i, a, r, rfl, h0, h1, h2, h3, hk⟩ := hdo
    obtain ⟨g1, g2, g3⟩ := hK _ _ _ _ hk
    exact ⟨g1, g2, as_iastore X hd h0 h1 h2 h3 g3⟩
  | bastore =>
    have hl9 : len = 1 := by simpa [am_len] using hlen
    subst hl9
    obtain ⟨x, i, a, r, rfl, h0, h1, h2, h3, h4, hk⟩ := hdo
    obtain ⟨g1, g2, g3⟩ := hK _ _ _ _ hk
    exact ⟨g1, g2, as_bastore X hd h0 h1 h2 h3 h4 g3⟩
  | aastore =>
    have hl9 : len = 1 := by simpa [am_len] using hlen
    subst hl9
    obtain ⟨v, i, a, r, rfl, h0, h1, h2, h3, h4, h5, h6, h7, hk⟩ := hdo
    obtain ⟨g1, g2, g3⟩ := hK _ _ _ _ hk
    exact ⟨g1, g2, as_aastore X hd h0 h1 h2 h3 h4 h5 h6 h7 g3⟩
  | arraylength =>
    have hl9 : len = 1 := by simpa [am_len] using hlen
    subst hl9
    obtain ⟨a, r, rfl, h1, h2, h3, hk⟩ := hdo
    obtain ⟨g1, g2, g3⟩ := hK _ _ _ _ hk
    exact ⟨g1, g2, as_alen X hd h1 h2 h3 g3⟩
  | invokevirtual idx =>
    have hl9 : len = 3 := by simpa [am_len] using hlen
    subst hl9
    dsimp only at hc
    simp only [Bool.and_eq_true, decide_eq_true_eq] at hc
    obtain ⟨⟨⟨⟨⟨⟨c1, c2⟩, c3⟩, c4⟩, c5⟩, c6⟩, c7⟩ := hc
    obtain ⟨as, a, r, rv, h', rfl, h1, h2, h3, h4, h5, h6, hk⟩ := hdo
    obtain ⟨g1, g2, g3⟩ := hK _ _ _ _ hk
    obtain ⟨-, n1, n2⟩ := X.2.2.2.2.2.2.2.2.2.2 _ _ _ _ _ h6
    exact ⟨by omega, by omega, as_virt X (am_at_mem c1) (am_mok_of c2) (by rw [c3]; decide) c4 (am_at_mem c5) c6 c7 hd h1 h2 h3 h4 h5 h6 (by omega) (by omega) g3⟩
  | invokestatic idx =>
    have hl9 : len = 3 := by simpa [am_len] using hlen
    subst hl9
    dsimp only at hc
    rcases hdo with ⟨e1, x, r, rfl, h2, hk⟩ | ⟨e1, x, y, r, rfl, h2, hk⟩ | ⟨e1, x, y, r, rfl, h2, hk⟩ | ⟨e1, as, r, rv, h', rfl, h1, h2, h6, hk⟩
    · dsimp only at e1
      subst e1
      rw [if_pos rfl] at hc
      obtain ⟨g1, g2, g3⟩ := hK _ _ _ _ hk
      exact ⟨g1, g2, as_abs X (am_at_mem hc) hd h2 (by omega) (by omega) g3⟩
    · dsimp only at e1
      subst e1
      rw [if_neg (by decide), if_pos rfl] at hc
      obtain ⟨g1, g2, g3⟩ := hK _ _ _ _ hk
      exact ⟨g1, g2, as_max X (am_at_mem hc) hd h2 (by omega) (by omega) g3⟩
    · dsimp only at e1
      subst e1
      rw [if_neg (by decide), if_neg (by decide), if_pos rfl] at hc
      obtain ⟨g1, g2, g3⟩ := hK _ _ _ _ hk
      exact ⟨g1, g2, as_min X (am_at_mem hc) hd h2 (by omega) (by omega) g3⟩
    · dsimp only at e1
      rw [if_neg (by omega), if_neg (by omega), if_neg (by omega)] at hc
      simp only [Bool.and_eq_true, Bool.or_eq_true, decide_eq_true_eq] at hc
      obtain ⟨⟨⟨c1, c2⟩, c3⟩, c4⟩ := hc
      obtain ⟨g1, g2, g3⟩ := hK _ _ _ _ hk
      obtain ⟨-, n1, n2⟩ := X.2.2.2.2.2.2.2.2.2.2 _ _ _ _ _ h6
      exact ⟨by omega, by omega, as_stat X (c4.imp am_at_mem id) (am_mok_of c1) c2 c3 hd h1 h2 h6 (by omega) (by omega) g3⟩
  | invokespecial idx =>
    have hl9 : len = 3 := by simpa [am_len] using hlen
    subst hl9
    dsimp only at hc
    rcases hdo with ⟨e1, a, r, rfl, h2, hk⟩ | ⟨e1, as, a, r, rv, h', rfl, h1, h2, h6, hk⟩
    · dsimp only at e1
      subst e1
      rw [if_pos rfl] at hc
      obtain ⟨g1, g2, g3⟩ := hK _ _ _ _ hk
      exact ⟨g1, g2, as_obj X (am_at_mem hc) hd h2 g3⟩
    · dsimp only at e1
      rw [if_neg e1] at hc
      simp only [Bool.and_eq_true, decide_eq_true_eq] at hc
      obtain ⟨⟨⟨⟨⟨c1, c2⟩, c3⟩, c4⟩, c5⟩, c6⟩ := hc
      obtain ⟨g1, g2, g3⟩ := hK _ _ _ _ hk
      obtain ⟨-, n1, n2⟩ := X.2.2.2.2.2.2.2.2.2.2 _ _ _ _ _ h6
      exact ⟨by omega, by omega, as_spec X (am_at_mem c1) (am_mok_of c2) (by rw [c3]; decide) c4 c5 c6 hd h1 h2 h6 (by omega) (by omega) g3⟩
  | ireturn =>
    have hl9 : len = 1 := by simpa [am_len] using hlen
    subst hl9
    dsimp only at hc
    simp only [Bool.or_eq_true, decide_eq_true_eq] at hc
    obtain ⟨x, rfl, h1, hq⟩ := hdo
    dsimp only at h1
    refine hQ .ireturn pc ls (some (.int x)) h hd (Or.inl ⟨rfl, x, rfl, ?_⟩) hq
    rcases hc with hc | hc
    · exact Or.inl hc.2
    · exact Or.inr ⟨hc.2, h1 hc.1⟩
  | areturn =>
    have hl9 : len = 1 := by simpa [am_len] using hlen
    subst hl9
    dsimp only at hc
    obtain ⟨x, rfl, hq⟩ := hdo
    refine hQ .areturn pc ls (some (va_rf x)) h hd (Or.inr (Or.inl ⟨rfl, x, ?_⟩)) hq
    split at hc
    · rename_i n hn
      exact ⟨n, rfl, hn⟩
    · cases hc
  | return_ =>
    have hl9 : len = 1 := by simpa [am_len] using hlen
    subst hl9
    dsimp only at hc
    simp only [decide_eq_true_eq] at hc
    obtain ⟨rfl, hq⟩ := hdo
    exact hQ .return_ pc ls none h hd (Or.inr (Or.inr ⟨rfl, rfl, hc⟩)) hq
  | _ => exact hdo.elim
theorem am_run (X : am_Cx p l R s m args meth c M D cy b base d Cal) {N0 Z0 : Nat} (hN : N0 ≤ am_n hs + R.cells) (hZ : Z0 ≤ am_z hs + R.slots) {Qa : Option Value → Hp → Prop} {cod : List am_E} (hck : cod.all (am_chk M) = true)
    (hQ : ∀ (i : Instr) (pc : Nat) (ls : am_Ls) (rv : Option Value) (h : Hp), decode M.2.1 pc = .ok (i, 1) → am_fin M i rv → Qa rv h → am_n h ≤ N0 ∧ am_z h ≤ Z0 ∧ am_G p l e R s m args below meth c Q M D cy b base hs pc ls rv.toList h) :
    ∀ (n : Nat) (pc : Nat) (ls : am_Ls) (st : List Value) (h : Hp), am_wp cod Cal Qa n pc ls st h → am_n h ≤ N0 ∧ am_z h ≤ Z0 ∧ am_G p l e R s m args below meth c Q M D cy b base hs pc ls st h := by
  intro n
  induction n with
  | zero => intro pc ls st h hw; exact hw.elim
  | succ n ih =>
    intro pc ls st h hw
    obtain ⟨q, hm, hdo⟩ := hw
    exact am_step X hN hZ ih hQ (List.all_eq_true.mp hck _ hm) hdo
end AT
/-- growth: a run never loses cells -/
theorem am_grow {cod : List am_E} {Cal : am_Ct} {Qa : Option Value → Hp → Prop} (hC : ∀ y as h rv h', Cal y as h rv h' → am_n h ≤ am_n h' ∧ am_z h ≤ am_z h') :
    ∀ (n : Nat) (pc : Nat) (ls : am_Ls) (st : List Value) (h : Hp), am_wp cod Cal Qa n pc ls st h → ∃ rv h', Qa rv h' ∧ am_n h ≤ am_n h' ∧ am_z h ≤ am_z h' := by
  intro n
  induction n with
  | zero => intro pc ls st h hw; exact hw.elim
  | succ n ih =>
    intro pc ls st h hw
    obtain ⟨⟨i, len, r1, r2, r3⟩, hm, hdo⟩ := hw
    cases i with

    | iload j =>
      obtain ⟨x, h1, hk⟩ := hdo
      have hh := ih _ _ _ _ hk
      exact hh
    | iload_n j =>
      obtain ⟨x, h1, hk⟩ := hdo
      have hh := ih _ _ _ _ hk
      exact hh
    | aload j =>
      obtain ⟨x, h1, hk⟩ := hdo
      have hh := ih _ _ _ _ hk
      exact hh
    | aload_n j =>
      obtain ⟨x, h1, hk⟩ := hdo
      have hh := ih _ _ _ _ hk
      exact hh
    | istore j =>
      obtain ⟨x, r, h0, h1, hk⟩ := hdo
      have hh := ih _ _ _ _ hk
      exact hh
    | istore_n j =>
      obtain ⟨x, r, h0, h1, hk⟩ := hdo
      have hh := ih _ _ _ _ hk
      exact hh
    | astore j =>
      obtain ⟨x, r, h0, h1, hk⟩ := hdo
      have hh := ih _ _ _ _ hk
      exact hh
    | astore_n j =>
      obtain ⟨x, r, h0, h1, hk⟩ := hdo
      have hh := ih _ _ _ _ hk
      exact hh
    | iinc j n =>
      obtain ⟨x, h1, hk⟩ := hdo
      have hh := ih _ _ _ _ hk
      exact hh
    | ineg =>
      obtain ⟨x, r, h0, hk⟩ := hdo
      have hh := ih _ _ _ _ hk
      exact hh
    | dup =>
      obtain ⟨v, r, h0, h1, hk⟩ := hdo
      have hh := ih _ _ _ _ hk
      exact hh
    | dup2 =>
      obtain ⟨v, w, r, h0, h1, h2, hk⟩ := hdo
      have hh := ih _ _ _ _ hk
      exact hh
    | idiv =>
      obtain ⟨x, y, r, h0, h1, hk⟩ := hdo
      have hh := ih _ _ _ _ hk
      exact hh
    | irem =>
      obtain ⟨x, y, r, h0, h1, hk⟩ := hdo
      have hh := ih _ _ _ _ hk
      exact hh
    | tableswitch df lo hi offs =>
      obtain ⟨x, r, tgt, h0, h1, hk⟩ := hdo
      have hh := ih _ _ _ _ hk
      exact hh
    | getfield idx =>
      obtain ⟨a, r, h0, h1, h2, h3, hk⟩ := hdo
      have hh := ih _ _ _ _ hk
      exact hh
    | iaload =>
      obtain ⟨i, a, r, h0, h1, h2, h3, hk⟩ := hdo
      have hh := ih _ _ _ _ hk
      exact hh
    | baload =>
      obtain ⟨i, a, r, h0, h1, h2, h3, h4, hk⟩ := hdo
      have hh := ih _ _ _ _ hk
      exact hh
    | aaload =>
      obtain ⟨i, a, r, h0, h1, h2, h3, h4, h5, hk⟩ := hdo
      have hh := ih _ _ _ _ hk
      exact hh
    | iastore =>
      obtain ⟨x, i, a, r, h0, h1, h2, h3, h4, hk⟩ := hdo
      have hh := ih _ _ _ _ hk
      exact hh
    | bastore =>
      obtain ⟨x, i, a, r, h0, h1, h2, h3, h4, h5, hk⟩ := hdo
      have hh := ih _ _ _ _ hk
      exact hh
    | aastore =>
      obtain ⟨v, i, a, r, h0, h1, h2, h3, h4, h5, h6, h7, h8, hk⟩ := hdo
      have hh := ih _ _ _ _ hk
      exact hh
    | arraylength =>
      obtain ⟨a, r, h0, h1, h2, h3, hk⟩ := hdo
      have hh := ih _ _ _ _ hk
      exact hh
    | iadd =>
      obtain ⟨x, y, r, h0, hk⟩ := hdo
      have hh := ih _ _ _ _ hk
      exact hh
    | isub =>
      obtain ⟨x, y, r, h0, hk⟩ := hdo
      have hh := ih _ _ _ _ hk
      exact hh
    | imul =>
      obtain ⟨x, y, r, h0, hk⟩ := hdo
      have hh := ih _ _ _ _ hk
      exact hh
    | iand =>
      obtain ⟨x, y, r, h0, hk⟩ := hdo
      have hh := ih _ _ _ _ hk
      exact hh
    | ishl =>
      obtain ⟨x, y, r, h0, hk⟩ := hdo
      have hh := ih _ _ _ _ hk
      exact hh
    | ishr =>
      obtain ⟨x, y, r, h0, hk⟩ := hdo
      have hh := ih _ _ _ _ hk
      exact hh
    | iconst n => exact ih _ _ _ _ hdo
    | bipush n => exact ih _ _ _ _ hdo
    | sipush n => exact ih _ _ _ _ hdo
    | ldc idx => exact ih _ _ _ _ hdo
    | aconst_null => exact ih _ _ _ _ hdo
    | goto off => exact ih _ _ _ _ hdo
    | ifCond cnd off =>
      obtain ⟨x, r, h0, k1, k2⟩ := hdo
      by_cases q : am_cond cnd x 0
      · exact ih _ _ _ _ (k1 q)
      · exact ih _ _ _ _ (k2 q)
    | if_icmp cnd off =>
      obtain ⟨x, y, r, h0, k1, k2⟩ := hdo
      by_cases q : am_cond cnd x y
      · exact ih _ _ _ _ (k1 q)
      · exact ih _ _ _ _ (k2 q)
    | ifnull off =>
      obtain ⟨x, r, h0, k1, k2⟩ := hdo
      by_cases q : x = none
      · exact ih _ _ _ _ (k1 q)
      · exact ih _ _ _ _ (k2 q)
    | ifnonnull off =>
      obtain ⟨x, r, h0, k1, k2⟩ := hdo
      by_cases q : x = none
      · exact ih _ _ _ _ (k2 q)
      · exact ih _ _ _ _ (k1 q)
    | if_acmp cnd off =>
      cases cnd with
      | ne => exact hdo.elim
      | eq =>
        obtain ⟨x, y, r, h0, k1, k2⟩ := hdo
        by_cases q : x = y
        · exact ih _ _ _ _ (k1 q)
        · exact ih _ _ _ _ (k2 q)
    | putfield idx =>
      obtain ⟨a, v, r, h0, ha, han, hka, hk⟩ := hdo
      rcases hk with ⟨f1, x, hv, hk⟩ | ⟨f1, x, hv, hx, hk⟩
      · have hh := ih _ _ _ _ hk
        exact hh
      · have hh := ih _ _ _ _ hk
        exact hh
    | new idx =>
      obtain ⟨rv, h', g1, g2, g3⟩ := ih _ _ _ _ hdo
      have g2' : am_n h + 1 ≤ am_n h' := g2
      have g3' : am_z h + am_N r1 ≤ am_z h' := g3
      exact ⟨rv, h', g1, by omega, by omega⟩
    | newarray at1 =>
      obtain ⟨k, r, h0, h1, h2, hk⟩ := hdo
      obtain ⟨rv, h', g1, g2, g3⟩ := ih _ _ _ _ hk
      have g2' : am_n h + 1 ≤ am_n h' := g2
      have g3' : am_z h + k.toNatClampNeg ≤ am_z h' := g3
      exact ⟨rv, h', g1, by omega, by omega⟩
    | anewarray idx =>
      obtain ⟨k, r, h0, h1, h2, hk⟩ := hdo
      obtain ⟨rv, h', g1, g2, g3⟩ := ih _ _ _ _ hk
      have g2' : am_n h + 1 ≤ am_n h' := g2
      have g3' : am_z h + k.toNatClampNeg ≤ am_z h' := g3
      exact ⟨rv, h', g1, by omega, by omega⟩
    | invokevirtual idx =>
      obtain ⟨as, a, r, rv, h', h0, h1, h2, h3, h4, h5, h6, hk⟩ := hdo
      obtain ⟨rv2, h2', g1, g2, g3⟩ := ih _ _ _ _ hk
      obtain ⟨n1, n2⟩ := hC _ _ _ _ _ h6
      exact ⟨rv2, h2', g1, Nat.le_trans n1 g2, Nat.le_trans n2 g3⟩
    | invokestatic idx =>
      rcases hdo with ⟨e1, x, r, h0, h2, hk⟩ | ⟨e1, x, y, r, h0, h2, hk⟩ | ⟨e1, x, y, r, h0, h2, hk⟩ | ⟨e1, as, r, rv, h', h0, h1, h2, h6, hk⟩
      · exact ih _ _ _ _ hk
      · exact ih _ _ _ _ hk
      · exact ih _ _ _ _ hk
      · obtain ⟨rv2, h2', g1, g2, g3⟩ := ih _ _ _ _ hk
        obtain ⟨n1, n2⟩ := hC _ _ _ _ _ h6
        exact ⟨rv2, h2', g1, Nat.le_trans n1 g2, Nat.le_trans n2 g3⟩
    | invokespecial idx =>
      rcases hdo with ⟨e1, a, r, h0, h2, hk⟩ | ⟨e1, as, a, r, rv, h', h0, h1, h2, h6, hk⟩
      · exact ih _ _ _ _ hk
      · obtain ⟨rv2, h2', g1, g2, g3⟩ := ih _ _ _ _ hk
        obtain ⟨n1, n2⟩ := hC _ _ _ _ _ h6
        exact ⟨rv2, h2', g1, Nat.le_trans n1 g2, Nat.le_trans n2 g3⟩
    | ireturn => obtain ⟨x, h0, h1, hq⟩ := hdo; exact ⟨_, h, hq, Nat.le_refl _, Nat.le_refl _⟩
    | areturn => obtain ⟨x, h0, hq⟩ := hdo; exact ⟨_, h, hq, Nat.le_refl _, Nat.le_refl _⟩
    | return_ => obtain ⟨h0, hq⟩ := hdo; exact ⟨_, h, hq, Nat.le_refl _, Nat.le_refl _⟩
    | _ => exact hdo.elim
theorem Res_grow : ∀ (d y : Nat) (as : List Value) (h : Hp) (rv : Option Value) (h' : Hp), Res d y as h rv h' → am_n h ≤ am_n h' ∧ am_z h ≤ am_z h' := by
  intro d
  induction d with
  | zero => intro y as h rv h' hr; exact hr.elim
  | succ d ih =>
    intro y as h rv h' hr
    obtain ⟨hy, n, h1, h2, hw⟩ := hr
    obtain ⟨rv2, h2', ⟨g0, g1⟩, g2, g3⟩ := am_grow ih n _ _ _ _ hw
    subst g1
    exact ⟨g2, g3⟩
set_option maxRecDepth 100000 in
theorem am_mem {y : Nat} (h : y < 119) : am_m y ∈ am_msW := by
  have key : ∀ y, y < 119 → am_m y = am_msW.getD y mL_law := by
    intro y hy
    have e : am_msW = am_ms.take 119 ++ [mL_law] := rfl
    rw [e]
    unfold am_m
    rw [List.getD_eq_getElem?_getD, List.getD_eq_getElem?_getD, List.getElem?_append_left (by rw [List.length_take]; exact Nat.lt_min.mpr ⟨hy, Nat.lt_of_lt_of_le hy (by decide +kernel)⟩), List.getElem?_take_of_lt hy]
  rw [key y h, List.getD_eq_getElem?_getD]
  have hl : y < am_msW.length := Nat.lt_of_lt_of_le h (by decide +kernel)
  rw [List.getElem?_eq_getElem hl]
  exact List.getElem_mem hl

