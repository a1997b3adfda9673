/-! A run that ends in some way ends in one way -/
theorem am_ex {cod : List am_E} {Cal : am_Ct} {Q : Option Value → Hp → Prop} : ∀ (n : Nat) (pc : Nat) (ls : am_Ls) (st : List Value) (h : Hp), am_wp cod Cal Q n pc ls st h → ∃ rv h', Q rv h' ∧ am_wp cod Cal (fun r1 h1 => r1 = rv ∧ h1 = h') n pc ls st h := by
  intro n
  induction n with
  | zero => intro pc ls st h hw; exact hw.elim
  | succ n ih =>
    intro pc ls st h hw
    obtain ⟨q, hm, hdo⟩ := hw
    obtain ⟨i, len, r1, r2, r3⟩ := q
    cases i with
    | if_acmp cnd off =>
      cases cnd with
      | ne => exact hdo.elim
      | eq =>
        obtain ⟨x, y, r, h0, k1, k2⟩ := hdo
        by_cases z : x = y
        · obtain ⟨rvx, hx1, qx, hk⟩ := ih _ _ _ _ (k1 z)
          exact ⟨rvx, hx1, qx, _, hm, x, y, r, h0, fun _ => hk, fun w => absurd z w⟩
        · obtain ⟨rvx, hx1, qx, hk⟩ := ih _ _ _ _ (k2 z)
          exact ⟨rvx, hx1, qx, _, hm, x, y, r, h0, fun w => absurd w z, fun _ => hk⟩
    | ifCond cnd off =>
      obtain ⟨x, r, h0, k1, k2⟩ := hdo
      by_cases z : am_cond cnd x 0
      · obtain ⟨rvx, hx1, qx, hk⟩ := ih _ _ _ _ (k1 z)
        exact ⟨rvx, hx1, qx, _, hm, x, r, h0, fun _ => hk, fun w => absurd z w⟩
      · obtain ⟨rvx, hx1, qx, hk⟩ := ih _ _ _ _ (k2 z)
        exact ⟨rvx, hx1, qx, _, hm, x, r, h0, fun w => absurd w z, fun _ => hk⟩
    | if_icmp cnd off =>
      obtain ⟨x, y, r, h0, k1, k2⟩ := hdo
      by_cases z : am_cond cnd x y
      · obtain ⟨rvx, hx1, qx, hk⟩ := ih _ _ _ _ (k1 z)
        exact ⟨rvx, hx1, qx, _, hm, x, y, r, h0, fun _ => hk, fun w => absurd z w⟩
      · obtain ⟨rvx, hx1, qx, hk⟩ := ih _ _ _ _ (k2 z)
        exact ⟨rvx, hx1, qx, _, hm, x, y, r, h0, fun w => absurd w z, fun _ => hk⟩
    | ifnull off =>
      obtain ⟨x, r, h0, k1, k2⟩ := hdo
      by_cases z : x = none
      · obtain ⟨rvx, hx1, qx, hk⟩ := ih _ _ _ _ (k1 z)
        exact ⟨rvx, hx1, qx, _, hm, x, r, h0, fun _ => hk, fun w => absurd z w⟩
      · obtain ⟨rvx, hx1, qx, hk⟩ := ih _ _ _ _ (k2 z)
        exact ⟨rvx, hx1, qx, _, hm, x, r, h0, fun w => absurd w z, fun _ => hk⟩
    | ifnonnull off =>
      obtain ⟨x, r, h0, k1, k2⟩ := hdo
      by_cases z : ¬ x = none
      · obtain ⟨rvx, hx1, qx, hk⟩ := ih _ _ _ _ (k1 z)
        exact ⟨rvx, hx1, qx, _, hm, x, r, h0, fun _ => hk, fun w => absurd w z⟩
      · obtain ⟨rvx, hx1, qx, hk⟩ := ih _ _ _ _ (k2 (Decidable.not_not.mp z))
        exact ⟨rvx, hx1, qx, _, hm, x, r, h0, fun w => absurd w z, fun _ => hk⟩
    | iload j => obtain ⟨x, h1, hk⟩ := hdo; obtain ⟨rvx, hx1, qx, hk⟩ := ih _ _ _ _ hk; exact ⟨rvx, hx1, qx, _, hm, x, h1, hk⟩
    | iload_n j => obtain ⟨x, h1, hk⟩ := hdo; obtain ⟨rvx, hx1, qx, hk⟩ := ih _ _ _ _ hk; exact ⟨rvx, hx1, qx, _, hm, x, h1, hk⟩
    | aload j => obtain ⟨x, h1, hk⟩ := hdo; obtain ⟨rvx, hx1, qx, hk⟩ := ih _ _ _ _ hk; exact ⟨rvx, hx1, qx, _, hm, x, h1, hk⟩
    | aload_n j => obtain ⟨x, h1, hk⟩ := hdo; obtain ⟨rvx, hx1, qx, hk⟩ := ih _ _ _ _ hk; exact ⟨rvx, hx1, qx, _, hm, x, h1, hk⟩
    | istore j => obtain ⟨x, r, h0, h1, hk⟩ := hdo; obtain ⟨rvx, hx1, qx, hk⟩ := ih _ _ _ _ hk; exact ⟨rvx, hx1, qx, _, hm, x, r, h0, h1, hk⟩
    | istore_n j => obtain ⟨x, r, h0, h1, hk⟩ := hdo; obtain ⟨rvx, hx1, qx, hk⟩ := ih _ _ _ _ hk; exact ⟨rvx, hx1, qx, _, hm, x, r, h0, h1, hk⟩
    | astore j => obtain ⟨x, r, h0, h1, hk⟩ := hdo; obtain ⟨rvx, hx1, qx, hk⟩ := ih _ _ _ _ hk; exact ⟨rvx, hx1, qx, _, hm, x, r, h0, h1, hk⟩
    | astore_n j => obtain ⟨x, r, h0, h1, hk⟩ := hdo; obtain ⟨rvx, hx1, qx, hk⟩ := ih _ _ _ _ hk; exact ⟨rvx, hx1, qx, _, hm, x, r, h0, h1, hk⟩
    | iconst n => obtain ⟨rvx, hx1, qx, hk⟩ := ih _ _ _ _ hdo; exact ⟨rvx, hx1, qx, _, hm, hk⟩
    | bipush n => obtain ⟨rvx, hx1, qx, hk⟩ := ih _ _ _ _ hdo; exact ⟨rvx, hx1, qx, _, hm, hk⟩
    | sipush n => obtain ⟨rvx, hx1, qx, hk⟩ := ih _ _ _ _ hdo; exact ⟨rvx, hx1, qx, _, hm, hk⟩
    | ldc n => obtain ⟨rvx, hx1, qx, hk⟩ := ih _ _ _ _ hdo; exact ⟨rvx, hx1, qx, _, hm, hk⟩
    | aconst_null => obtain ⟨rvx, hx1, qx, hk⟩ := ih _ _ _ _ hdo; exact ⟨rvx, hx1, qx, _, hm, hk⟩
    | goto n => obtain ⟨rvx, hx1, qx, hk⟩ := ih _ _ _ _ hdo; exact ⟨rvx, hx1, qx, _, hm, hk⟩
    | new n => obtain ⟨rvx, hx1, qx, hk⟩ := ih _ _ _ _ hdo; exact ⟨rvx, hx1, qx, _, hm, hk⟩
    | iinc j n => obtain ⟨x, h1, hk⟩ := hdo; obtain ⟨rvx, hx1, qx, hk⟩ := ih _ _ _ _ hk; exact ⟨rvx, hx1, qx, _, hm, x, h1, hk⟩
    | iadd => obtain ⟨x, y, r, h0, hk⟩ := hdo; obtain ⟨rvx, hx1, qx, hk⟩ := ih _ _ _ _ hk; exact ⟨rvx, hx1, qx, _, hm, x, y, r, h0, hk⟩
    | isub => obtain ⟨x, y, r, h0, hk⟩ := hdo; obtain ⟨rvx, hx1, qx, hk⟩ := ih _ _ _ _ hk; exact ⟨rvx, hx1, qx, _, hm, x, y, r, h0, hk⟩
    | imul => obtain ⟨x, y, r, h0, hk⟩ := hdo; obtain ⟨rvx, hx1, qx, hk⟩ := ih _ _ _ _ hk; exact ⟨rvx, hx1, qx, _, hm, x, y, r, h0, hk⟩
    | iand => obtain ⟨x, y, r, h0, hk⟩ := hdo; obtain ⟨rvx, hx1, qx, hk⟩ := ih _ _ _ _ hk; exact ⟨rvx, hx1, qx, _, hm, x, y, r, h0, hk⟩
    | ishl => obtain ⟨x, y, r, h0, hk⟩ := hdo; obtain ⟨rvx, hx1, qx, hk⟩ := ih _ _ _ _ hk; exact ⟨rvx, hx1, qx, _, hm, x, y, r, h0, hk⟩
    | ishr => obtain ⟨x, y, r, h0, hk⟩ := hdo; obtain ⟨rvx, hx1, qx, hk⟩ := ih _ _ _ _ hk; exact ⟨rvx, hx1, qx, _, hm, x, y, r, h0, hk⟩
    | idiv => obtain ⟨x, y, r, h0, h1, hk⟩ := hdo; obtain ⟨rvx, hx1, qx, hk⟩ := ih _ _ _ _ hk; exact ⟨rvx, hx1, qx, _, hm, x, y, r, h0, h1, hk⟩
    | irem => obtain ⟨x, y, r, h0, h1, hk⟩ := hdo; obtain ⟨rvx, hx1, qx, hk⟩ := ih _ _ _ _ hk; exact ⟨rvx, hx1, qx, _, hm, x, y, r, h0, h1, hk⟩
    | ineg => obtain ⟨x, r, h0, hk⟩ := hdo; obtain ⟨rvx, hx1, qx, hk⟩ := ih _ _ _ _ hk; exact ⟨rvx, hx1, qx, _, hm, x, r, h0, hk⟩
    | dup => obtain ⟨x, r, h0, h1, hk⟩ := hdo; obtain ⟨rvx, hx1, qx, hk⟩ := ih _ _ _ _ hk; exact ⟨rvx, hx1, qx, _, hm, x, r, h0, h1, hk⟩
    | dup2 => obtain ⟨x, y, r, h0, h1, h2, hk⟩ := hdo; obtain ⟨rvx, hx1, qx, hk⟩ := ih _ _ _ _ hk; exact ⟨rvx, hx1, qx, _, hm, x, y, r, h0, h1, h2, hk⟩
    | tableswitch d lo hi offs => obtain ⟨x, r, t, h0, h1, hk⟩ := hdo; obtain ⟨rvx, hx1, qx, hk⟩ := ih _ _ _ _ hk; exact ⟨rvx, hx1, qx, _, hm, x, r, t, h0, h1, hk⟩
    | getfield idx => obtain ⟨a, r, h0, h1, h2, h3, hk⟩ := hdo; obtain ⟨rvx, hx1, qx, hk⟩ := ih _ _ _ _ hk; exact ⟨rvx, hx1, qx, _, hm, a, r, h0, h1, h2, h3, hk⟩
    | putfield idx =>
      obtain ⟨a, v, r, h0, h1, h2, h3, hk⟩ := hdo
      rcases hk with ⟨f1, x, hv, hk⟩ | ⟨f1, x, hv, hx, hk⟩
      · obtain ⟨rvx, hx1, qx, hk⟩ := ih _ _ _ _ hk; exact ⟨rvx, hx1, qx, _, hm, ⟨a, v, r, h0, h1, h2, h3, Or.inl ⟨f1, x, hv, hk⟩⟩⟩
      · obtain ⟨rvx, hx1, qx, hk⟩ := ih _ _ _ _ hk; exact ⟨rvx, hx1, qx, _, hm, ⟨a, v, r, h0, h1, h2, h3, Or.inr ⟨f1, x, hv, hx, hk⟩⟩⟩
    | newarray at1 => obtain ⟨k, r, h0, h1, h2, hk⟩ := hdo; obtain ⟨rvx, hx1, qx, hk⟩ := ih _ _ _ _ hk; exact ⟨rvx, hx1, qx, _, hm, k, r, h0, h1, h2, hk⟩
    | anewarray at1 => obtain ⟨k, r, h0, h1, h2, hk⟩ := hdo; obtain ⟨rvx, hx1, qx, hk⟩ := ih _ _ _ _ hk; exact ⟨rvx, hx1, qx, _, hm, k, r, h0, h1, h2, hk⟩
    | iaload => obtain ⟨i, a, r, h0, h1, h2, h3, hk⟩ := hdo; obtain ⟨rvx, hx1, qx, hk⟩ := ih _ _ _ _ hk; exact ⟨rvx, hx1, qx, _, hm, i, a, r, h0, h1, h2, h3, hk⟩
    | baload => obtain ⟨i, a, r, h0, h1, h2, h3, h4, hk⟩ := hdo; obtain ⟨rvx, hx1, qx, hk⟩ := ih _ _ _ _ hk; exact ⟨rvx, hx1, qx, _, hm, i, a, r, h0, h1, h2, h3, h4, hk⟩
    | aaload => obtain ⟨i, a, r, h0, h1, h2, h3, h4, h5, hk⟩ := hdo; obtain ⟨rvx, hx1, qx, hk⟩ := ih _ _ _ _ hk; exact ⟨rvx, hx1, qx, _, hm, i, a, r, h0, h1, h2, h3, h4, h5, hk⟩
    | iastore => obtain ⟨x, i, a, r, h0, h1, h2, h3, h4, hk⟩ := hdo; obtain ⟨rvx, hx1, qx, hk⟩ := ih _ _ _ _ hk; exact ⟨rvx, hx1, qx, _, hm, x, i, a, r, h0, h1, h2, h3, h4, hk⟩
    | bastore => obtain ⟨x, i, a, r, h0, h1, h2, h3, h4, h5, hk⟩ := hdo; obtain ⟨rvx, hx1, qx, hk⟩ := ih _ _ _ _ hk; exact ⟨rvx, hx1, qx, _, hm, x, i, a, r, h0, h1, h2, h3, h4, h5, hk⟩
    | aastore => obtain ⟨v, i, a, r, h0, h1, h2, h3, h4, h5, h6, h7, h8, hk⟩ := hdo; obtain ⟨rvx, hx1, qx, hk⟩ := ih _ _ _ _ hk; exact ⟨rvx, hx1, qx, _, hm, v, i, a, r, h0, h1, h2, h3, h4, h5, h6, h7, h8, hk⟩
    | arraylength => obtain ⟨a, r, h0, h1, h2, h3, hk⟩ := hdo; obtain ⟨rvx, hx1, qx, hk⟩ := ih _ _ _ _ hk; exact ⟨rvx, hx1, qx, _, hm, a, r, h0, h1, h2, h3, hk⟩
    | invokevirtual idx => obtain ⟨as, a, r, rv, h', h0, h1, h2, h3, h4, h5, h6, hk⟩ := hdo; obtain ⟨rvx, hx1, qx, hk⟩ := ih _ _ _ _ hk; exact ⟨rvx, hx1, qx, _, hm, as, a, r, rv, h', h0, h1, h2, h3, h4, h5, h6, hk⟩
    | invokestatic idx =>
      rcases hdo with ⟨e1, x, r, h0, h2, hk⟩ | ⟨e1, x, y, r, h0, h2, hk⟩ | ⟨e1, x, y, r, h0, h2, hk⟩ | ⟨e1, as, r, rv, h', h0, h1, h2, h6, hk⟩
      · obtain ⟨rvx, hx1, qx, hk⟩ := ih _ _ _ _ hk; exact ⟨rvx, hx1, qx, _, hm, Or.inl ⟨e1, x, r, h0, h2, hk⟩⟩
      · obtain ⟨rvx, hx1, qx, hk⟩ := ih _ _ _ _ hk; exact ⟨rvx, hx1, qx, _, hm, Or.inr (Or.inl ⟨e1, x, y, r, h0, h2, hk⟩)⟩
      · obtain ⟨rvx, hx1, qx, hk⟩ := ih _ _ _ _ hk; exact ⟨rvx, hx1, qx, _, hm, Or.inr (Or.inr (Or.inl ⟨e1, x, y, r, h0, h2, hk⟩))⟩
      · obtain ⟨rvx, hx1, qx, hk⟩ := ih _ _ _ _ hk; exact ⟨rvx, hx1, qx, _, hm, Or.inr (Or.inr (Or.inr ⟨e1, as, r, rv, h', h0, h1, h2, h6, hk⟩))⟩
    | invokespecial idx =>
      rcases hdo with ⟨e1, a, r, h0, h2, hk⟩ | ⟨e1, as, a, r, rv, h', h0, h1, h2, h6, hk⟩
      · obtain ⟨rvx, hx1, qx, hk⟩ := ih _ _ _ _ hk; exact ⟨rvx, hx1, qx, _, hm, Or.inl ⟨e1, a, r, h0, h2, hk⟩⟩
      · obtain ⟨rvx, hx1, qx, hk⟩ := ih _ _ _ _ hk; exact ⟨rvx, hx1, qx, _, hm, Or.inr ⟨e1, as, a, r, rv, h', h0, h1, h2, h6, hk⟩⟩
    | ireturn => obtain ⟨x, h0, h1, hq⟩ := hdo; exact ⟨_, _, hq, _, hm, x, h0, h1, rfl, rfl⟩
    | areturn => obtain ⟨x, h0, hq⟩ := hdo; exact ⟨_, _, hq, _, hm, x, h0, rfl, rfl⟩
    | return_ => obtain ⟨h0, hq⟩ := hdo; exact ⟨_, _, hq, _, hm, h0, rfl, rfl⟩
    | _ => exact hdo.elim
theorem WP.ex {cod : List am_E} {Cal : am_Ct} {Q : Option Value → Hp → Prop} {pc : Nat} {ls : am_Ls} {st : List Value} {h : Hp} (w : WP cod Cal Q pc ls st h) : ∃ rv h', Q rv h' ∧ WP cod Cal (fun r1 h1 => r1 = rv ∧ h1 = h') pc ls st h := by
  obtain ⟨n, w⟩ := w
  obtain ⟨rv, h', q, w⟩ := am_ex n _ _ _ _ w
  exact ⟨rv, h', q, n, w⟩
theorem Res_ex {d y : Nat} {M : am_M} {as : List Value} {h : Hp} {P : Option Value → Hp → Prop} {ls : am_Ls} (hM : am_m y = M) (hy : Nat.blt y 119 = true) (hl : Nat.ble as.length M.2.2.1 = true) (hc : (as.all fun v => Nat.beq v.category 1) = true) (hls : as.map some ++ List.replicate (M.2.2.1 - as.length) none = ls) (k : WP M.2.2.2.2.2 (Res d) P 0 ls [] h) : ∃ rv h', P rv h' ∧ Res (d + 1) y as h rv h' := by
  obtain ⟨rv, h', q, w⟩ := k.ex
  exact ⟨rv, h', q, Res_intro hM hy hl hc hls w⟩
