/-! THE CLASS: shelves torn and mended, claims written; the reference's cells don't matter to it -/
section TR5
variable {S S' : St} {h h' : Hp}
theorem CR.wi (hR : CR S h) (T : St) : CR S (am_wi h T) := by
  have off : ∀ a, (a = 1 ∨ 38 ≤ a) → am_i (am_wi h T) a = am_i h a := fun a e => am_wi_off (by omega)
  refine hR.quiet ⟨rfl, rfl, rfl, rfl, fun _ _ _ => rfl⟩ ⟨rfl, rfl, rfl, rfl⟩ ?_ (fun k hk => ?_) (fun k hk => ?_) (fun k hk => ?_) (fun k hk => ?_)
  · unfold CSc
    rw [off 1 (Or.inl rfl)]
    exact hR.2.1
  · rw [off _ (Or.inr (hR.sh_38 k hk))]
    exact ⟨hR.sh0 k hk, hR.sh1 k hk, hR.sh2 k hk, hR.sh3 k hk, hR.sh4 k hk, hR.sh5 k hk, hR.sh6 k hk, hR.sh7 k hk⟩
  · rw [off _ (Or.inr (hR.th_38 k hk))]
    exact ⟨hR.th0 k hk, hR.th1 k hk, hR.th2 k hk, hR.th3 k hk, hR.th4 k hk, hR.th5 k hk, hR.th6 k hk, hR.th7 k hk, hR.th9 k hk, hR.th10 k hk, hR.th_p k hk⟩
  · rw [off _ (Or.inr (hR.cl_38 k hk)), off _ (Or.inr (hR.cl_t38 k hk))]
    exact ⟨hR.cl1 k hk, hR.cl2 k hk, hR.cl_tv k hk⟩
  · rw [off _ (Or.inr (hR.ro_38 k hk))]
    exact ⟨hR.ro0 k hk, hR.ro1 k hk, hR.ro2 k hk, hR.ro3 k hk, hR.ro4 k hk⟩
/-- one cell's ints change: a shelf's tornness, or a claim's; the rest as it was -/
theorem CR.one (hR : CR S h) {b : Nat} (hb : 38 ≤ b) (x : Qt h h') (hi : ∀ a, ¬ a = b → am_i h' a = am_i h a) (hr : am_r h' = am_r h) (hS : ∀ a k, ¬ a = 20 → ¬ a = 32 → ¬ a = 33 → ¬ a = 34 → S' a k = S a k)
    (hT : ∀ k, k < cT S → ¬ thA h k = b) (hO : ∀ k, k < cR S → ¬ roA h k = b)
    (hs : ∀ k, k < cS S → am_i h' (shA h k) 7 = S' 20 k ∧ ∀ j, ¬ j = 7 → am_i h' (shA h k) j = am_i h (shA h k) j)
    (hc : ∀ k, k < cC S → am_i h' (clA h k) 1 = S' 34 k ∧ am_i h' (clA h k) 2 = S' 33 k ∧ ∀ j, j < 4 → am_i h' (toA h k) j = S' 32 (4 * k + j)) : CR S' h' := by
  have n1 : ¬ 1 = b := by omega
  have s10 : ∀ k, S' 10 k = S 10 k := fun k => hS 10 k (by decide) (by decide) (by decide) (by decide)
  have q : ∀ {a : Nat}, ¬ a = 20 → ¬ a = 32 → ¬ a = 33 → ¬ a = 34 → S' a = S a := fun e1 e2 e3 e4 => funext fun k => hS _ k e1 e2 e3 e4
  have r26 := q (a := 26) (by decide) (by decide) (by decide) (by decide)
  have r27 := q (a := 27) (by decide) (by decide) (by decide) (by decide)
  have r21 := q (a := 21) (by decide) (by decide) (by decide) (by decide)
  have r16 := q (a := 16) (by decide) (by decide) (by decide) (by decide)
  refine hR.quiet x ⟨by unfold cS; rw [s10], by unfold cT; rw [s10], by unfold cC; rw [s10], by unfold cR; rw [s10]⟩ ?_ (fun k hk => ?_) (fun k hk => ?_) (fun k hk => hc k hk) (fun k hk => ?_)
  · unfold CSc
    simp only [hi 1 n1, s10]
    exact hR.2.1
  · obtain ⟨f7, fs⟩ := hs k hk
    rw [sFree_congr (S := S) (S' := S') (s := k) (cT S) (by rw [r16]) (fun t _ => ⟨by rw [r26], by rw [r27], by rw [r21]⟩), sLoad_congr (S := S) (S' := S') (s := k) (cT S) (fun t _ => ⟨by rw [r26], by rw [r27]⟩), r16, q (a := 17) (by decide) (by decide) (by decide) (by decide), q (a := 18) (by decide) (by decide) (by decide) (by decide), q (a := 19) (by decide) (by decide) (by decide) (by decide)]
    exact ⟨(fs 0 (by decide)).trans (hR.sh0 k hk), (fs 1 (by decide)).trans (hR.sh1 k hk), (fs 2 (by decide)).trans (hR.sh2 k hk), (fs 3 (by decide)).trans (hR.sh3 k hk), (fs 4 (by decide)).trans (hR.sh4 k hk), (fs 5 (by decide)).trans (hR.sh5 k hk), (fs 6 (by decide)).trans (hR.sh6 k hk), f7⟩
  · have eo : onN S' k = onN S k := by unfold onN; rw [r27]
    rw [hi _ (hT k hk), hr, eo, r21, r26, q (a := 22) (by decide) (by decide) (by decide) (by decide), q (a := 23) (by decide) (by decide) (by decide) (by decide), q (a := 24) (by decide) (by decide) (by decide) (by decide), q (a := 25) (by decide) (by decide) (by decide) (by decide), q (a := 28) (by decide) (by decide) (by decide) (by decide), q (a := 29) (by decide) (by decide) (by decide) (by decide), q (a := 30) (by decide) (by decide) (by decide) (by decide), q (a := 31) (by decide) (by decide) (by decide) (by decide)]
    exact ⟨hR.th0 k hk, hR.th1 k hk, hR.th2 k hk, hR.th3 k hk, hR.th4 k hk, hR.th5 k hk, hR.th6 k hk, hR.th7 k hk, hR.th9 k hk, hR.th10 k hk, hR.th_p k hk⟩
  · rw [hi _ (hO k hk), q (a := 11) (by decide) (by decide) (by decide) (by decide), q (a := 12) (by decide) (by decide) (by decide) (by decide), q (a := 13) (by decide) (by decide) (by decide) (by decide), q (a := 14) (by decide) (by decide) (by decide) (by decide), q (a := 15) (by decide) (by decide) (by decide) (by decide)]
    exact ⟨hR.ro0 k hk, hR.ro1 k hk, hR.ro2 k hk, hR.ro3 k hk, hR.ro4 k hk⟩
theorem CR.tear (hR : CR S h) {s : Nat} (hs : s < cS S) (v : Int32) : CR (up2 S 20 s v) (am_setI h (shA h s) 7 v) := by
  refine hR.one (hR.sh_38 s hs) (Qt.setI _ _ _ _) (fun a e => am_ix_ne e) rfl (fun a k e1 _ _ _ => up2_ne (fun z => e1 z.1)) (fun k hk => (hR.th_ob k hk).ne (hR.sh_ob s hs) (by decide)) (fun k hk => (hR.ro_ob k hk).ne (hR.sh_ob s hs) (by decide)) (fun k hk => ⟨?_, fun j e => am_ij_ne e⟩) (fun k hk => ?_)
  · by_cases e : k = s
    · subst e; rw [am_ij_eq, up2_eq]
    · rw [am_ix_ne (hR.shInj hk hs e), up2_ne (fun z => e z.2)]; exact hR.sh7 k hk
  · rw [am_ix_ne ((hR.cl_ob k hk).ne (hR.sh_ob s hs) (by decide)), am_ix_ne ((hR.cl_ta k hk).1.ne (hR.sh_ob s hs) (by decide))]
    exact ⟨hR.cl1 k hk, hR.cl2 k hk, hR.cl_tv k hk⟩
theorem CR.told (hR : CR S h) {c k : Nat} (hc : c < cC S) (hk : k < 4) (v : Int32) : CR (up2 S 32 (4 * c + k) v) (am_setI h (toA h c) k v) := by
  have ob := (hR.cl_ta c hc).1
  refine hR.one (hR.cl_t38 c hc) (Qt.setI _ _ _ _) (fun a e => am_ix_ne e) rfl (fun a j _ e2 _ _ => up2_ne (fun z => e2 z.1)) (fun q hq => (hR.th_ob q hq).ne ob (by decide)) (fun q hq => (hR.ro_ob q hq).ne ob (by decide)) (fun q hq => ⟨?_, fun j _ => by rw [am_ix_ne ((hR.sh_ob q hq).ne ob (by decide))]⟩) (fun q hq => ?_)
  · rw [am_ix_ne ((hR.sh_ob q hq).ne ob (by decide))]; exact hR.sh7 q hq
  · rw [am_ix_ne ((hR.cl_ob q hq).ne ob (by decide))]
    refine ⟨hR.cl1 q hq, hR.cl2 q hq, fun j hj => ?_⟩
    by_cases e : q = c
    · subst e
      by_cases e2 : j = k
      · subst e2; rw [am_ij_eq, up2_eq]
      · rw [am_ij_ne e2, up2_ne (fun z => by omega)]; exact hR.cl_tv q hq j hj
    · rw [am_ix_ne (hR.toInj hq hc e), up2_ne (fun z => by omega)]; exact hR.cl_tv q hq j hj
theorem CR.done (hR : CR S h) {c : Nat} (hc : c < cC S) (v : Int32) : CR (up2 S 34 c v) (am_setI h (clA h c) 1 v) := by
  have ob := hR.cl_ob c hc
  refine hR.one (hR.cl_38 c hc) (Qt.setI _ _ _ _) (fun a e => am_ix_ne e) rfl (fun a j _ _ _ e4 => up2_ne (fun z => e4 z.1)) (fun q hq => (hR.th_ob q hq).ne ob (by decide)) (fun q hq => (hR.ro_ob q hq).ne ob (by decide)) (fun q hq => ⟨?_, fun j _ => by rw [am_ix_ne ((hR.sh_ob q hq).ne ob (by decide))]⟩) (fun q hq => ?_)
  · rw [am_ix_ne ((hR.sh_ob q hq).ne ob (by decide))]; exact hR.sh7 q hq
  · rw [am_ix_ne ((hR.cl_ta q hq).1.ne ob (by decide)), am_ij_ne (j := 2) (by decide)]
    refine ⟨?_, hR.cl2 q hq, hR.cl_tv q hq⟩
    by_cases e : q = c
    · subst e; rw [am_ij_eq, up2_eq]
    · rw [am_ix_ne (hR.clInj hq hc e), up2_ne (fun z => e z.2)]; exact hR.cl1 q hq
theorem CR.got (hR : CR S h) {c : Nat} (hc : c < cC S) (v : Int32) : CR (up2 S 33 c v) (am_setI h (clA h c) 2 v) := by
  have ob := hR.cl_ob c hc
  refine hR.one (hR.cl_38 c hc) (Qt.setI _ _ _ _) (fun a e => am_ix_ne e) rfl (fun a j _ _ e3 _ => up2_ne (fun z => e3 z.1)) (fun q hq => (hR.th_ob q hq).ne ob (by decide)) (fun q hq => (hR.ro_ob q hq).ne ob (by decide)) (fun q hq => ⟨?_, fun j _ => by rw [am_ix_ne ((hR.sh_ob q hq).ne ob (by decide))]⟩) (fun q hq => ?_)
  · rw [am_ix_ne ((hR.sh_ob q hq).ne ob (by decide))]; exact hR.sh7 q hq
  · rw [am_ix_ne ((hR.cl_ta q hq).1.ne ob (by decide)), am_ij_ne (j := 1) (by decide)]
    refine ⟨hR.cl1 q hq, ?_, hR.cl_tv q hq⟩
    by_cases e : q = c
    · subst e; rw [am_ij_eq, up2_eq]
    · rw [am_ix_ne (hR.clInj hq hc e), up2_ne (fun z => e z.2)]; exact hR.cl2 q hq
/-- coins, day of sale of a thing -/
theorem CR.coins (hR : CR S h) {t : Nat} (ht : t < cT S) (v : Int32) : CR (up2 S 28 t v) (am_setI h (thA h t) 9 v) :=
  hR.thg ht (Qt.setI _ _ _ _) (fun a e => am_ix_ne e) rfl (fun a k e => up2_ne (fun z => e ⟨z.2, Or.inr (Or.inl z.1)⟩)) (by rw [up2_ne (by omega)]) (fun k e1 e2 e3 => am_ij_ne e2) (by rw [am_ij_ne (by decide), up2_ne (by omega)]; exact hR.th7 t ht) (by rw [am_ij_eq, up2_eq]) (by rw [am_ij_ne (by decide), up2_ne (by omega)]; exact hR.th10 t ht)
theorem CR.sday (hR : CR S h) {t : Nat} (ht : t < cT S) (v : Int32) : CR (up2 S 29 t v) (am_setI h (thA h t) 10 v) :=
  hR.thg ht (Qt.setI _ _ _ _) (fun a e => am_ix_ne e) rfl (fun a k e => up2_ne (fun z => e ⟨z.2, Or.inr (Or.inr z.1)⟩)) (by rw [up2_ne (by omega)]) (fun k e1 e2 e3 => am_ij_ne e3) (by rw [am_ij_ne (by decide), up2_ne (by omega)]; exact hR.th7 t ht) (by rw [am_ij_ne (by decide), up2_ne (by omega)]; exact hR.th9 t ht) (by rw [am_ij_eq, up2_eq])
theorem CR.how (hR : CR S h) {t : Nat} (ht : t < cT S) {v : Int32} (h0 : ¬ S 26 t = 0) (hv : ¬ v = 0) : CR (up2 S 26 t v) (am_setI h (thA h t) 7 v) :=
  hR.thg ht (Qt.setI _ _ _ _) (fun a e => am_ix_ne e) rfl (fun a k e => up2_ne (fun z => e ⟨z.2, Or.inl z.1⟩)) (by rw [up2_eq]; exact ⟨fun z => absurd z hv, fun z => absurd z h0⟩) (fun k e1 e2 e3 => am_ij_ne e1) (by rw [am_ij_eq, up2_eq]) (by rw [am_ij_ne (by decide), up2_ne (by omega)]; exact hR.th9 t ht) (by rw [am_ij_ne (by decide), up2_ne (by omega)]; exact hR.th10 t ht)
end TR5
