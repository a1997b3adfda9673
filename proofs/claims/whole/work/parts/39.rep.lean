/-! THE CLASS: writes to things, shelves, claims; a thing leaves its shelf -/
theorem sFree_congr2 {S S' : St} {s : Nat} : ∀ (n : Nat), S' 16 s = S 16 s → (∀ t, t < n → (S' 26 t = 0 ↔ S 26 t = 0) ∧ S' 27 t = S 27 t ∧ S' 21 t = S 21 t) → sFree S' s n = sFree S s n := by
  intro n
  induction n with
  | zero => intro h1 _; exact h1
  | succ n ih =>
    intro h1 h2
    obtain ⟨a, b, c⟩ := h2 n (by omega)
    simp only [sFree, a, b, c, ih h1 (fun t ht => h2 t (by omega))]
theorem sLoad_congr2 {S S' : St} {s : Nat} : ∀ (n : Nat), (∀ t, t < n → (S' 26 t = 0 ↔ S 26 t = 0) ∧ S' 27 t = S 27 t) → sLoad S' s n = sLoad S s n := by
  intro n
  induction n with
  | zero => intro _; rfl
  | succ n ih =>
    intro h2
    obtain ⟨a, b⟩ := h2 n (by omega)
    simp only [sLoad, a, b, ih (fun t ht => h2 t (by omega))]
theorem i32_swap (a b c : Int32) : a + b - c = a - c + b := by
  rw [Int32.sub_eq_add_neg, Int32.sub_eq_add_neg, Int32.add_assoc, Int32.add_assoc, Int32.add_comm b (-c)]
theorem i32_swap2 (a b c : Int32) : a - b + c = a + c - b := (i32_swap a c b).symm
theorem sFree_lv {S S' : St} {t o s : Nat} (h16 : S' 16 s = S 16 s) (h26 : ∀ k, ¬ k = t → S' 26 k = S 26 k) (h27 : ∀ k, S' 27 k = S 27 k) (h21 : ∀ k, S' 21 k = S 21 k) (hi : S 26 t = 0) (hw : ¬ S' 26 t = 0) (ho : S 27 t = nI o) : ∀ (n : Nat), sFree S' s n = if t < n ∧ nI o = nI s then sFree S s n + S 21 t else sFree S s n := by
  intro n
  induction n with
  | zero => rw [if_neg (by omega)]; exact h16
  | succ n ih =>
    by_cases e : n = t
    · subst e
      rw [if_neg (by omega)] at ih
      have e1 : sFree S' s (n + 1) = sFree S s n := by
        show (if S' 26 n = 0 ∧ S' 27 n = nI s then _ else _) = _
        rw [if_neg (fun z => hw z.1), ih]
      rw [e1]
      by_cases q : nI o = nI s
      · rw [if_pos ⟨by omega, q⟩]
        show _ = (if S 26 n = 0 ∧ S 27 n = nI s then sFree S s n - S 21 n else sFree S s n) + S 21 n
        rw [if_pos ⟨hi, ho.trans q⟩, Int32.sub_add_cancel]
      · rw [if_neg (fun z => q z.2)]
        show _ = (if S 26 n = 0 ∧ S 27 n = nI s then sFree S s n - S 21 n else sFree S s n)
        rw [if_neg (fun z => q (ho.symm.trans z.2))]
    · have e1 : sFree S' s (n + 1) = if S 26 n = 0 ∧ S 27 n = nI s then sFree S' s n - S 21 n else sFree S' s n := by
        show (if S' 26 n = 0 ∧ S' 27 n = nI s then sFree S' s n - S' 21 n else sFree S' s n) = _
        rw [h26 n e, h27, h21]
      have e2 : sFree S s (n + 1) = if S 26 n = 0 ∧ S 27 n = nI s then sFree S s n - S 21 n else sFree S s n := rfl
      rw [e1, e2, ih]
      by_cases q : t < n ∧ nI o = nI s
      · rw [if_pos q, if_pos (show t < n + 1 ∧ nI o = nI s from ⟨by omega, q.2⟩)]
        split
        · exact i32_swap _ _ _
        · rfl
      · rw [if_neg q, if_neg (show ¬ (t < n + 1 ∧ nI o = nI s) from fun z => q ⟨by omega, z.2⟩)]
theorem sLoad_lv {S S' : St} {t o s : Nat} (h26 : ∀ k, ¬ k = t → S' 26 k = S 26 k) (h27 : ∀ k, S' 27 k = S 27 k) (hi : S 26 t = 0) (hw : ¬ S' 26 t = 0) (ho : S 27 t = nI o) : ∀ (n : Nat), sLoad S' s n = if t < n ∧ nI o = nI s then sLoad S s n - 1 else sLoad S s n := by
  intro n
  induction n with
  | zero => rw [if_neg (by omega)]; rfl
  | succ n ih =>
    by_cases e : n = t
    · subst e
      rw [if_neg (by omega)] at ih
      have e1 : sLoad S' s (n + 1) = sLoad S s n := by
        show sLoad S' s n + (if S' 26 n = 0 ∧ S' 27 n = nI s then 1 else 0) = _
        rw [if_neg (fun z => hw z.1), ih, Int32.add_zero]
      rw [e1]
      by_cases q : nI o = nI s
      · rw [if_pos ⟨by omega, q⟩]
        show _ = sLoad S s n + (if S 26 n = 0 ∧ S 27 n = nI s then 1 else 0) - 1
        rw [if_pos ⟨hi, ho.trans q⟩, Int32.add_sub_cancel]
      · rw [if_neg (fun z => q z.2)]
        show _ = sLoad S s n + (if S 26 n = 0 ∧ S 27 n = nI s then 1 else 0)
        rw [if_neg (fun z => q (ho.symm.trans z.2)), Int32.add_zero]
    · have e1 : sLoad S' s (n + 1) = sLoad S' s n + (if S 26 n = 0 ∧ S 27 n = nI s then 1 else 0) := by
        show sLoad S' s n + (if S' 26 n = 0 ∧ S' 27 n = nI s then 1 else 0) = _
        rw [h26 n e, h27]
      have e2 : sLoad S s (n + 1) = sLoad S s n + (if S 26 n = 0 ∧ S 27 n = nI s then 1 else 0) := rfl
      rw [e1, e2, ih]
      by_cases q : t < n ∧ nI o = nI s
      · rw [if_pos q, if_pos (show t < n + 1 ∧ nI o = nI s from ⟨by omega, q.2⟩)]
        exact i32_swap2 _ _ _
      · rw [if_neg q, if_neg (show ¬ (t < n + 1 ∧ nI o = nI s) from fun z => q ⟨by omega, z.2⟩)]
section TR3
variable {S S' : St} {h h' : Hp}
theorem CR.thInj (hR : CR S h) {a b : Nat} (ha : a < cT S) (hb : b < cT S) (e : ¬ a = b) : ¬ thA h a = thA h b := fun z => e (hR.2.2.2.2.2.2.2.1 a b ha hb z)
theorem CR.shInj (hR : CR S h) {a b : Nat} (ha : a < cS S) (hb : b < cS S) (e : ¬ a = b) : ¬ shA h a = shA h b := fun z => e (hR.2.2.2.2.2.2.1 a b ha hb z)
theorem CR.clInj (hR : CR S h) {a b : Nat} (ha : a < cC S) (hb : b < cC S) (e : ¬ a = b) : ¬ clA h a = clA h b := fun z => e (hR.2.2.2.2.2.2.2.2.1 a b ha hb z)
theorem CR.toInj (hR : CR S h) {a b : Nat} (ha : a < cC S) (hb : b < cC S) (e : ¬ a = b) : ¬ toA h a = toA h b := fun z => e (hR.2.2.2.2.2.2.2.2.2 a b ha hb z)
/-- only one thing's how, coins, day of sale change, and whether it is in doesn't -/
theorem CR.thg (hR : CR S h) {t : Nat} (ht : t < cT S) (x : Qt h h') (hi : ∀ a, ¬ a = thA h t → am_i h' a = am_i h a) (hr : am_r h' = am_r h) (hS : ∀ a k, ¬ (k = t ∧ (a = 26 ∨ a = 28 ∨ a = 29)) → S' a k = S a k) (h26 : S' 26 t = 0 ↔ S 26 t = 0)
    (hf : ∀ k, ¬ k = 7 → ¬ k = 9 → ¬ k = 10 → am_i h' (thA h t) k = am_i h (thA h t) k) (f7 : am_i h' (thA h t) 7 = S' 26 t) (f9 : am_i h' (thA h t) 9 = S' 28 t) (f10 : am_i h' (thA h t) 10 = S' 29 t) : CR S' h' := by
  have n1 : ¬ 1 = thA h t := fun e => hR.th1' ht e.symm
  have s10 : ∀ k, S' 10 k = S 10 k := fun k => hS 10 k (by omega)
  have i26 : ∀ k, S' 26 k = 0 ↔ S 26 k = 0 := fun k => by
    by_cases e : k = t
    · rw [e]; exact h26
    · rw [hS 26 k (fun z => e z.1)]
  refine hR.quiet x ⟨by unfold cS; rw [s10], by unfold cT; rw [s10], by unfold cC; rw [s10], by unfold cR; rw [s10]⟩ ?_ (fun k hk => ?_) (fun k hk => ?_) (fun k hk => ?_) (fun k hk => ?_)
  · unfold CSc
    simp only [hi 1 n1, s10]
    exact hR.2.1
  · rw [hi _ ((hR.sh_ob k hk).ne (hR.th_ob t ht) (by decide)), sFree_congr2 (S := S) (S' := S') (s := k) (cT S) (hS 16 k (by omega)) (fun q _ => ⟨i26 q, hS 27 q (by omega), hS 21 q (by omega)⟩), sLoad_congr2 (S := S) (S' := S') (s := k) (cT S) (fun q _ => ⟨i26 q, hS 27 q (by omega)⟩), hS 16 k (by omega), hS 17 k (by omega), hS 18 k (by omega), hS 19 k (by omega), hS 20 k (by omega)]
    exact ⟨hR.sh0 k hk, hR.sh1 k hk, hR.sh2 k hk, hR.sh3 k hk, hR.sh4 k hk, hR.sh5 k hk, hR.sh6 k hk, hR.sh7 k hk⟩
  · have eo : onN S' k = onN S k := by unfold onN; rw [hS 27 k (by omega)]
    have ep : am_r h' (thA h k) 8 = (if S' 26 k = 0 then some (shA h (onN S' k)) else none) := by
      rw [hr, hR.th_p k hk, eo]
      by_cases q : S 26 k = 0
      · rw [if_pos q, if_pos ((i26 k).mpr q)]
      · rw [if_neg q, if_neg (fun z => q ((i26 k).mp z))]
    rw [hS 21 k (by omega), hS 22 k (by omega), hS 30 k (by omega), hS 31 k (by omega), hS 23 k (by omega), hS 24 k (by omega), hS 25 k (by omega)]
    by_cases e : k = t
    · subst e
      exact ⟨(hf 0 (by decide) (by decide) (by decide)).trans (hR.th0 k hk), (hf 1 (by decide) (by decide) (by decide)).trans (hR.th1 k hk), (hf 2 (by decide) (by decide) (by decide)).trans (hR.th2 k hk), (hf 3 (by decide) (by decide) (by decide)).trans (hR.th3 k hk), (hf 4 (by decide) (by decide) (by decide)).trans (hR.th4 k hk), (hf 5 (by decide) (by decide) (by decide)).trans (hR.th5 k hk), (hf 6 (by decide) (by decide) (by decide)).trans (hR.th6 k hk), f7, f9, f10, ep⟩
    · rw [hi _ (hR.thInj hk ht e), hS 26 k (fun z => e z.1), hS 28 k (fun z => e z.1), hS 29 k (fun z => e z.1)]
      rw [hS 26 k (fun z => e z.1)] at ep
      exact ⟨hR.th0 k hk, hR.th1 k hk, hR.th2 k hk, hR.th3 k hk, hR.th4 k hk, hR.th5 k hk, hR.th6 k hk, hR.th7 k hk, hR.th9 k hk, hR.th10 k hk, ep⟩
  · rw [hi _ ((hR.cl_ob k hk).ne (hR.th_ob t ht) (by decide)), hi _ ((hR.cl_ta k hk).1.ne (hR.th_ob t ht) (by decide)), hS 34 k (by omega), hS 33 k (by omega)]
    exact ⟨hR.cl1 k hk, hR.cl2 k hk, fun q hq => by rw [hS 32 _ (by omega)]; exact hR.cl_tv k hk q hq⟩
  · rw [hi _ ((hR.ro_ob k hk).ne (hR.th_ob t ht) (by decide)), hS 11 k (by omega), hS 12 k (by omega), hS 13 k (by omega), hS 14 k (by omega), hS 15 k (by omega)]
    exact ⟨hR.ro0 k hk, hR.ro1 k hk, hR.ro2 k hk, hR.ro3 k hk, hR.ro4 k hk⟩
end TR3
