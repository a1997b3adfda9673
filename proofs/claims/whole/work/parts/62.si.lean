/-! THE STATE'S PROPERTIES: put, tidy -/
section SIP
variable {S : St}
theorem sUse_le {s : Nat} : ∀ {n k : Nat}, k ≤ n → sUse S s k ≤ sUse S s n := by
  intro n
  induction n with
  | zero => intro k h; rw [show k = 0 by omega]; exact Nat.le_refl _
  | succ n ih =>
    intro k h
    by_cases e : k = n + 1
    · rw [e]; exact Nat.le_refl _
    · have := ih (k := k) (by omega)
      simp only [sUse]
      omega
theorem SI.free (h : SI S) {s : Nat} (hs : s < cS S) : ∀ (n : Nat), n ≤ cT S → sFree S s n = nI ((S 16 s).toNatClampNeg - sUse S s n) := by
  intro n
  induction n with
  | zero => intro _; show S 16 s = _; rw [show sUse S s 0 = 0 from rfl, Nat.sub_zero]; exact (h.lr.2.2 s hs).1
  | succ n ih =>
    intro hn
    have ih := ih (by omega)
    have hu := h.use hs
    have hl := sUse_le (S := S) (s := s) hn
    simp only [sFree, ih]
    by_cases c : S 26 n = 0 ∧ S 27 n = nI s
    · have e1 : sUse S s (n + 1) = sUse S s n + (S 21 n).toNatClampNeg := by simp only [sUse]; rw [if_pos c]
      rw [if_pos c, e1]
      have e2 := (h.lr.2.1 n (by omega)).1
      conv => lhs; rw [e2]
      rw [pk_sub (by omega)]
      congr 1
      omega
    · have e1 : sUse S s (n + 1) = sUse S s n := by simp only [sUse]; rw [if_neg c, Nat.add_zero]
      rw [if_neg c, e1]
/-- what fits leaves the room that it takes -/
theorem SI.fit (h : SI S) {t s : Nat} (hs : s < cS S) (hz : RG (S 21 t) 20) (hf : ¬ sFits S t s = 0) : sUse S s (cT S) + (S 21 t).toNatClampNeg ≤ (S 16 s).toNatClampNeg ∧ S 20 s = 0 ∧ S 22 t ≤ S 17 s ∧ S 19 s = S 30 t := by
  unfold sFits at hf
  split at hf
  · rename_i q
    have hu := h.use hs
    have hr := (h.lr.2.2 s hs).2
    obtain ⟨q1, q2⟩ := q
    rw [h.free hs (cT S) (Nat.le_refl _), hz.1, nI_leI (by have := hz.2; omega) (by omega)] at q2
    refine ⟨by omega, ?_⟩
    unfold sSuit at q1
    split at q1
    · assumption
    · exact absurd q1 (by decide)
  · exact absurd rfl hf
theorem sPut1_ne2 {s1 h1 c1 l1 m1 d1 : Int32} {a k : Nat} (e : ¬ (a = 21 ∨ a = 22 ∨ a = 23 ∨ a = 24 ∨ a = 30 ∨ a = 31)) : sPut1 S s1 h1 c1 l1 m1 d1 a k = S a k := by
  unfold sPut1
  rw [up2_ne (by omega), up2_ne (by omega), up2_ne (by omega), up2_ne (by omega), up2_ne (by omega), up2_ne (by omega)]
theorem SI.put1 (h : SI S) (hW : MW S) (s1 h1 c1 l1 m1 d1 : Int32) : MW (sPut1 S s1 h1 c1 l1 m1 d1) ∧ SI (sPut1 S s1 h1 c1 l1 m1 d1) :=
  h.still hW ⟨rfl, rfl, rfl, rfl, rfl⟩ (fun a q q1 q2 => sPut1_ne2 (by omega)) (fun a t e ht => sPut1_ne (Or.inl (by omega))) (fun t _ e => ⟨by rw [sPut1_ne2 (by omega)] at e; exact e, sPut1_ne2 (by omega)⟩) (fun t _ => Or.inl (sPut1_ne2 (by omega))) (fun c hc => (h.ti hc).congr (fun k _ => sPut1_ne2 (by omega))) (fun q hq => by rw [sPut1_ne2 (by omega)]; exact h.z20 hq) (fun c hc => by rw [sPut1_ne2 (by omega)]; exact h.z34 hc)
theorem SI.put2 (h : SI S) (hW : MW S) {k : Nat} (h120 : cT S < 120) (hk : k < cS S) (hz : RG (S 21 (cT S)) 20) (hd : RG (S 24 (cT S)) 100000) (hf : ¬ sFits S (cT S) k = 0) : MW (sPut2 S (cT S) k) ∧ SI (sPut2 S (cT S) k) := by
  have h16 := hW.2.1.2
  obtain ⟨f1, f2, f3, f4⟩ := h.fit hk hz hf
  have eT : cT (sPut2 S (cT S) k) = cT S + 1 := sPut2_T (by omega)
  have s10 : ∀ j, ¬ j = 12 → ¬ j = 4 → sPut2 S (cT S) k 10 j = S 10 j := fun j e1 e2 => sPut2_ne (by omega) (by omega) (by omega)
  have kr : ∀ a j, ¬ a = 10 → ¬ (25 ≤ a ∧ a ≤ 29) → sPut2 S (cT S) k a j = S a j := fun a j x y => sPut2_ne (by omega) (by omega) (by omega)
  have ko : ∀ a j, ¬ a = 10 → ¬ j = cT S → sPut2 S (cT S) k a j = S a j := fun a j x y => sPut2_ne (by omega) (by omega) (by omega)
  have eS : cS (sPut2 S (cT S) k) = cS S := by unfold cS; rw [s10 11 (by decide) (by decide)]
  have eC : cC (sPut2 S (cT S) k) = cC S := by unfold cC; rw [s10 29 (by decide) (by decide)]
  have eR : cR (sPut2 S (cT S) k) = cR S := by unfold cR; rw [s10 5 (by decide) (by decide)]
  have eo : ∀ t, ¬ t = cT S → onN (sPut2 S (cT S) k) t = onN S t := fun t e => by unfold onN; rw [ko 27 t (by omega) e]
  have eon : onN (sPut2 S (cT S) k) (cT S) = k := by unfold onN; rw [sPut2_27]; exact nI_clamp (by omega)
  have hW' : MW (sPut2 S (cT S) k) := by
    unfold MW
    rw [eS, eT, eC, eR, s10 5 (by decide) (by decide), s10 11 (by decide) (by decide), s10 29 (by decide) (by decide), sPut2_c, nI_1]
    exact ⟨hW.1, hW.2.1, ⟨rfl, by omega⟩, hW.2.2.2⟩
  refine ⟨hW', ⟨⟨by rw [s10 0 (by decide) (by decide)]; exact h.sr.1, fun t ht => ?_, fun s hs => ?_⟩, fun t ht => ?_, fun s hs => ?_⟩, fun t ht h0 => ?_, fun c hc => ?_, fun t ht => ?_, fun q hq => ?_, fun t ht h0 => ?_, fun s hs => ?_, fun s hs => ?_, fun c hc => ?_⟩
  · rw [eT] at ht; rw [kr 24 t (by omega) (by omega)]
    by_cases e : t = cT S
    · rw [e]; exact hd
    · exact h.sr.2.1 t (by omega)
  · rw [eS] at hs; rw [kr 18 s (by omega) (by omega)]; exact h.sr.2.2 s hs
  · rw [eT] at ht; rw [kr 21 t (by omega) (by omega)]
    by_cases e : t = cT S
    · rw [e]; exact hz
    · exact h.lr.2.1 t (by omega)
  · rw [eS] at hs; rw [kr 16 s (by omega) (by omega)]; exact h.lr.2.2 s hs
  · rw [eT] at ht
    unfold OW
    by_cases e : t = cT S
    · rw [e, eon, eS, sPut2_27]; exact ⟨rfl, hk⟩
    · rw [ko 26 t (by omega) e] at h0
      rw [eo t e, eS, ko 27 t (by omega) e]; exact h.oa t (by omega) h0
  · rw [eC] at hc; exact (h.ti hc).congr (fun j _ => kr 32 _ (by omega) (by omega))
  · rw [eT] at ht
    unfold DW
    rw [s10 0 (by decide) (by decide)]
    by_cases e : t = cT S
    · rw [e, sPut2_25, sPut2_29]; exact ⟨h.sr.1, Nat.le_refl _, Or.inl rfl⟩
    · rw [ko 25 t (by omega) e, ko 29 t (by omega) e]; exact h.dw (by omega)
  · rw [eR] at hq; rw [kr 11 q (by omega) (by omega)]; exact h.row hq
  · rw [eT] at ht
    unfold GW
    by_cases e : t = cT S
    · rw [e, eon, kr 22 _ (by omega) (by omega), kr 30 _ (by omega) (by omega), kr 17 _ (by omega) (by omega), kr 19 _ (by omega) (by omega)]
      exact ⟨f3, f4⟩
    · rw [ko 26 t (by omega) e] at h0
      rw [eo t e, kr 22 _ (by omega) (by omega), kr 30 _ (by omega) (by omega), kr 17 _ (by omega) (by omega), kr 19 _ (by omega) (by omega)]
      exact h.gw (by omega) h0
  · rw [eS] at hs
    rw [eT, kr 16 s (by omega) (by omega)]
    have m := sUse_mono (S := S) (S' := sPut2 S (cT S) k) (s := s) (cT S) (fun t ht h0 => ⟨by rw [ko 26 t (by omega) (by omega)] at h0; exact h0, ko 27 t (by omega) (by omega), kr 21 t (by omega) (by omega)⟩)
    have hu := h.use hs
    simp only [sUse]
    rw [sPut2_26, sPut2_27, kr 21 _ (by omega) (by omega)]
    by_cases e : s = k
    · subst e
      rw [if_pos ⟨rfl, rfl⟩]
      omega
    · rw [if_neg (fun z => e ((nI_eq (by omega) (by omega)).mp z.2).symm)]
      omega
  · rw [eS] at hs; rw [kr 20 s (by omega) (by omega)]; exact h.z20 hs
  · rw [eC] at hc; rw [kr 34 c (by omega) (by omega)]; exact h.z34 hc
theorem sUse_mv {t k s : Nat} (h26 : S 26 t = 0) : ∀ (n : Nat), sUse (sMvT S t k) s n ≤ sUse S s n + (if nI k = nI s ∧ t < n then (S 21 t).toNatClampNeg else 0) := by
  intro n
  induction n with
  | zero => exact Nat.zero_le _
  | succ n ih =>
    simp only [sUse]
    rw [sMvT_ne (a := 26) (by omega) (by omega), sMvT_ne (a := 21) (by omega) (by omega)]
    by_cases e : n = t
    · subst e
      rw [if_neg (show ¬ (nI k = nI s ∧ n < n) by omega)] at ih
      rw [show sMvT S n k 27 n = nI k by unfold sMvT; exact up2_eq]
      by_cases c : nI k = nI s
      · rw [if_pos (show S 26 n = 0 ∧ nI k = nI s from ⟨h26, c⟩), if_pos (show nI k = nI s ∧ n < n + 1 from ⟨c, by omega⟩)]
        omega
      · rw [if_neg (fun z => c z.2)]
        omega
    · rw [sMvT_ne (a := 27) (by omega) (by omega)]
      by_cases c : nI k = nI s ∧ t < n
      · rw [if_pos c] at ih
        rw [if_pos (show nI k = nI s ∧ t < n + 1 from ⟨c.1, by omega⟩)]
        omega
      · rw [if_neg c] at ih
        omega
theorem SI.move (h : SI S) (hW : MW S) {t k : Nat} (ht0 : t < cT S) (h26 : S 26 t = 0) (hk : k < cS S) (hf : ¬ sFits S t k = 0) : MW (sMvT S t k) ∧ SI (sMvT S t k) := by
  have h16 := hW.2.1.2
  obtain ⟨f1, f2, f3, f4⟩ := h.fit hk (h.lr.2.1 t ht0) hf
  have kr : ∀ a j, ¬ a = 10 → ¬ a = 27 → sMvT S t k a j = S a j := fun a j x y => sMvT_ne (by omega) (by omega)
  have k10 : ∀ j, ¬ j = 4 → sMvT S t k 10 j = S 10 j := fun j x => sMvT_ne (by omega) (by omega)
  have e27 : sMvT S t k 27 t = nI k := by unfold sMvT; exact up2_eq
  have eon : onN (sMvT S t k) t = k := by unfold onN; rw [e27]; exact nI_clamp (by omega)
  have eo : ∀ q, ¬ q = t → onN (sMvT S t k) q = onN S q := fun q e => by unfold onN; rw [sMvT_ne (by omega) (by omega)]
  refine ⟨hW, ⟨⟨h.sr.1, fun q hq => ?_, fun s hs => ?_⟩, fun q hq => ?_, fun s hs => ?_⟩, fun q hq h0 => ?_, fun c hc => ?_, fun q hq => ?_, fun q hq => ?_, fun q hq h0 => ?_, fun s hs => ?_, fun s hs => ?_, fun c hc => ?_⟩
  · rw [kr 24 q (by omega) (by omega)]; exact h.sr.2.1 q hq
  · rw [kr 18 s (by omega) (by omega)]; exact h.sr.2.2 s hs
  · rw [kr 21 q (by omega) (by omega)]; exact h.lr.2.1 q hq
  · rw [kr 16 s (by omega) (by omega)]; exact h.lr.2.2 s hs
  · rw [kr 26 q (by omega) (by omega)] at h0
    show sMvT S t k 27 q = _ ∧ _
    by_cases e : q = t
    · rw [e, eon, e27]; exact ⟨rfl, hk⟩
    · rw [eo q e, sMvT_ne (by omega) (by omega)]; exact h.oa q hq h0
  · exact (h.ti hc).congr (fun j _ => kr 32 _ (by omega) (by omega))
  · unfold DW
    rw [kr 25 q (by omega) (by omega), kr 29 q (by omega) (by omega), k10 0 (by decide)]
    exact h.dw hq
  · rw [kr 11 q (by omega) (by omega)]; exact h.row hq
  · rw [kr 26 q (by omega) (by omega)] at h0
    unfold GW
    rw [kr 22 q (by omega) (by omega), kr 30 q (by omega) (by omega), kr 17 _ (by omega) (by omega), kr 19 _ (by omega) (by omega)]
    by_cases e : q = t
    · rw [e, eon]; exact ⟨f3, f4⟩
    · rw [eo q e]; exact h.gw hq h0
  · have hs' : s < cS S := hs
    have m := sUse_mv (S := S) (t := t) (k := k) (s := s) h26 (cT S)
    rw [kr 16 s (by omega) (by omega)]
    show sUse (sMvT S t k) s (cT S) ≤ _
    have hu := h.use hs'
    by_cases e : s = k
    · subst e
      rw [if_pos ⟨rfl, ht0⟩] at m
      omega
    · rw [if_neg (fun z => e ((nI_eq (by omega) (by omega)).mp z.1).symm)] at m
      omega
  · rw [kr 20 s (by omega) (by omega)]; exact h.z20 hs
  · rw [kr 34 c (by omega) (by omega)]; exact h.z34 hc
theorem SI.td : ∀ (n : Nat) {S : St}, SI S → MW S → MW (sTd n S).2 ∧ SI (sTd n S).2 := by
  intro n
  induction n with
  | zero => intro S h hW; exact ⟨hW, h⟩
  | succ n ih =>
    intro S h hW
    by_cases c0 : (sPk2 S (cT S)).2.1 < 0
    · simp only [sTd, c0, if_true]
      exact ⟨hW, h⟩
    · simp only [sTd, c0, if_false]
      obtain ⟨p1, p2, p3, p4, p5⟩ := sPk_get hW c0
      have a := h.move hW p1 p3 p2 (sPk_ne hW c0).2
      exact ih (S := sMv S) a.2 a.1
end SIP
