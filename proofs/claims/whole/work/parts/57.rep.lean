/-! THE CLASS: a row, a shelf, a claim, a thing more -/
theorem sFree_none {S : St} {k : Nat} : ∀ (n : Nat), (∀ t, t < n → S 26 t = 0 → ¬ S 27 t = nI k) → sFree S k n = S 16 k := by
  intro n
  induction n with
  | zero => intro _; rfl
  | succ n ih =>
    intro h
    simp only [sFree]
    rw [if_neg (fun z => h n (by omega) z.1 z.2), ih (fun t ht => h t (by omega))]
theorem sLoad_none {S : St} {k : Nat} : ∀ (n : Nat), (∀ t, t < n → S 26 t = 0 → ¬ S 27 t = nI k) → sLoad S k n = 0 := by
  intro n
  induction n with
  | zero => intro _; rfl
  | succ n ih =>
    intro h
    simp only [sLoad]
    rw [if_neg (fun z => h n (by omega) z.1 z.2), ih (fun t ht => h t (by omega))]
    rfl
section GW
variable {S S' : St} {g : Hp}
/-- the heap g with the cell b entered in the array A at k, and the counter's count c set -/
def cEnt (g : Hp) (A k b c : Nat) (v : Int32) : Hp := am_setI (am_setR g A k (some b)) 1 c v
theorem cEnt_i {A k b c : Nat} {v : Int32} (x : Nat) (e : ¬ x = 1) : am_i (cEnt g A k b c v) x = am_i g x := am_ix_ne e
theorem cEnt_i1 {A k b c : Nat} {v : Int32} (j : Nat) : am_i (cEnt g A k b c v) 1 j = if j = c then v else am_i g 1 j := by
  show (if 1 = 1 ∧ j = c then v else am_i g 1 j) = _
  simp only [true_and]
theorem cEnt_r {A k b c : Nat} {v : Int32} (x : Nat) (e : ¬ x = A) : am_r (cEnt g A k b c v) x = am_r g x := by funext j; show (if x = A ∧ j = k then some b else am_r g x j) = _; rw [if_neg (fun z => e z.1)]
theorem cEnt_rA {A k b c : Nat} {v : Int32} (j : Nat) (e : ¬ j = k) : am_r (cEnt g A k b c v) A j = am_r g A j := by show (if A = A ∧ j = k then some b else am_r g A j) = _; rw [if_neg (fun z => e z.2)]
theorem cEnt_rb {A k b c : Nat} {v : Int32} : am_r (cEnt g A k b c v) A k = some b := by show (if A = A ∧ k = k then some b else am_r g A k) = _; rw [if_pos ⟨rfl, rfl⟩]
theorem cEnt_gr {A k b c : Nat} {v : Int32} : Gr g (cEnt g A k b c v) := ⟨Nat.le_refl _, fun _ _ => ⟨rfl, rfl⟩⟩
theorem CR.sh38' (hR : CR S g) {k : Nat} (hk : k < cS S) {A : Nat} (hA : A < 38) : ¬ shA g k = A := by have := hR.sh_38 k hk; omega
theorem CR.th38' (hR : CR S g) {k : Nat} (hk : k < cT S) {A : Nat} (hA : A < 38) : ¬ thA g k = A := by have := hR.th_38 k hk; omega
theorem CR.cl38' (hR : CR S g) {k : Nat} (hk : k < cC S) {A : Nat} (hA : A < 38) : ¬ clA g k = A := by have := hR.cl_38 k hk; omega
theorem CR.to38' (hR : CR S g) {k : Nat} (hk : k < cC S) {A : Nat} (hA : A < 38) : ¬ toA g k = A := by have := hR.cl_t38 k hk; omega
theorem CR.ro38' (hR : CR S g) {k : Nat} (hk : k < cR S) {A : Nat} (hA : A < 38) : ¬ roA g k = A := by have := hR.ro_38 k hk; omega
/-- a row of prices more -/
theorem CR.gRow (hR : CR S g) {b : Nat} {v : Int32} (hb : 38 ≤ b) (ob : Ob g b 2) (hf : am_i g b 0 = S' 11 (cR S) ∧ am_i g b 1 = S' 12 (cR S) ∧ am_i g b 2 = S' 13 (cR S) ∧ am_i g b 3 = S' 14 (cR S) ∧ am_i g b 4 = S' 15 (cR S)) (hc : cR S' = cR S + 1) (h5 : S' 10 5 = v) (s10 : ∀ j, ¬ j = 5 → S' 10 j = S 10 j) (ro : ∀ a q, 11 ≤ a → a ≤ 34 → q < uN S a → S' a q = S a q) : CR S' (cEnt g 5 (cR S) b 7 v) := by
  have c0 := hR.1
  have eS : cS S' = cS S := by unfold cS; rw [s10 11 (by decide)]
  have eT : cT S' = cT S := by unfold cT; rw [s10 12 (by decide)]
  have eC : cC S' = cC S := by unfold cC; rw [s10 29 (by decide)]
  have r2 := cEnt_r (g := g) (A := 5) (k := cR S) (b := b) (c := 7) (v := v) 2 (by decide)
  have r3 := cEnt_r (g := g) (A := 5) (k := cR S) (b := b) (c := 7) (v := v) 3 (by decide)
  have r4 := cEnt_r (g := g) (A := 5) (k := cR S) (b := b) (c := 7) (v := v) 4 (by decide)
  have a1 : shA (cEnt g 5 (cR S) b 7 v) = shA g := by funext k; unfold shA; rw [r2]
  have a2 : thA (cEnt g 5 (cR S) b 7 v) = thA g := by funext k; unfold thA; rw [r3]
  have a3 : clA (cEnt g 5 (cR S) b 7 v) = clA g := by funext k; unfold clA; rw [r4]
  have rc : ∀ k, k < cC S → am_r (cEnt g 5 (cR S) b 7 v) (clA g k) = am_r g (clA g k) := fun k hk => cEnt_r _ (hR.cl38' hk (by decide))
  have a4 : ∀ k, k < cC S → toA (cEnt g 5 (cR S) b 7 v) k = toA g k := fun k hk => by unfold toA; rw [a3, rc k hk]
  refine ⟨cEnt_gr.cok c0 (fun j => by rw [cEnt_r 1 (by decide)]) (fun j => by rw [cEnt_r 7 (by decide)]), ?_, fun k hk => ?_, fun k hk => ?_, fun k hk => ?_, fun k hk => ?_, ?_⟩
  · unfold CSc
    simp only [cEnt_i1]
    refine ⟨?_, ?_, ?_, ?_, ?_, ?_, ?_, ?_, ?_⟩
    · rw [if_neg (by decide), s10 11 (by decide)]; exact hR.c1
    · rw [if_neg (by decide), s10 12 (by decide)]; exact hR.c3
    · rw [if_neg (by decide), s10 29 (by decide)]; exact hR.c5
    · rw [if_pos trivial, h5]
    · rw [if_neg (by decide), s10 0 (by decide)]; exact hR.c10
    · rw [if_neg (by decide), s10 1 (by decide)]; exact hR.c11
    · rw [if_neg (by decide), s10 2 (by decide)]; exact hR.c12
    · rw [if_neg (by decide), s10 3 (by decide)]; exact hR.c13
    · rw [if_neg (by decide), s10 4 (by decide)]; exact hR.c14
  · rw [eS] at hk
    have ei := cEnt_i (g := g) (A := 5) (k := cR S) (b := b) (c := 7) (v := v) (shA g k) (hR.shn1 hk)
    have es : ∀ a, 16 ≤ a → a ≤ 20 → S' a k = S a k := fun a q1 q2 => ro a k (by omega) (by omega) (by rw [uN_s q1 q2]; exact hk)
    refine (hR.2.2.1 k hk).of cEnt_gr (by rw [r2]) (fun j _ _ => by rw [ei]) ?_ ?_ es
    · rw [ei, eT, sFree_congr (S := S) (S' := S') (s := k) (cT S) (es 16 (by decide) (by decide)) (fun t ht => ⟨ro 26 t (by decide) (by decide) ht, ro 27 t (by decide) (by decide) ht, ro 21 t (by decide) (by decide) ht⟩)]
      exact hR.sh5 k hk
    · rw [ei, eT, sLoad_congr (S := S) (S' := S') (s := k) (cT S) (fun t ht => ⟨ro 26 t (by decide) (by decide) ht, ro 27 t (by decide) (by decide) ht⟩)]
      exact hR.sh6 k hk
  · rw [eT] at hk
    exact (hR.2.2.2.1 k hk).of cEnt_gr (by rw [r3]) (fun j => by rw [cEnt_i _ (hR.th1' hk)]) (by rw [cEnt_r _ (hR.th38' hk (by decide))]) (fun _ => by rw [a1]) (fun a q1 q2 => ro a k (by omega) (by omega) (by rw [uN_t q1 q2]; exact hk))
  · rw [eC] at hk
    exact (hR.2.2.2.2.1 k hk).of cEnt_gr (by rw [r4]) (by rw [rc k hk]) (fun j => by rw [cEnt_i _ (hR.cl1' hk)]) (fun j => by rw [cEnt_i _ (hR.to1 hk)]) (fun j q => ro 32 _ (by decide) (by decide) (by rw [uN_32]; omega)) (ro 33 k (by decide) (by decide) hk) (ro 34 k (by decide) (by decide) hk)
  · rw [hc] at hk
    by_cases e : k = cR S
    · subst e
      have eb : roA (cEnt g 5 (cR S) b 7 v) (cR S) = b := by unfold roA; rw [cEnt_rb]; rfl
      have ei := cEnt_i (g := g) (A := 5) (k := cR S) (b := b) (c := 7) (v := v) b (by omega)
      unfold CRo
      rw [eb, ei]
      exact ⟨cEnt_rb, hb, cEnt_gr.ob ob, hf⟩
    · have hk2 : k < cR S := by omega
      exact (hR.2.2.2.2.2.1 k hk2).of cEnt_gr (cEnt_rA k e) (fun j => by rw [cEnt_i _ (hR.ro1' hk2)]) (fun a q1 q2 => ro a k (by omega) (by omega) (by rw [uN_r q2]; exact hk2))
  · obtain ⟨p1, p2, p3, p4⟩ := hR.2.2.2.2.2.2
    unfold CAp
    rw [a1, a2, a3, eS, eT, eC]
    exact ⟨p1, p2, p3, fun a b ha hb e => p4 a b ha hb (by rw [← a4 a ha, ← a4 b hb]; exact e)⟩
/-- a shelf more -/
theorem CR.gShelf (hR : CR S g) (hA : OA S) (hW : MW S) {b : Nat} {v : Int32} (hb : 38 ≤ b) (ob : Ob g b 3) (hnew : ∀ q, q < cS S → ¬ shA g q = b) (hf : am_i g b 0 = nI (cS S) ∧ am_i g b 1 = S' 16 (cS S) ∧ am_i g b 2 = S' 17 (cS S) ∧ am_i g b 3 = S' 19 (cS S) ∧ am_i g b 4 = S' 18 (cS S) ∧ am_i g b 5 = S' 16 (cS S) ∧ am_i g b 6 = 0 ∧ am_i g b 7 = S' 20 (cS S)) (hc : cS S' = cS S + 1) (h11 : S' 10 11 = v) (s10 : ∀ j, ¬ j = 11 → S' 10 j = S 10 j) (ro : ∀ a q, 11 ≤ a → a ≤ 34 → q < uN S a → S' a q = S a q) : CR S' (cEnt g 2 (cS S) b 1 v) := by
  have c0 := hR.1
  have h16 := hW.2.1.2
  have eR : cR S' = cR S := by unfold cR; rw [s10 5 (by decide)]
  have eT : cT S' = cT S := by unfold cT; rw [s10 12 (by decide)]
  have eC : cC S' = cC S := by unfold cC; rw [s10 29 (by decide)]
  have r5 := cEnt_r (g := g) (A := 2) (k := cS S) (b := b) (c := 1) (v := v) 5 (by decide)
  have r3 := cEnt_r (g := g) (A := 2) (k := cS S) (b := b) (c := 1) (v := v) 3 (by decide)
  have r4 := cEnt_r (g := g) (A := 2) (k := cS S) (b := b) (c := 1) (v := v) 4 (by decide)
  have a1 : ∀ q, ¬ q = cS S → shA (cEnt g 2 (cS S) b 1 v) q = shA g q := fun q e => by unfold shA; rw [cEnt_rA q e]
  have eb : shA (cEnt g 2 (cS S) b 1 v) (cS S) = b := by unfold shA; rw [cEnt_rb]; rfl
  have a2 : thA (cEnt g 2 (cS S) b 1 v) = thA g := by funext k; unfold thA; rw [r3]
  have a3 : clA (cEnt g 2 (cS S) b 1 v) = clA g := by funext k; unfold clA; rw [r4]
  have rc : ∀ k, k < cC S → am_r (cEnt g 2 (cS S) b 1 v) (clA g k) = am_r g (clA g k) := fun k hk => cEnt_r _ (hR.cl38' hk (by decide))
  have a4 : ∀ k, k < cC S → toA (cEnt g 2 (cS S) b 1 v) k = toA g k := fun k hk => by unfold toA; rw [a3, rc k hk]
  have r26 : ∀ t, t < cT S → S' 26 t = S 26 t := fun t ht => ro 26 t (by decide) (by decide) ht
  have r27 : ∀ t, t < cT S → S' 27 t = S 27 t := fun t ht => ro 27 t (by decide) (by decide) ht
  refine ⟨cEnt_gr.cok c0 (fun j => by rw [cEnt_r 1 (by decide)]) (fun j => by rw [cEnt_r 7 (by decide)]), ?_, fun k hk => ?_, fun k hk => ?_, fun k hk => ?_, fun k hk => ?_, ?_⟩
  · unfold CSc
    simp only [cEnt_i1]
    refine ⟨?_, ?_, ?_, ?_, ?_, ?_, ?_, ?_, ?_⟩
    · rw [if_pos trivial, h11]
    · rw [if_neg (by decide), s10 12 (by decide)]; exact hR.c3
    · rw [if_neg (by decide), s10 29 (by decide)]; exact hR.c5
    · rw [if_neg (by decide), s10 5 (by decide)]; exact hR.c7
    · rw [if_neg (by decide), s10 0 (by decide)]; exact hR.c10
    · rw [if_neg (by decide), s10 1 (by decide)]; exact hR.c11
    · rw [if_neg (by decide), s10 2 (by decide)]; exact hR.c12
    · rw [if_neg (by decide), s10 3 (by decide)]; exact hR.c13
    · rw [if_neg (by decide), s10 4 (by decide)]; exact hR.c14
  · rw [hc] at hk
    by_cases e : k = cS S
    · subst e
      have hno : ∀ t, t < cT S → S' 26 t = 0 → ¬ S' 27 t = nI (cS S) := fun t ht h0 z => by
        rw [r26 t ht] at h0
        rw [r27 t ht] at z
        have q := hA t ht h0
        rw [q.1] at z
        have := (nI_eq (by have := q.2; omega) (by omega)).mp z
        have := q.2
        omega
      have ei := cEnt_i (g := g) (A := 2) (k := cS S) (b := b) (c := 1) (v := v) b (by omega)
      unfold CSh
      rw [eb, ei, eT, sFree_none _ hno, sLoad_none _ hno]
      exact ⟨cEnt_rb, hb, cEnt_gr.ob ob, hf⟩
    · have hk2 : k < cS S := by omega
      have ei := cEnt_i (g := g) (A := 2) (k := cS S) (b := b) (c := 1) (v := v) (shA g k) (hR.shn1 hk2)
      have es : ∀ a, 16 ≤ a → a ≤ 20 → S' a k = S a k := fun a q1 q2 => ro a k (by omega) (by omega) (by rw [uN_s q1 q2]; exact hk2)
      refine (hR.2.2.1 k hk2).of cEnt_gr (cEnt_rA k e) (fun j _ _ => by rw [ei]) ?_ ?_ es
      · rw [ei, eT, sFree_congr (S := S) (S' := S') (s := k) (cT S) (es 16 (by decide) (by decide)) (fun t ht => ⟨r26 t ht, r27 t ht, ro 21 t (by decide) (by decide) ht⟩)]
        exact hR.sh5 k hk2
      · rw [ei, eT, sLoad_congr (S := S) (S' := S') (s := k) (cT S) (fun t ht => ⟨r26 t ht, r27 t ht⟩)]
        exact hR.sh6 k hk2
  · rw [eT] at hk
    exact (hR.2.2.2.1 k hk).of cEnt_gr (by rw [r3]) (fun j => by rw [cEnt_i _ (hR.th1' hk)]) (by rw [cEnt_r _ (hR.th38' hk (by decide))]) (fun h0 => a1 _ (by have := (hA k hk h0).2; omega)) (fun a q1 q2 => ro a k (by omega) (by omega) (by rw [uN_t q1 q2]; exact hk))
  · rw [eC] at hk
    exact (hR.2.2.2.2.1 k hk).of cEnt_gr (by rw [r4]) (by rw [rc k hk]) (fun j => by rw [cEnt_i _ (hR.cl1' hk)]) (fun j => by rw [cEnt_i _ (hR.to1 hk)]) (fun j q => ro 32 _ (by decide) (by decide) (by rw [uN_32]; omega)) (ro 33 k (by decide) (by decide) hk) (ro 34 k (by decide) (by decide) hk)
  · rw [eR] at hk
    exact (hR.2.2.2.2.2.1 k hk).of cEnt_gr (by rw [r5]) (fun j => by rw [cEnt_i _ (hR.ro1' hk)]) (fun a q1 q2 => ro a k (by omega) (by omega) (by rw [uN_r q2]; exact hk))
  · obtain ⟨p1, p2, p3, p4⟩ := hR.2.2.2.2.2.2
    unfold CAp
    rw [a2, a3, hc, eT, eC]
    refine ⟨fun x y hx hy e => ?_, p2, p3, fun a b ha hb e => p4 a b ha hb (by rw [← a4 a ha, ← a4 b hb]; exact e)⟩
    by_cases ex : x = cS S
    · by_cases ey : y = cS S
      · omega
      · rw [ex, eb, a1 y ey] at e
        exact absurd e.symm (hnew y (by omega))
    · by_cases ey : y = cS S
      · rw [ey, eb, a1 x ex] at e
        exact absurd e (hnew x (by omega))
      · rw [a1 x ex, a1 y ey] at e
        exact p1 x y (by omega) (by omega) e
/-- a claim more -/
theorem CR.gClaim (hR : CR S g) {b b2 : Nat} {v : Int32} (hb : 38 ≤ b) (hb2 : 38 ≤ b2) (ob : Ob g b 1) (ar : Ar g b2 7 4) (hr : am_r g b 0 = some b2) (hnew : ∀ q, q < cC S → ¬ clA g q = b ∧ ¬ toA g q = b2) (hf : am_i g b 1 = S' 34 (cC S) ∧ am_i g b 2 = S' 33 (cC S) ∧ ∀ j, j < 4 → am_i g b2 j = S' 32 (4 * cC S + j)) (hc : cC S' = cC S + 1) (h29 : S' 10 29 = v) (s10 : ∀ j, ¬ j = 29 → S' 10 j = S 10 j) (ro : ∀ a q, 11 ≤ a → a ≤ 34 → q < uN S a → S' a q = S a q) : CR S' (cEnt g 4 (cC S) b 5 v) := by
  have c0 := hR.1
  have eR : cR S' = cR S := by unfold cR; rw [s10 5 (by decide)]
  have eT : cT S' = cT S := by unfold cT; rw [s10 12 (by decide)]
  have eS : cS S' = cS S := by unfold cS; rw [s10 11 (by decide)]
  have r5 := cEnt_r (g := g) (A := 4) (k := cC S) (b := b) (c := 5) (v := v) 5 (by decide)
  have r3 := cEnt_r (g := g) (A := 4) (k := cC S) (b := b) (c := 5) (v := v) 3 (by decide)
  have r2 := cEnt_r (g := g) (A := 4) (k := cC S) (b := b) (c := 5) (v := v) 2 (by decide)
  have a1 : shA (cEnt g 4 (cC S) b 5 v) = shA g := by funext k; unfold shA; rw [r2]
  have a2 : thA (cEnt g 4 (cC S) b 5 v) = thA g := by funext k; unfold thA; rw [r3]
  have a3 : ∀ q, ¬ q = cC S → clA (cEnt g 4 (cC S) b 5 v) q = clA g q := fun q e => by unfold clA; rw [cEnt_rA q e]
  have eb : clA (cEnt g 4 (cC S) b 5 v) (cC S) = b := by unfold clA; rw [cEnt_rb]; rfl
  have eb2 : toA (cEnt g 4 (cC S) b 5 v) (cC S) = b2 := by unfold toA; rw [eb, cEnt_r b (by omega), hr]; rfl
  have rc : ∀ k, k < cC S → am_r (cEnt g 4 (cC S) b 5 v) (clA g k) = am_r g (clA g k) := fun k hk => cEnt_r _ (hR.cl38' hk (by decide))
  have a4 : ∀ k, k < cC S → toA (cEnt g 4 (cC S) b 5 v) k = toA g k := fun k hk => by unfold toA; rw [a3 k (by omega), rc k hk]
  refine ⟨cEnt_gr.cok c0 (fun j => by rw [cEnt_r 1 (by decide)]) (fun j => by rw [cEnt_r 7 (by decide)]), ?_, fun k hk => ?_, fun k hk => ?_, fun k hk => ?_, fun k hk => ?_, ?_⟩
  · unfold CSc
    simp only [cEnt_i1]
    refine ⟨?_, ?_, ?_, ?_, ?_, ?_, ?_, ?_, ?_⟩
    · rw [if_neg (by decide), s10 11 (by decide)]; exact hR.c1
    · rw [if_neg (by decide), s10 12 (by decide)]; exact hR.c3
    · rw [if_pos trivial, h29]
    · rw [if_neg (by decide), s10 5 (by decide)]; exact hR.c7
    · rw [if_neg (by decide), s10 0 (by decide)]; exact hR.c10
    · rw [if_neg (by decide), s10 1 (by decide)]; exact hR.c11
    · rw [if_neg (by decide), s10 2 (by decide)]; exact hR.c12
    · rw [if_neg (by decide), s10 3 (by decide)]; exact hR.c13
    · rw [if_neg (by decide), s10 4 (by decide)]; exact hR.c14
  · rw [eS] at hk
    have ei := cEnt_i (g := g) (A := 4) (k := cC S) (b := b) (c := 5) (v := v) (shA g k) (hR.shn1 hk)
    have es : ∀ a, 16 ≤ a → a ≤ 20 → S' a k = S a k := fun a q1 q2 => ro a k (by omega) (by omega) (by rw [uN_s q1 q2]; exact hk)
    refine (hR.2.2.1 k hk).of cEnt_gr (by rw [r2]) (fun j _ _ => by rw [ei]) ?_ ?_ es
    · rw [ei, eT, sFree_congr (S := S) (S' := S') (s := k) (cT S) (es 16 (by decide) (by decide)) (fun t ht => ⟨ro 26 t (by decide) (by decide) ht, ro 27 t (by decide) (by decide) ht, ro 21 t (by decide) (by decide) ht⟩)]
      exact hR.sh5 k hk
    · rw [ei, eT, sLoad_congr (S := S) (S' := S') (s := k) (cT S) (fun t ht => ⟨ro 26 t (by decide) (by decide) ht, ro 27 t (by decide) (by decide) ht⟩)]
      exact hR.sh6 k hk
  · rw [eT] at hk
    exact (hR.2.2.2.1 k hk).of cEnt_gr (by rw [r3]) (fun j => by rw [cEnt_i _ (hR.th1' hk)]) (by rw [cEnt_r _ (hR.th38' hk (by decide))]) (fun _ => by rw [a1]) (fun a q1 q2 => ro a k (by omega) (by omega) (by rw [uN_t q1 q2]; exact hk))
  · rw [hc] at hk
    by_cases e : k = cC S
    · subst e
      have ei := cEnt_i (g := g) (A := 4) (k := cC S) (b := b) (c := 5) (v := v) b (by omega)
      have ei2 := cEnt_i (g := g) (A := 4) (k := cC S) (b := b) (c := 5) (v := v) b2 (by omega)
      unfold CCl
      rw [eb2, eb, ei, ei2, cEnt_r b (by omega)]
      exact ⟨cEnt_rb, hb, cEnt_gr.ob ob, hf.1, hf.2.1, hr, hb2, cEnt_gr.ar ar, hf.2.2⟩
    · have hk2 : k < cC S := by omega
      exact (hR.2.2.2.2.1 k hk2).of cEnt_gr (cEnt_rA k e) (by rw [rc k hk2]) (fun j => by rw [cEnt_i _ (hR.cl1' hk2)]) (fun j => by rw [cEnt_i _ (hR.to1 hk2)]) (fun j q => ro 32 _ (by decide) (by decide) (by rw [uN_32]; omega)) (ro 33 k (by decide) (by decide) hk2) (ro 34 k (by decide) (by decide) hk2)
  · rw [eR] at hk
    exact (hR.2.2.2.2.2.1 k hk).of cEnt_gr (by rw [r5]) (fun j => by rw [cEnt_i _ (hR.ro1' hk)]) (fun a q1 q2 => ro a k (by omega) (by omega) (by rw [uN_r q2]; exact hk))
  · obtain ⟨p1, p2, p3, p4⟩ := hR.2.2.2.2.2.2
    unfold CAp
    rw [a1, a2, eS, eT, hc]
    refine ⟨p1, p2, fun x y hx hy e => ?_, fun x y hx hy e => ?_⟩
    · by_cases ex : x = cC S
      · by_cases ey : y = cC S
        · omega
        · rw [ex, eb, a3 y ey] at e
          exact absurd e.symm (hnew y (by omega)).1
      · by_cases ey : y = cC S
        · rw [ey, eb, a3 x ex] at e
          exact absurd e (hnew x (by omega)).1
        · rw [a3 x ex, a3 y ey] at e
          exact p3 x y (by omega) (by omega) e
    · by_cases ex : x = cC S
      · by_cases ey : y = cC S
        · omega
        · rw [ex, eb2, a4 y (by omega)] at e
          exact absurd e.symm (hnew y (by omega)).2
      · by_cases ey : y = cC S
        · rw [ey, eb2, a4 x (by omega)] at e
          exact absurd e (hnew x (by omega)).2
        · rw [a4 x (by omega), a4 y (by omega)] at e
          exact p4 x y (by omega) (by omega) e
end GW
/-! a thing more -/
theorem cPut2_i {S : St} {h : Hp} {a u k : Nat} (s1 : ¬ shA h k = 1) (a1 : ¬ a = 1) (sa : ¬ shA h k = a) (x j : Nat) : am_i (cPut2 S h a u k) x j = if x = 1 ∧ j = 14 then S 10 4 + 2 * S 18 k else if x = 1 ∧ j = 3 then nI u + 1 else if x = shA h k ∧ j = 5 then am_i h (shA h k) 5 - am_i h a 0 else if x = shA h k ∧ j = 6 then am_i h (shA h k) 6 + 1 else am_i h x j := by
  unfold cPut2
  simp only [am_i_setI, cTak_i sa, am_i_setR]
  have s1' : ¬ 1 = shA h k := fun z => s1 z.symm
  by_cases h1 : x = 1
  · subst h1
    simp only [s1', false_and, if_false]
  · by_cases h2 : x = shA h k
    · subst h2
      simp only [h1, a1, s1, false_and, true_and, if_false]
    · simp only [h1, h2, false_and, if_false]
theorem cPut2_r {S : St} {h : Hp} {a u k : Nat} (x j : Nat) : am_r (cPut2 S h a u k) x j = if x = a ∧ j = 8 then some (shA h k) else if x = 3 ∧ j = u then some a else am_r h x j := rfl
theorem cPut2_gr {S : St} {h : Hp} {a u k : Nat} : Gr h (cPut2 S h a u k) := ⟨Nat.le_refl _, fun _ _ => ⟨rfl, rfl⟩⟩
theorem sPut2_ne {S : St} {t k a j : Nat} (e1 : ¬ (a = 10 ∧ j = 12)) (e2 : ¬ (a = 10 ∧ j = 4)) (e3 : ¬ (25 ≤ a ∧ a ≤ 29 ∧ j = t)) : sPut2 S t k a j = S a j := by
  unfold sPut2
  rw [up2_ne (by omega), up2_ne (by omega), up2_ne (by omega), up2_ne (by omega), up2_ne (by omega), up2_ne (by omega), up2_ne (by omega)]
theorem sPut2_25 {S : St} {t k : Nat} : sPut2 S t k 25 t = S 10 0 := by unfold sPut2; rw [up2_ne (by omega), up2_ne (by omega), up2_ne (by omega), up2_ne (by omega), up2_ne (by omega), up2_ne (by omega), up2_eq]
theorem sPut2_26 {S : St} {t k : Nat} : sPut2 S t k 26 t = 0 := by unfold sPut2; rw [up2_ne (by omega), up2_ne (by omega), up2_ne (by omega), up2_ne (by omega), up2_ne (by omega), up2_eq]
theorem sPut2_27 {S : St} {t k : Nat} : sPut2 S t k 27 t = nI k := by unfold sPut2; rw [up2_ne (by omega), up2_ne (by omega), up2_ne (by omega), up2_ne (by omega), up2_eq]
theorem sPut2_28 {S : St} {t k : Nat} : sPut2 S t k 28 t = 0 := by unfold sPut2; rw [up2_ne (by omega), up2_ne (by omega), up2_ne (by omega), up2_eq]
theorem sPut2_29 {S : St} {t k : Nat} : sPut2 S t k 29 t = -1 := by unfold sPut2; rw [up2_ne (by omega), up2_ne (by omega), up2_eq]
theorem sPut2_c {S : St} {t k : Nat} : sPut2 S t k 10 12 = nI t + 1 := by unfold sPut2; rw [up2_ne (by omega), up2_eq]
theorem sPut2_w {S : St} {t k : Nat} : sPut2 S t k 10 4 = S 10 4 + 2 * S 18 k := by unfold sPut2; rw [up2_eq]
theorem sPut2_T {S : St} {t k : Nat} (ht : t < 100000) : cT (sPut2 S t k) = t + 1 := by unfold cT; rw [sPut2_c, nI_1]; exact nI_clamp (by omega)
theorem CR.put {S : St} {h : Hp} (hR : CR S h) (hW : MW S) {a k : Nat} (hT : TW S h a (cT S)) (hk : k < cS S) (h120 : cT S < 120) : CR (sPut2 S (cT S) k) (cPut2 S h a (cT S) k) := by
  obtain ⟨hV, ha38, f3, f6, f7, f9, f10, hnew⟩ := hT
  obtain ⟨ob, f0, f1, f2, f4, f5⟩ := hV
  have c0 := hR.1
  have h16 := hW.2.1.2
  have s1 := hR.shn1 hk
  have a1 : ¬ a = 1 := by omega
  have sa : ¬ shA h k = a := (hR.sh_ob k hk).ne ob (by decide)
  have hi := fun x j => cPut2_i (S := S) (h := h) (u := cT S) s1 a1 sa x j
  have eT : cT (sPut2 S (cT S) k) = cT S + 1 := sPut2_T (by omega)
  have s10 : ∀ j, ¬ j = 12 → ¬ j = 4 → sPut2 S (cT S) k 10 j = S 10 j := fun j e1 e2 => sPut2_ne (by omega) (by omega) (by omega)
  have eS : cS (sPut2 S (cT S) k) = cS S := by unfold cS; rw [s10 11 (by decide) (by decide)]
  have eC : cC (sPut2 S (cT S) k) = cC S := by unfold cC; rw [s10 29 (by decide) (by decide)]
  have eR : cR (sPut2 S (cT S) k) = cR S := by unfold cR; rw [s10 5 (by decide) (by decide)]
  have rr : ∀ x, ¬ x = a → ¬ x = 3 → am_r (cPut2 S h a (cT S) k) x = am_r h x := fun x e1 e2 => by funext j; rw [cPut2_r, if_neg (fun z => e1 z.1), if_neg (fun z => e2 z.1)]
  have r3 : ∀ q, ¬ q = cT S → am_r (cPut2 S h a (cT S) k) 3 q = am_r h 3 q := fun q e => by rw [cPut2_r, if_neg (fun z => by omega), if_neg (fun z => e z.2)]
  have b1 : shA (cPut2 S h a (cT S) k) = shA h := by funext q; unfold shA; rw [rr 2 (by omega) (by decide)]
  have b2 : ∀ q, ¬ q = cT S → thA (cPut2 S h a (cT S) k) q = thA h q := fun q e => by unfold thA; rw [r3 q e]
  have e3 : am_r (cPut2 S h a (cT S) k) 3 (cT S) = some a := by rw [cPut2_r, if_neg (fun z => by omega), if_pos ⟨rfl, rfl⟩]
  have eb : thA (cPut2 S h a (cT S) k) (cT S) = a := by unfold thA; rw [e3]; rfl
  have b3 : clA (cPut2 S h a (cT S) k) = clA h := by funext q; unfold clA; rw [rr 4 (by omega) (by decide)]
  have rc : ∀ q, q < cC S → am_r (cPut2 S h a (cT S) k) (clA h q) = am_r h (clA h q) := fun q hq => rr _ ((hR.cl_ob q hq).ne ob (by decide)) (hR.cl38' hq (by decide))
  have b4 : ∀ q, q < cC S → toA (cPut2 S h a (cT S) k) q = toA h q := fun q hq => by unfold toA; rw [b3, rc q hq]
  have sF : ∀ q, sFree (sPut2 S (cT S) k) q (cT S) = sFree S q (cT S) := fun q => sFree_congr (S := S) (s := q) (cT S) (sPut2_ne (by omega) (by omega) (by omega)) (fun t ht => ⟨sPut2_ne (by omega) (by omega) (by omega), sPut2_ne (by omega) (by omega) (by omega), sPut2_ne (by omega) (by omega) (by omega)⟩)
  have sL : ∀ q, sLoad (sPut2 S (cT S) k) q (cT S) = sLoad S q (cT S) := fun q => sLoad_congr (S := S) (s := q) (cT S) (fun t ht => ⟨sPut2_ne (by omega) (by omega) (by omega), sPut2_ne (by omega) (by omega) (by omega)⟩)
  have e21 : sPut2 S (cT S) k 21 (cT S) = S 21 (cT S) := sPut2_ne (by omega) (by omega) (by omega)
  refine ⟨cPut2_gr.cok c0 (fun j => by rw [rr 1 (by omega) (by decide)]) (fun j => by rw [rr 7 (by omega) (by decide)]), ?_, fun q hq => ?_, fun q hq => ?_, fun q hq => ?_, fun q hq => ?_, ?_⟩
  · have s1' : ¬ 1 = shA h k := fun z => s1 z.symm
    unfold CSc
    simp only [hi, s1', true_and, false_and, if_false]
    refine ⟨?_, ?_, ?_, ?_, ?_, ?_, ?_, ?_, ?_⟩
    · rw [s10 11 (by decide) (by decide)]; exact hR.c1
    · rw [sPut2_c]; rfl
    · rw [s10 29 (by decide) (by decide)]; exact hR.c5
    · rw [s10 5 (by decide) (by decide)]; exact hR.c7
    · rw [s10 0 (by decide) (by decide)]; exact hR.c10
    · rw [s10 1 (by decide) (by decide)]; exact hR.c11
    · rw [s10 2 (by decide) (by decide)]; exact hR.c12
    · rw [s10 3 (by decide) (by decide)]; exact hR.c13
    · rw [sPut2_w]; rfl
  · rw [eS] at hq
    have n1 := hR.shn1 hq
    have es : ∀ x, 16 ≤ x → x ≤ 20 → sPut2 S (cT S) k x q = S x q := fun x q1 q2 => sPut2_ne (by omega) (by omega) (by omega)
    have eF : sFree (sPut2 S (cT S) k) q (cT S + 1) = if q = k then sFree S q (cT S) - S 21 (cT S) else sFree S q (cT S) := by
      show (if sPut2 S (cT S) k 26 (cT S) = 0 ∧ sPut2 S (cT S) k 27 (cT S) = nI q then _ else _) = _
      rw [sPut2_26, sPut2_27, sF, e21]
      by_cases e : q = k
      · rw [if_pos ⟨rfl, by rw [e]⟩, if_pos e]
      · rw [if_neg (fun z => e ((nI_eq (by omega) (by omega)).mp z.2).symm), if_neg e]
    have eL : sLoad (sPut2 S (cT S) k) q (cT S + 1) = if q = k then sLoad S q (cT S) + 1 else sLoad S q (cT S) := by
      show sLoad (sPut2 S (cT S) k) q (cT S) + (if sPut2 S (cT S) k 26 (cT S) = 0 ∧ sPut2 S (cT S) k 27 (cT S) = nI q then 1 else 0) = _
      rw [sPut2_26, sPut2_27, sL]
      by_cases e : q = k
      · rw [if_pos ⟨rfl, by rw [e]⟩, if_pos e]
      · rw [if_neg (fun z => e ((nI_eq (by omega) (by omega)).mp z.2).symm), if_neg e, Int32.add_zero]
    refine (hR.2.2.1 q hq).of cPut2_gr (by rw [rr 2 (by omega) (by decide)]) (fun j e5 e6 => ?_) ?_ ?_ es
    · rw [hi, if_neg (fun z => n1 z.1), if_neg (fun z => n1 z.1), if_neg (fun z => e5 z.2), if_neg (fun z => e6 z.2)]
    · rw [hi, if_neg (fun z => n1 z.1), if_neg (fun z => n1 z.1), eT, eF]
      by_cases e : q = k
      · subst e
        rw [if_pos ⟨rfl, rfl⟩, if_pos rfl, hR.sh5 q hq, f0]
      · rw [if_neg (fun z => hR.shInj hq hk e z.1), if_neg (fun z => hR.shInj hq hk e z.1), if_neg e, hR.sh5 q hq]
    · rw [hi, if_neg (fun z => n1 z.1), if_neg (fun z => n1 z.1), eT, eL]
      by_cases e : q = k
      · subst e
        rw [if_neg (by omega), if_pos ⟨rfl, rfl⟩, if_pos rfl, hR.sh6 q hq]
      · rw [if_neg (fun z => hR.shInj hq hk e z.1), if_neg (fun z => hR.shInj hq hk e z.1), if_neg e, hR.sh6 q hq]
  · rw [eT] at hq
    by_cases e : q = cT S
    · subst e
      have ei : ∀ j, am_i (cPut2 S h a (cT S) k) a j = am_i h a j := fun j => by rw [hi, if_neg (fun z => a1 z.1), if_neg (fun z => a1 z.1), if_neg (fun z => sa z.1.symm), if_neg (fun z => sa z.1.symm)]
      have eo : onN (sPut2 S (cT S) k) (cT S) = k := by unfold onN; rw [sPut2_27]; exact nI_clamp (by omega)
      unfold CTh
      rw [eb]
      simp only [ei]
      rw [eo, b1, sPut2_25, sPut2_26, sPut2_28, sPut2_29, e21, sPut2_ne (a := 22) (by omega) (by omega) (by omega), sPut2_ne (a := 30) (by omega) (by omega) (by omega), sPut2_ne (a := 31) (by omega) (by omega) (by omega), sPut2_ne (a := 23) (by omega) (by omega) (by omega), sPut2_ne (a := 24) (by omega) (by omega) (by omega)]
      exact ⟨e3, ha38, cPut2_gr.ob ob, f0, f1, f2, f3, f4, f5, f6, f7, f9, f10, by rw [cPut2_r, if_pos ⟨rfl, rfl⟩, if_pos rfl]⟩
    · have hq2 : q < cT S := by omega
      have n1 := hR.th1' hq2
      have n2 : ¬ thA h q = shA h k := (hR.th_ob q hq2).ne (hR.sh_ob k hk) (by decide)
      refine (hR.2.2.2.1 q hq2).of cPut2_gr (r3 q e) (fun j => ?_) ?_ (fun _ => by rw [b1]) (fun x q1 q2 => sPut2_ne (by omega) (by omega) (by omega))
      · rw [hi, if_neg (fun z => n1 z.1), if_neg (fun z => n1 z.1), if_neg (fun z => n2 z.1), if_neg (fun z => n2 z.1)]
      · rw [rr _ (hnew q hq2) (hR.th38' hq2 (by decide))]
  · rw [eC] at hq
    have n1 := hR.cl1' hq
    have n3 : ¬ clA h q = shA h k := (hR.cl_ob q hq).ne (hR.sh_ob k hk) (by decide)
    have m1 := hR.to1 hq
    have m3 : ¬ toA h q = shA h k := (hR.cl_ta q hq).1.ne (hR.sh_ob k hk) (by decide)
    exact (hR.2.2.2.2.1 q hq).of cPut2_gr (by rw [rr 4 (by omega) (by decide)]) (by rw [rc q hq]) (fun j => by rw [hi, if_neg (fun z => n1 z.1), if_neg (fun z => n1 z.1), if_neg (fun z => n3 z.1), if_neg (fun z => n3 z.1)]) (fun j => by rw [hi, if_neg (fun z => m1 z.1), if_neg (fun z => m1 z.1), if_neg (fun z => m3 z.1), if_neg (fun z => m3 z.1)]) (fun j _ => sPut2_ne (by omega) (by omega) (by omega)) (sPut2_ne (by omega) (by omega) (by omega)) (sPut2_ne (by omega) (by omega) (by omega))
  · rw [eR] at hq
    have n1 := hR.ro1' hq
    have n3 : ¬ roA h q = shA h k := (hR.ro_ob q hq).ne (hR.sh_ob k hk) (by decide)
    exact (hR.2.2.2.2.2.1 q hq).of cPut2_gr (by rw [rr 5 (by omega) (by decide)]) (fun j => by rw [hi, if_neg (fun z => n1 z.1), if_neg (fun z => n1 z.1), if_neg (fun z => n3 z.1), if_neg (fun z => n3 z.1)]) (fun x q1 q2 => sPut2_ne (by omega) (by omega) (by omega))
  · obtain ⟨p1, p2, p3, p4⟩ := hR.2.2.2.2.2.2
    unfold CAp
    rw [b1, b3, eS, eT, eC]
    refine ⟨p1, fun x y hx hy e => ?_, p3, fun x y hx hy e => p4 x y hx hy (by rw [← b4 x hx, ← b4 y hy]; exact e)⟩
    by_cases ex : x = cT S
    · by_cases ey : y = cT S
      · omega
      · rw [ex, eb, b2 y ey] at e
        exact absurd e.symm (hnew y (by omega))
    · by_cases ey : y = cT S
      · rw [ey, eb, b2 x ex] at e
        exact absurd e (hnew x (by omega))
      · rw [b2 x ex, b2 y ey] at e
        exact p2 x y (by omega) (by omega) e
