/-! THE LEAST SUM, by sets -/
def bi (x i : Nat) : Nat := x / 2 ^ i % 2
theorem bi_01 (x i : Nat) : bi x i = 0 ∨ bi x i = 1 := by unfold bi; omega
def sbs (r x : Nat) : Bool := decide (nI r &&& nI x = nI r)
theorem sbs_1 : ∀ r, r < 32 → ∀ x, x < 32 → sbs r x = true → ∀ i, i < 5 → bi r i = 1 → bi x i = 1 := by decide +kernel
theorem sbs_2 : ∀ r, r < 32 → ∀ x, x < 32 → (∀ i, i < 5 → bi r i = 1 → bi x i = 1) → sbs r x = true := by decide +kernel
theorem sbs_3 : ∀ r, r < 32 → ∀ x, x < 32 → sbs r x = true → r ≤ x ∧ ∀ i, i < 5 → bi (x - r) i + bi r i = bi x i := by decide +kernel
theorem bi_all : ∀ m, m < 6 → ∀ x, x < 32 → x < 2 ^ m → (∀ i, i < m → bi x i = 0) → x = 0 := by decide +kernel
theorem bi_full : ∀ m, m < 6 → ∀ i, i < m → bi (2 ^ m - 1) i = 1 := by decide +kernel
theorem bi_0 : ∀ i, i < 5 → bi 0 i = 0 := by decide +kernel
theorem two5 : ∀ m, m < 6 → 2 ^ m ≤ 32 ∧ 1 ≤ 2 ^ m := by decide +kernel
def mkb (b0 b1 b2 b3 b4 : Bool) : Nat := b0.toNat + 2 * b1.toNat + 4 * b2.toNat + 8 * b3.toNat + 16 * b4.toNat
theorem mkb_ok : ∀ b0 b1 b2 b3 b4 : Bool, mkb b0 b1 b2 b3 b4 < 32 ∧ bi (mkb b0 b1 b2 b3 b4) 0 = b0.toNat ∧ bi (mkb b0 b1 b2 b3 b4) 1 = b1.toNat ∧ bi (mkb b0 b1 b2 b3 b4) 2 = b2.toNat ∧ bi (mkb b0 b1 b2 b3 b4) 3 = b3.toNat ∧ bi (mkb b0 b1 b2 b3 b4) 4 = b4.toNat := by decide +kernel
theorem mkset (g : Nat → Bool) : ∃ r, r < 32 ∧ ∀ i, i < 5 → bi r i = (g i).toNat := by
  obtain ⟨h, h0, h1, h2, h3, h4⟩ := mkb_ok (g 0) (g 1) (g 2) (g 3) (g 4)
  refine ⟨_, h, fun i hi => ?_⟩
  match i, hi with
  | 0, _ => exact h0
  | 1, _ => exact h1
  | 2, _ => exact h2
  | 3, _ => exact h3
  | 4, _ => exact h4
def ldS (P : Pb) (x : Nat) (f : Nat → Nat) (s : Nat) : Nat → Nat
  | 0 => 0
  | k + 1 => ldS P x f s k + (if bi x k = 1 ∧ f k = s then pbZ P k else 0)
def csS (P : Pb) (x : Nat) (f : Nat → Nat) : Nat → Nat
  | 0 => 0
  | k + 1 => csS P x f k + (if bi x k = 1 then pbC P k (f k) else 0)
def VlS (P : Pb) (x : Nat) (f : Nat → Nat) (p : Nat) : Prop := (∀ i, i < pbM P → bi x i = 1 → f i < p ∧ pbK P i (f i) = true) ∧ ∀ s, s < p → ldS P x f s (pbM P) ≤ pbR P s
def plS (P : Pb) (r : Nat) : Nat → Nat
  | 0 => 0
  | k + 1 => plS P r k + (if bi r k = 1 then pbZ P k else 0)
def pcS (P : Pb) (p r : Nat) : Nat → Nat
  | 0 => 0
  | k + 1 => pcS P p r k + (if bi r k = 1 then pbC P k p else 0)
def psP (P : Pb) (p r : Nat) : Nat → Bool
  | 0 => true
  | k + 1 => psP P p r k && (decide (bi r k = 0) || (pbK P k p && decide (plS P r (k + 1) ≤ pbR P p)))
def psV (P : Pb) (p r : Nat) : Nat := if psP P p r (pbM P) = true then pcS P p r (pbM P) else 1000000
theorem psP_1 {P : Pb} {p r : Nat} : ∀ {k : Nat}, psP P p r k = true → (∀ i, i < k → bi r i = 1 → pbK P i p = true) ∧ plS P r k ≤ pbR P p := by
  intro k
  induction k with
  | zero => intro _; exact ⟨fun i hi => by omega, Nat.zero_le _⟩
  | succ k ih =>
    intro h
    simp only [psP, Bool.and_eq_true, Bool.or_eq_true, decide_eq_true_eq] at h
    obtain ⟨h1, h2⟩ := ih h.1
    rcases h.2 with e | ⟨e1, e2⟩
    · refine ⟨fun i hi hb => ?_, ?_⟩
      · by_cases q : i = k
        · rw [q, e] at hb; exact absurd hb (by decide)
        · exact h1 i (by omega) hb
      · simp only [plS, e]
        rw [if_neg (by decide)]
        exact h2
    · refine ⟨fun i hi hb => ?_, e2⟩
      by_cases q : i = k
      · rw [q]; exact e1
      · exact h1 i (by omega) hb
theorem plS_mono {P : Pb} {r : Nat} : ∀ {j k : Nat}, k ≤ j → plS P r k ≤ plS P r j := by
  intro j
  induction j with
  | zero => intro k h; rw [show k = 0 by omega]; exact Nat.le_refl _
  | succ j ih =>
    intro k h
    by_cases e : k = j + 1
    · rw [e]; exact Nat.le_refl _
    · have := ih (k := k) (by omega)
      simp only [plS]
      omega
theorem psP_2 {P : Pb} {p r : Nat} : ∀ {k : Nat}, (∀ i, i < k → bi r i = 1 → pbK P i p = true) → plS P r k ≤ pbR P p → psP P p r k = true := by
  intro k
  induction k with
  | zero => intro _ _; rfl
  | succ k ih =>
    intro h1 h2
    simp only [psP, Bool.and_eq_true, Bool.or_eq_true, decide_eq_true_eq]
    refine ⟨ih (fun i hi => h1 i (by omega)) (Nat.le_trans (plS_mono (by omega)) h2), ?_⟩
    rcases bi_01 r k with e | e
    · exact Or.inl e
    · exact Or.inr ⟨h1 k (by omega) e, h2⟩
theorem psP_down {P : Pb} {p r : Nat} : ∀ {j k : Nat}, k ≤ j → psP P p r j = true → psP P p r k = true := by
  intro j
  induction j with
  | zero => intro k h q; rw [show k = 0 by omega]; rfl
  | succ j ih =>
    intro k h q
    by_cases e : k = j + 1
    · rw [e]; exact q
    · simp only [psP, Bool.and_eq_true] at q
      exact ih (by omega) q.1
theorem psV_lt {P : Pb} {p r : Nat} (h : psV P p r < 1000000) : (∀ i, i < pbM P → bi r i = 1 → pbK P i p = true) ∧ plS P r (pbM P) ≤ pbR P p ∧ psV P p r = pcS P p r (pbM P) := by
  unfold psV at h ⊢
  split
  · rename_i q
    exact ⟨(psP_1 q).1, (psP_1 q).2, rfl⟩
  · rename_i q
    rw [if_neg q] at h
    omega
theorem psV_ok {P : Pb} {p r : Nat} (h1 : ∀ i, i < pbM P → bi r i = 1 → pbK P i p = true) (h2 : plS P r (pbM P) ≤ pbR P p) : psV P p r = pcS P p r (pbM P) := if_pos (psP_2 h1 h2)
def inn (P : Pb) (p : Nat) (A : Nat → Nat) (x : Nat) : Nat → Nat
  | 0 => A x
  | q + 1 => if sbs (q + 1) x = true then min (inn P p A x q) (A (x - (q + 1)) + psV P p (q + 1)) else inn P p A x q
theorem inn_le (P : Pb) (p : Nat) (A : Nat → Nat) (x : Nat) : ∀ (q : Nat), inn P p A x q ≤ A x ∧ (∀ r, 1 ≤ r → r ≤ q → sbs r x = true → inn P p A x q ≤ A (x - r) + psV P p r) ∧ (inn P p A x q = A x ∨ ∃ r, 1 ≤ r ∧ r ≤ q ∧ sbs r x = true ∧ inn P p A x q = A (x - r) + psV P p r) := by
  intro q
  induction q with
  | zero => exact ⟨Nat.le_refl _, fun r h1 h2 => by omega, Or.inl rfl⟩
  | succ q ih =>
    obtain ⟨i1, i2, i3⟩ := ih
    by_cases c : sbs (q + 1) x = true
    · have e : inn P p A x (q + 1) = min (inn P p A x q) (A (x - (q + 1)) + psV P p (q + 1)) := if_pos c
      rw [e]
      refine ⟨by omega, fun r h1 h2 h3 => ?_, ?_⟩
      · by_cases z : r = q + 1
        · rw [z]; omega
        · have := i2 r h1 (by omega) h3
          omega
      · by_cases z : inn P p A x q ≤ A (x - (q + 1)) + psV P p (q + 1)
        · rw [Nat.min_eq_left z]
          rcases i3 with y | ⟨r, y1, y2, y3, y4⟩
          · exact Or.inl y
          · exact Or.inr ⟨r, y1, by omega, y3, y4⟩
        · rw [Nat.min_eq_right (by omega)]
          exact Or.inr ⟨q + 1, by omega, Nat.le_refl _, c, rfl⟩
    · have e : inn P p A x (q + 1) = inn P p A x q := if_neg c
      rw [e]
      refine ⟨i1, fun r h1 h2 h3 => ?_, ?_⟩
      · by_cases z : r = q + 1
        · rw [z] at h3; exact absurd h3 c
        · exact i2 r h1 (by omega) h3
      · rcases i3 with y | ⟨r, y1, y2, y3, y4⟩
        · exact Or.inl y
        · exact Or.inr ⟨r, y1, by omega, y3, y4⟩
/-- what the sums over sets are when the shelves below p have been offered -/
def DpI (P : Pb) (p : Nat) (A : Nat → Nat) : Prop := ∀ x, x < 2 ^ pbM P → A x ≤ 1000000 ∧ (A x < 1000000 → ∃ f, VlS P x f p ∧ csS P x f (pbM P) = A x) ∧ ∀ f, VlS P x f p → A x ≤ csS P x f (pbM P)
theorem ldS_zero {P : Pb} {x : Nat} {f : Nat → Nat} {s : Nat} : ∀ {k : Nat}, (∀ i, i < k → bi x i = 1 → ¬ f i = s) → ldS P x f s k = 0 := by
  intro k
  induction k with
  | zero => intro _; rfl
  | succ k ih =>
    intro h
    simp only [ldS, ih (fun i hi => h i (by omega))]
    rw [if_neg (fun z => h k (by omega) z.1 z.2)]
theorem ldS_congr {P : Pb} {x y : Nat} {f g : Nat → Nat} {s : Nat} : ∀ {k : Nat}, (∀ i, i < k → ((bi x i = 1 ∧ f i = s) ↔ (bi y i = 1 ∧ g i = s))) → ldS P x f s k = ldS P y g s k := by
  intro k
  induction k with
  | zero => intro _; rfl
  | succ k ih =>
    intro h
    have e := h k (by omega)
    simp only [ldS, ih (fun i hi => h i (by omega)), e]
theorem ldS_pl {P : Pb} {x r : Nat} {f : Nat → Nat} {s : Nat} : ∀ {k : Nat}, (∀ i, i < k → ((bi x i = 1 ∧ f i = s) ↔ bi r i = 1)) → ldS P x f s k = plS P r k := by
  intro k
  induction k with
  | zero => intro _; rfl
  | succ k ih =>
    intro h
    have e := h k (by omega)
    simp only [ldS, plS, ih (fun i hi => h i (by omega)), e]
theorem csS_split {P : Pb} {x y r p : Nat} {f g : Nat → Nat} : ∀ {k : Nat}, (∀ i, i < k → bi y i + bi r i = bi x i ∧ (bi r i = 1 → f i = p) ∧ (bi r i = 0 → f i = g i)) → csS P x f k = csS P y g k + pcS P p r k := by
  intro k
  induction k with
  | zero => intro _; rfl
  | succ k ih =>
    intro h
    obtain ⟨e1, e2, e3⟩ := h k (by omega)
    simp only [csS, pcS, ih (fun i hi => h i (by omega))]
    rcases bi_01 r k with q | q
    · rw [q] at e1
      rw [← e1, q, e3 q]
      rw [if_neg (show ¬ (0 = 1) by decide), Nat.add_zero, Nat.add_zero]
      omega
    · have hx := bi_01 x k
      have hy : bi y k = 0 := by omega
      have hx1 : bi x k = 1 := by omega
      rw [hx1, hy, q, e2 q]
      simp only [if_true]
      rw [if_neg (show ¬ (0 = 1) by decide)]
      omega
theorem DpI.start (P : Pb) (hm : pbM P < 6) (A : Nat → Nat) (h0 : A 0 = 0) (h1 : ∀ x, 0 < x → x < 2 ^ pbM P → A x = 1000000) : DpI P 0 A := by
  intro x hx
  have h32 := two5 _ hm
  rcases Nat.eq_zero_or_pos x with e | e
  · subst e
    have ez : ∀ (k : Nat), k ≤ 5 → ∀ f, csS P 0 f k = 0 := by
      intro k
      induction k with
      | zero => intro _ f; rfl
      | succ k ih => intro hk f; simp only [csS, ih (by omega) f, bi_0 k (by omega)]; rfl
    rw [h0]
    refine ⟨by omega, fun _ => ⟨fun _ => 0, ⟨fun i hi hb => ?_, fun s hs => by omega⟩, ez _ (by omega) _⟩, fun f _ => Nat.zero_le _⟩
    rw [bi_0 i (by omega)] at hb
    exact absurd hb (by decide)
  · rw [h1 x e hx]
    refine ⟨Nat.le_refl _, fun z => by omega, fun f hf => ?_⟩
    exfalso
    have := bi_all _ hm x (by omega) hx (fun i hi => by
      rcases bi_01 x i with q | q
      · exact q
      · have := (hf.1 i hi q).1; omega)
    omega
theorem VlS.up {P : Pb} {x p : Nat} {f : Nat → Nat} (h : VlS P x f p) : VlS P x f (p + 1) := by
  refine ⟨fun i hi hb => ⟨by have := (h.1 i hi hb).1; omega, (h.1 i hi hb).2⟩, fun s hs => ?_⟩
  by_cases e : s = p
  · subst e
    rw [ldS_zero (fun i hi hb => by have := (h.1 i hi hb).1; omega)]
    exact Nat.zero_le _
  · exact h.2 s (by omega)
theorem VlS.down {P : Pb} {x p : Nat} {f : Nat → Nat} (h : VlS P x f (p + 1)) (hn : ∀ i, i < pbM P → bi x i = 1 → ¬ f i = p) : VlS P x f p :=
  ⟨fun i hi hb => ⟨by have := (h.1 i hi hb).1; have := hn i hi hb; omega, (h.1 i hi hb).2⟩, fun s hs => h.2 s (by omega)⟩
theorem DpI.skip {P : Pb} {p : Nat} {A : Nat → Nat} (h : DpI P p A) (hk : ∀ i, i < pbM P → pbK P i p = false) : DpI P (p + 1) A := by
  intro x hx
  obtain ⟨h1, h2, h3⟩ := h x hx
  refine ⟨h1, fun z => ?_, fun f hf => h3 f (hf.down (fun i hi hb e => ?_))⟩
  · obtain ⟨f, f1, f2⟩ := h2 z
    exact ⟨f, f1.up, f2⟩
  · have := (hf.1 i hi hb).2
    rw [e, hk i hi] at this
    cases this
theorem DpI.offer {P : Pb} (hm : pbM P < 6) {p : Nat} {A B : Nat → Nat} (h : DpI P p A) (hB : ∀ x, x < 2 ^ pbM P → B x = inn P p A x x) : DpI P (p + 1) B := by
  intro x hx
  have h32 := two5 _ hm
  have hx32 : x < 32 := by omega
  obtain ⟨h1, h2, h3⟩ := h x hx
  obtain ⟨i1, i2, i3⟩ := inn_le P p A x x
  rw [hB x hx]
  refine ⟨by omega, fun z => ?_, fun f hf => ?_⟩
  · rcases i3 with e | ⟨r, r1, r2, r3, e⟩
    · rw [e] at z ⊢
      obtain ⟨f, f1, f2⟩ := h2 z
      exact ⟨f, f1.up, f2⟩
    · rw [e] at z ⊢
      obtain ⟨s1, s2⟩ := sbs_3 r (by omega) x hx32 r3
      obtain ⟨-, g2, -⟩ := h (x - r) (by omega)
      obtain ⟨f, f1, f2⟩ := g2 (by omega)
      obtain ⟨p1, p2, p3⟩ := psV_lt (P := P) (p := p) (r := r) (by omega)
      refine ⟨fun i => if bi r i = 1 then p else f i, ⟨fun i hi hb => ?_, fun s hs => ?_⟩, ?_⟩
      · have q := s2 i (by omega)
        by_cases c : bi r i = 1
        · simp only [c, if_true]
          exact ⟨by omega, p1 i hi c⟩
        · simp only [c, if_false]
          have c0 := bi_01 r i
          have := f1.1 i hi (by omega)
          exact ⟨by omega, this.2⟩
      · by_cases c : s = p
        · subst c
          rw [ldS_pl (r := r) (fun i hi => ?_)]
          · exact p2
          · have q := s2 i (by omega)
            have cx := bi_01 x i
            by_cases c : bi r i = 1
            · simp only [c, if_true]
              exact ⟨fun _ => trivial, fun _ => ⟨by omega, trivial⟩⟩
            · simp only [c, if_false]
              refine ⟨fun w => ?_, fun w => absurd w (by decide)⟩
              have c0 := bi_01 r i
              have := f1.1 i hi (by omega)
              omega
        · rw [ldS_congr (y := x - r) (g := f) (fun i hi => ?_)]
          · exact f1.2 s (by omega)
          · have q := s2 i (by omega)
            have cx := bi_01 x i
            have c0 := bi_01 r i
            by_cases c : bi r i = 1
            · simp only [c, if_true]
              exact ⟨fun w => absurd w.2.symm (by omega), fun w => by omega⟩
            · simp only [c, if_false]
              exact ⟨fun w => ⟨by omega, w.2⟩, fun w => ⟨by omega, w.2⟩⟩
      · rw [p3, ← f2]
        exact csS_split (fun i hi => ⟨s2 i (by omega), fun c => if_pos c, fun c => if_neg (by omega)⟩)
  · obtain ⟨r, r1, r2⟩ := mkset (fun i => decide (i < pbM P ∧ bi x i = 1 ∧ f i = p))
    have rb : ∀ i, i < 5 → (bi r i = 1 ↔ (i < pbM P ∧ bi x i = 1 ∧ f i = p)) := fun i hi => by
      rw [r2 i hi]
      by_cases c : i < pbM P ∧ bi x i = 1 ∧ f i = p
      · simp [c]
      · simp [c]
    rcases Nat.eq_zero_or_pos r with e | e
    · subst e
      have := h3 f (hf.down (fun i hi hb c => by
        have := (rb i (by omega)).mpr ⟨hi, hb, c⟩
        rw [bi_0 i (by omega)] at this
        exact absurd this (by decide)))
      omega
    · have hs := sbs_2 r r1 x hx32 (fun i hi hb => ((rb i hi).mp hb).2.1)
      obtain ⟨s1, s2⟩ := sbs_3 r r1 x hx32 hs
      have l1 := i2 r e s1 hs
      have hp1 : ∀ i, i < pbM P → bi r i = 1 → pbK P i p = true := fun i hi hb => by
        have q := (rb i (by omega)).mp hb
        have := (hf.1 i hi q.2.1).2
        rw [q.2.2] at this
        exact this
      have epl : ldS P x f p (pbM P) = plS P r (pbM P) := ldS_pl (fun i hi => ⟨fun w => (rb i (by omega)).mpr ⟨hi, w⟩, fun w => ((rb i (by omega)).mp w).2⟩)
      have hp2 : plS P r (pbM P) ≤ pbR P p := by rw [← epl]; exact hf.2 p (by omega)
      rw [psV_ok hp1 hp2] at l1
      have hv : VlS P (x - r) f p := by
        refine ⟨fun i hi hb => ?_, fun s hs => ?_⟩
        · have q := s2 i (by omega)
          have cx := bi_01 x i
          have cr := bi_01 r i
          have a1 := hf.1 i hi (by omega)
          have a2 : ¬ f i = p := fun w => by
            have := (rb i (by omega)).mpr ⟨hi, by omega, w⟩
            omega
          exact ⟨by omega, a1.2⟩
        · rw [ldS_congr (y := x) (g := f) (fun i hi => ?_)]
          · exact hf.2 s (by omega)
          · have q := s2 i (by omega)
            have cx := bi_01 x i
            have cr := bi_01 r i
            refine ⟨fun w => ⟨by omega, w.2⟩, fun w => ⟨?_, w.2⟩⟩
            have a2 : ¬ bi r i = 1 := fun y => by
              have := ((rb i (by omega)).mp y).2.2
              omega
            omega
      have l2 := (h (x - r) (by omega)).2.2 f hv
      have l3 : csS P x f (pbM P) = csS P (x - r) f (pbM P) + pcS P p r (pbM P) := csS_split (fun i hi => ⟨s2 i (by omega), fun c => ((rb i (by omega)).mp c).2.2, fun _ => rfl⟩)
      omega
theorem csF_le {P : Pb} {f : Nat → Nat} (h : ∀ i s, i < pbM P → s < pbN P → pbC P i s ≤ 99) : ∀ {k : Nat}, k ≤ pbM P → (∀ i, i < k → f i < pbN P) → csF P f k ≤ 99 * k := by
  intro k
  induction k with
  | zero => intro _ _; exact Nat.le_refl _
  | succ k ih =>
    intro hk hf
    have a := ih (by omega) (fun i hi => hf i (by omega))
    have b := h k (f k) (by omega) (hf k (by omega))
    simp only [csF]
    omega
theorem DpI.done {P : Pb} (hm : pbM P < 6) (hc : ∀ i s, i < pbM P → s < pbN P → pbC P i s ≤ 99) {A : Nat → Nat} (h : DpI P (pbN P) A) {f0 : Nat → Nat} (hf0 : VlK P f0 (pbM P)) : IsL P (A (2 ^ pbM P - 1)) := by
  have h32 := two5 _ hm
  have hb := bi_full _ hm
  have e1 : ∀ (f : Nat → Nat) (s k : Nat), k ≤ pbM P → ldS P (2 ^ pbM P - 1) f s k = ldF P f s k := by
    intro f s k
    induction k with
    | zero => intro _; rfl
    | succ k ih =>
      intro hk
      simp only [ldS, ldF, ih (by omega), hb k (by omega), true_and]
  have e2 : ∀ (f : Nat → Nat) (k : Nat), k ≤ pbM P → csS P (2 ^ pbM P - 1) f k = csF P f k := by
    intro f k
    induction k with
    | zero => intro _; rfl
    | succ k ih =>
      intro hk
      simp only [csS, csF, ih (by omega), hb k (by omega), if_true]
  have e3 : ∀ f, VlS P (2 ^ pbM P - 1) f (pbN P) ↔ VlK P f (pbM P) := by
    intro f
    refine ⟨fun z => ⟨fun i hi => z.1 i hi (hb i hi), fun s hs => by rw [← e1 f s _ (Nat.le_refl _)]; exact z.2 s hs⟩, fun z => ⟨fun i hi _ => z.1 i hi, fun s hs => by rw [e1 f s _ (Nat.le_refl _)]; exact z.2 s hs⟩⟩
  obtain ⟨h1, h2, h3⟩ := h (2 ^ pbM P - 1) (by omega)
  have l := h3 f0 ((e3 f0).mpr hf0)
  rw [e2 f0 _ (Nat.le_refl _)] at l
  have l2 := csF_le hc (Nat.le_refl _) (fun i hi => (hf0.1 i hi).1)
  obtain ⟨f, f1, f2⟩ := h2 (by omega)
  refine ⟨⟨f, (e3 f).mp f1, by rw [← e2 f _ (Nat.le_refl _)]; exact f2⟩, fun g hg => ?_⟩
  have := h3 g ((e3 g).mpr hg)
  rw [e2 g _ (Nat.le_refl _)] at this
  exact this
