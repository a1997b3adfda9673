/-! WHERE CLASS AND REFERENCE COUNT IN TWO WAYS -/
section EQ
variable {S : St}
/-- how many of the first n a claim means -/
def cnM (S : St) (c : Nat) : Nat → Nat
  | 0 => 0
  | n + 1 => cnM S c n + (if sIsM S c n = 1 then 1 else 0)
theorem sMeans_cn (c : Nat) : ∀ n, sMeans S c n = nI (cnM S c n) := by
  intro n
  induction n with
  | zero => rfl
  | succ n ih =>
    simp only [sMeans, cnM, ih]
    rcases sIsM_01 S c n with e | e
    · rw [e, if_neg (by decide), Int32.add_zero, Nat.add_zero]
    · rw [e, if_pos rfl, nI_1]
theorem cnM_le (c : Nat) : ∀ n, cnM S c n ≤ n := by
  intro n
  induction n with
  | zero => exact Nat.le_refl _
  | succ n ih => simp only [cnM]; split <;> omega
theorem cnM_mono (c : Nat) : ∀ {n k : Nat}, k ≤ n → cnM S c k ≤ cnM S c n := by
  intro n
  induction n with
  | zero => intro k h; rw [show k = 0 by omega]; exact Nat.le_refl _
  | succ n ih =>
    intro k h
    by_cases e : k = n + 1
    · rw [e]; exact Nat.le_refl _
    · have := ih (k := k) (by omega)
      simp only [cnM]
      omega
theorem cnM_one {c n p : Nat} (hp : p < n) (e : sIsM S c p = 1) : cnM S c p + 1 ≤ cnM S c n := by
  have := cnM_mono (S := S) c (n := n) (k := p + 1) (by omega)
  simp only [cnM, e, if_true] at this
  exact this
theorem cnM_zero {c : Nat} : ∀ {n : Nat}, (∀ p, p < n → sIsM S c p = 0) → cnM S c n = 0 := by
  intro n
  induction n with
  | zero => intro _; rfl
  | succ n ih =>
    intro h
    simp only [cnM, ih (fun p hp => h p (by omega)), h n (by omega)]
    rfl
theorem sLast_ok (c : Nat) : ∀ n, (sLast S c n = -1 ∧ ∀ p, p < n → sIsM S c p = 0) ∨ ∃ q, q < n ∧ sLast S c n = nI q ∧ sIsM S c q = 1 := by
  intro n
  induction n with
  | zero => exact Or.inl ⟨rfl, fun p hp => by omega⟩
  | succ n ih =>
    simp only [sLast]
    rcases sIsM_01 S c n with e | e
    · rw [if_neg (by rw [e]; decide)]
      rcases ih with ⟨h1, h2⟩ | ⟨q, h1, h2, h3⟩
      · refine Or.inl ⟨h1, fun p hp => ?_⟩
        by_cases z : p = n
        · rw [z]; exact e
        · exact h2 p (by omega)
      · exact Or.inr ⟨q, by omega, h2, h3⟩
    · rw [if_pos e]
      exact Or.inr ⟨n, by omega, rfl, e⟩
theorem cFst_ok (c : Nat) : ∀ n t, (cFst S c n t = -1 ∧ ∀ p, t ≤ p → p < t + n → sIsM S c p = 0) ∨ ∃ q, t ≤ q ∧ q < t + n ∧ cFst S c n t = nI q ∧ sIsM S c q = 1 := by
  intro n
  induction n with
  | zero => intro t; exact Or.inl ⟨rfl, fun p h1 h2 => by omega⟩
  | succ n ih =>
    intro t
    simp only [cFst]
    rcases sIsM_01 S c t with e | e
    · rw [if_pos e]
      rcases ih (t + 1) with ⟨h1, h2⟩ | ⟨q, h1, h2, h3, h4⟩
      · refine Or.inl ⟨h1, fun p hp1 hp2 => ?_⟩
        by_cases z : p = t
        · rw [z]; exact e
        · exact h2 p (by omega) (by omega)
      · exact Or.inr ⟨q, by omega, by omega, h3, h4⟩
    · rw [if_neg (by rw [e]; decide)]
      exact Or.inr ⟨t, by omega, by omega, rfl, e⟩
/-- two that a claim means, and it means more than one -/
theorem cnM_two {c n p q : Nat} (hp : p < n) (hq : q < n) (e : ¬ p = q) (h1 : sIsM S c p = 1) (h2 : sIsM S c q = 1) : 2 ≤ cnM S c n := by
  rcases Nat.lt_or_ge p q with z | z
  · have a := cnM_one hq h2
    have b := cnM_one z h1
    omega
  · have a := cnM_one hp h1
    have b := cnM_one (show q < p by omega) h2
    omega
/-- what one claim means -/
theorem means_cases (hW : MW S) (c : Nat) : (sMeans S c (cT S) = 0 ∧ cFst S c (cT S) 0 = -1) ∨ (sMeans S c (cT S) = 1 ∧ ∃ t, t < cT S ∧ sIsM S c t = 1 ∧ cFst S c (cT S) 0 = nI t ∧ sLast S c (cT S) = nI t ∧ ∀ q, q < cT S → sIsM S c q = 1 → q = t) ∨ (¬ sMeans S c (cT S) ≤ 1 ∧ ∃ t, t < cT S ∧ cFst S c (cT S) 0 = nI t) := by
  have h12 := hW.2.2.1.2
  have hle := cnM_le (S := S) c (cT S)
  rw [sMeans_cn]
  rcases cFst_ok (S := S) c (cT S) 0 with ⟨h1, h2⟩ | ⟨q, h1, h2, h3, h4⟩
  · left
    rw [cnM_zero (fun p hp => h2 p (by omega) (by omega))]
    exact ⟨rfl, h1⟩
  · right
    have hq : q < cT S := by omega
    have h5 := cnM_one hq h4
    by_cases e : cnM S c (cT S) = 1
    · left
      rw [e]
      have un : ∀ p, p < cT S → sIsM S c p = 1 → p = q := fun p hp hs => by
        by_cases z : p = q
        · exact z
        · have := cnM_two hp hq z hs h4
          omega
      refine ⟨rfl, q, hq, h4, h3, ?_, un⟩
      rcases sLast_ok (S := S) c (cT S) with ⟨l1, l2⟩ | ⟨p, l1, l2, l3⟩
      · rw [l2 q hq] at h4; exact absurd h4 (by decide)
      · rw [l2, un p l1 l3]
    · right
      refine ⟨fun z => ?_, q, hq, h3⟩
      have := (nI_leI (b := 1) (by omega) (by decide)).mp z
      omega
theorem con_eq (hW : MW S) (c t : Nat) (ht : t < cT S) : ∀ n, cCon S c t n = sCon S c (nI t) n := by
  intro n
  have h12 := hW.2.2.1.2
  induction n with
  | zero => rfl
  | succ n ih =>
    simp only [cCon, sCon, ih]
    congr 1
    apply decide_eq_decide.mpr
    refine ⟨fun ⟨a, b, d, e, f⟩ => ⟨a, b, d, f, ?_⟩, fun ⟨a, b, d, e, f⟩ => ⟨a, b, d, ?_, e⟩⟩
    · rcases means_cases hW n with ⟨z, _⟩ | ⟨_, q, q1, q2, _, q4, q5⟩ | ⟨z, _⟩
      · rw [z] at f; exact absurd f (by decide)
      · rw [q4, ← q5 t ht ((sIsM_01 S n t).resolve_left e)]
      · rw [f] at z; exact absurd (Int32.le_refl _) z
    · rcases sLast_ok (S := S) n (cT S) with ⟨l1, l2⟩ | ⟨p, l1, l2, l3⟩
      · rw [l1] at f
        exact absurd (show nI t < 0 by rw [← f]; decide) (nI_pos (by omega))
      · rw [l2] at f
        rw [← (nI_eq (by omega) (by omega)).mp f, l3]
        decide
/-! loads -/
def smI (g : Nat → Int32) : Nat → Int32
  | 0 => 0
  | k + 1 => smI g k + g k
theorem smI_congr {g h : Nat → Int32} : ∀ {k : Nat}, (∀ i, i < k → g i = h i) → smI g k = smI h k := by
  intro k
  induction k with
  | zero => intro _; rfl
  | succ k ih => intro e; simp only [smI, ih (fun i hi => e i (by omega)), e k (by omega)]
theorem smI_add (g h : Nat → Int32) : ∀ k, smI (fun i => g i + h i) k = smI g k + smI h k := by
  intro k
  induction k with
  | zero => rfl
  | succ k ih =>
    simp only [smI, ih]
    rw [Int32.add_assoc, Int32.add_assoc, ← Int32.add_assoc (smI h k), Int32.add_comm (smI h k) (g k), Int32.add_assoc (g k)]
theorem smI_zero {g : Nat → Int32} : ∀ {k : Nat}, (∀ i, i < k → g i = 0) → smI g k = 0 := by
  intro k
  induction k with
  | zero => intro _; rfl
  | succ k ih => intro e; simp only [smI, ih (fun i hi => e i (by omega)), e k (by omega)]; rfl
theorem smI_one {g : Nat → Int32} {o : Nat} : ∀ {k : Nat}, o < k → g o = 1 → (∀ i, i < k → ¬ i = o → g i = 0) → smI g k = 1 := by
  intro k
  induction k with
  | zero => intro h; omega
  | succ k ih =>
    intro ho h1 h0
    simp only [smI]
    by_cases e : o = k
    · subst e
      rw [h1, smI_zero (fun i hi => h0 i (by omega) (by omega))]
      rfl
    · rw [ih (by omega) h1 (fun i hi z => h0 i (by omega) z), h0 k (by omega) (fun z => e z.symm)]
      rfl
theorem cLds_sm : ∀ k, cLds S k = smI (fun s => sLoad S s (cT S)) k := by
  intro k
  induction k with
  | zero => rfl
  | succ k ih => simp only [cLds, smI, ih]
theorem loads_eq (hA : OA S) (hW : MW S) : cLds S (cS S) = sIns S (cT S) := by
  have h16 := hW.2.1.2
  rw [cLds_sm]
  have key : ∀ n, n ≤ cT S → smI (fun s => sLoad S s n) (cS S) = sIns S n := by
    intro n
    induction n with
    | zero => intro _; exact smI_zero (fun _ _ => rfl)
    | succ n ih =>
      intro hn
      have e : (fun s => sLoad S s (n + 1)) = fun s => sLoad S s n + (if S 26 n = 0 ∧ S 27 n = nI s then 1 else 0) := by funext s; rfl
      rw [e, smI_add, ih (by omega)]
      simp only [sIns]
      congr 1
      by_cases c : S 26 n = 0
      · rw [if_pos c]
        have q := hA n (by omega) c
        refine smI_one (o := onN S n) q.2 (if_pos ⟨c, q.1⟩) (fun i hi z => if_neg (fun w => z ?_))
        have w2 := w.2
        rw [q.1] at w2
        exact ((nI_eq (by have := q.2; omega) (by omega)).mp w2).symm
      · rw [if_neg c]
        exact smI_zero (fun i _ => if_neg (fun w => c w.1))
  exact key (cT S) (Nat.le_refl _)
theorem thOf_cases (hW : MW S) (x : Int32) : sThOf S x < 0 ∨ ∃ t, t < cT S ∧ sThOf S x = nI t := by
  by_cases h : sThOf S x < 0
  · exact Or.inl h
  · right
    have h12 := hW.2.2.1.2
    unfold sThOf at h ⊢
    split
    · rename_i q; rw [if_pos q] at h; exact absurd (by decide) h
    · rename_i q
      rw [if_neg q] at h
      split
      · rename_i q2
        rw [if_pos q2] at h
        obtain ⟨k, hk, e⟩ := nI_of h
        rw [e, hW.2.2.1.1, nI_ltI hk (by omega)] at q2
        exact ⟨k, q2, e⟩
      · rename_i q2; rw [if_neg q2] at h; exact absurd (by decide) h
end EQ
