/-! THE LEAST SUM: things over shelves, by trying and by sets -/
abbrev Pb : Type := Nat × Nat × (Nat → Nat) × (Nat → Nat → Bool) × (Nat → Nat) × (Nat → Nat → Nat)
def pbM (P : Pb) : Nat := P.1
def pbN (P : Pb) : Nat := P.2.1
def pbZ (P : Pb) (i : Nat) : Nat := P.2.2.1 i
def pbK (P : Pb) (i s : Nat) : Bool := P.2.2.2.1 i s
def pbR (P : Pb) (s : Nat) : Nat := P.2.2.2.2.1 s
def pbC (P : Pb) (i s : Nat) : Nat := P.2.2.2.2.2 i s
def ldF (P : Pb) (f : Nat → Nat) (s : Nat) : Nat → Nat
  | 0 => 0
  | k + 1 => ldF P f s k + (if f k = s then pbZ P k else 0)
def csF (P : Pb) (f : Nat → Nat) : Nat → Nat
  | 0 => 0
  | k + 1 => csF P f k + pbC P k (f k)
def VlK (P : Pb) (f : Nat → Nat) (k : Nat) : Prop := (∀ i, i < k → f i < pbN P ∧ pbK P i (f i) = true) ∧ ∀ s, s < pbN P → ldF P f s k ≤ pbR P s
def IsL (P : Pb) (v : Nat) : Prop := (∃ f, VlK P f (pbM P) ∧ csF P f (pbM P) = v) ∧ ∀ f, VlK P f (pbM P) → v ≤ csF P f (pbM P)
theorem IsL.un {P : Pb} {v w : Nat} (x : IsL P v) (y : IsL P w) : v = w := by
  obtain ⟨⟨f, hf, ef⟩, x2⟩ := x
  obtain ⟨⟨g, hg, eg⟩, y2⟩ := y
  have a := x2 g hg
  have b := y2 f hf
  omega
theorem ldF_congr {P : Pb} {f g : Nat → Nat} {s : Nat} : ∀ {k : Nat}, (∀ i, i < k → f i = g i) → ldF P f s k = ldF P g s k := by
  intro k
  induction k with
  | zero => intro _; rfl
  | succ k ih =>
    intro h
    simp only [ldF, ih (fun i hi => h i (by omega)), h k (by omega)]
theorem csF_congr {P : Pb} {f g : Nat → Nat} : ∀ {k : Nat}, (∀ i, i < k → f i = g i) → csF P f k = csF P g k := by
  intro k
  induction k with
  | zero => intro _; rfl
  | succ k ih =>
    intro h
    simp only [csF, ih (fun i hi => h i (by omega)), h k (by omega)]
theorem ldF_mono {P : Pb} {f : Nat → Nat} {s : Nat} : ∀ {j k : Nat}, k ≤ j → ldF P f s k ≤ ldF P f s j := by
  intro j
  induction j with
  | zero => intro k h; rw [show k = 0 by omega]; exact Nat.le_refl _
  | succ j ih =>
    intro k h
    by_cases e : k = j + 1
    · rw [e]; exact Nat.le_refl _
    · have := ih (k := k) (by omega)
      simp only [ldF]
      omega
theorem VlK.down {P : Pb} {f : Nat → Nat} {j k : Nat} (h : VlK P f j) (hk : k ≤ j) : VlK P f k := ⟨fun i hi => h.1 i (by omega), fun s hs => Nat.le_trans (ldF_mono hk) (h.2 s hs)⟩
theorem VlK.congr {P : Pb} {f g : Nat → Nat} {k : Nat} (h : VlK P f k) (e : ∀ i, i < k → g i = f i) : VlK P g k := ⟨fun i hi => by rw [e i hi]; exact h.1 i hi, fun s hs => by rw [ldF_congr e]; exact h.2 s hs⟩
def omin : Option Nat → Nat → Nat
  | none, c => c
  | some b, c => if c < b then c else b
def foN (g : Nat → Option Nat → Option Nat) (b : Option Nat) : Nat → Option Nat
  | 0 => b
  | s + 1 => g s (foN g b s)
def upN (f : Nat → Nat) (k s : Nat) : Nat → Nat := fun i => if i = k then s else f i
theorem upN_ne {f : Nat → Nat} {k s i : Nat} (h : ¬ i = k) : upN f k s i = f i := if_neg h
theorem upN_eq {f : Nat → Nat} {k s : Nat} : upN f k s k = s := if_pos rfl
def btC (P : Pb) (f : Nat → Nat) (k s : Nat) : Bool := decide (pbK P k s = true ∧ ldF P f s k + pbZ P k ≤ pbR P s)
def bt (P : Pb) : Nat → Nat → (Nat → Nat) → Option Nat → Option Nat
  | 0, k, f, b => some (omin b (csF P f k))
  | j + 1, k, f, b => foN (fun s b => if btC P f k s = true then bt P j (k + 1) (upN f k s) b else b) b (pbN P)
def btG (P : Pb) (j k : Nat) (f : Nat → Nat) : Nat → Option Nat → Option Nat := fun s b => if btC P f k s = true then bt P j (k + 1) (upN f k s) b else b
theorem VlK.up {P : Pb} {f : Nat → Nat} {k s : Nat} (h : VlK P f k) (hs : s < pbN P) (c : btC P f k s = true) : VlK P (upN f k s) (k + 1) := by
  simp only [btC, decide_eq_true_eq] at c
  refine ⟨fun i hi => ?_, fun q hq => ?_⟩
  · by_cases e : i = k
    · rw [e, upN_eq]; exact ⟨hs, c.1⟩
    · rw [upN_ne e]; exact h.1 i (by omega)
  · have e1 : ldF P (upN f k s) q k = ldF P f q k := ldF_congr (fun i hi => upN_ne (by omega))
    simp only [ldF, e1, upN_eq]
    have := h.2 q hq
    split
    · rename_i z; subst z; exact c.2
    · omega
/-- what trying all from a prefix on gives -/
def BtR (P : Pb) (k : Nat) (f : Nat → Nat) (b r : Option Nat) (A : (Nat → Nat) → Prop) : Prop :=
  (∀ v, r = some v → b = some v ∨ ∃ g, (∀ i, i < k → g i = f i) ∧ VlK P g (pbM P) ∧ csF P g (pbM P) = v) ∧
  (∀ g, (∀ i, i < k → g i = f i) → VlK P g (pbM P) → A g → ∃ v, r = some v ∧ v ≤ csF P g (pbM P)) ∧
  (∀ w, b = some w → ∃ v, r = some v ∧ v ≤ w)
theorem bt_ok (P : Pb) : ∀ (j k : Nat) (f : Nat → Nat) (b : Option Nat), k + j = pbM P → VlK P f k → BtR P k f b (bt P j k f b) (fun _ => True) := by
  intro j
  induction j with
  | zero =>
    intro k f b hk hf
    have ek : k = pbM P := by omega
    subst ek
    have key : omin b (csF P f (pbM P)) ≤ csF P f (pbM P) := by
      cases b with
      | none => exact Nat.le_refl _
      | some b => simp only [omin]; split <;> omega
    refine ⟨fun v hv => ?_, fun g hg hv _ => ?_, fun w hw => ?_⟩
    · have hv : some (omin b (csF P f (pbM P))) = some v := hv
      have hv := Option.some.inj hv
      cases b with
      | none => exact Or.inr ⟨f, fun _ _ => rfl, hf, hv⟩
      | some b =>
        simp only [omin] at hv
        split at hv
        · exact Or.inr ⟨f, fun _ _ => rfl, hf, hv⟩
        · exact Or.inl (by rw [hv])
    · exact ⟨_, rfl, by rw [csF_congr hg]; exact key⟩
    · subst hw
      refine ⟨_, rfl, ?_⟩
      simp only [omin]
      split <;> omega
  | succ j ih =>
    intro k f b hk hf
    have key : ∀ s, s ≤ pbN P → BtR P k f b (foN (btG P j k f) b s) (fun g => g k < s) := by
      intro s
      induction s with
      | zero => intro _; exact ⟨fun v hv => Or.inl hv, fun g _ _ h => absurd h (Nat.not_lt_zero _), fun w hw => ⟨w, hw, Nat.le_refl _⟩⟩
      | succ s ihs =>
        intro hs
        obtain ⟨i1, i2, i3⟩ := ihs (by omega)
        by_cases c : btC P f k s = true
        · have e : foN (btG P j k f) b (s + 1) = bt P j (k + 1) (upN f k s) (foN (btG P j k f) b s) := if_pos c
          rw [e]
          obtain ⟨j1, j2, j3⟩ := ih (k + 1) (upN f k s) (foN (btG P j k f) b s) (by omega) (hf.up (by omega) c)
          refine ⟨fun v hv => ?_, fun g hg hv hlt => ?_, fun w hw => ?_⟩
          · rcases j1 v hv with z | ⟨g, g1, g2, g3⟩
            · exact i1 v z
            · exact Or.inr ⟨g, fun i hi => (g1 i (by omega)).trans (upN_ne (by omega)), g2, g3⟩
          · by_cases eq : g k = s
            · refine j2 g (fun i hi => ?_) hv trivial
              by_cases e : i = k
              · rw [e, upN_eq]; exact eq
              · rw [upN_ne e]; exact hg i (by omega)
            · obtain ⟨v, v1, v2⟩ := i2 g hg hv (show g k < s by have : g k < s + 1 := hlt; omega)
              obtain ⟨u, u1, u2⟩ := j3 v v1
              exact ⟨u, u1, by omega⟩
          · obtain ⟨v, v1, v2⟩ := i3 w hw
            obtain ⟨u, u1, u2⟩ := j3 v v1
            exact ⟨u, u1, by omega⟩
        · have e : foN (btG P j k f) b (s + 1) = foN (btG P j k f) b s := if_neg c
          rw [e]
          refine ⟨i1, fun g hg hv hlt => ?_, i3⟩
          by_cases eq : g k = s
          · exfalso
            apply c
            simp only [btC, decide_eq_true_eq]
            have h1 := hv.1 k (by omega)
            rw [eq] at h1
            refine ⟨h1.2, ?_⟩
            have h2 := (hv.down (show k + 1 ≤ pbM P by omega)).2 s (by omega)
            simp only [ldF, eq, if_true] at h2
            rw [ldF_congr (f := f) (g := g) (fun i hi => (hg i hi).symm)]
            exact h2
          · exact i2 g hg hv (show g k < s by have : g k < s + 1 := hlt; omega)
    obtain ⟨i1, i2, i3⟩ := key (pbN P) (Nat.le_refl _)
    exact ⟨i1, fun g hg hv _ => i2 g hg hv (hv.1 k (by omega)).1, i3⟩
theorem bt_isL {P : Pb} {f : Nat → Nat} (hf : VlK P f (pbM P)) (f0 : Nat → Nat) : ∃ v, bt P (pbM P) 0 f0 none = some v ∧ IsL P v := by
  obtain ⟨h1, h2, h3⟩ := bt_ok P (pbM P) 0 f0 none (by omega) ⟨fun i hi => by omega, fun s hs => Nat.zero_le _⟩
  obtain ⟨v, e, l⟩ := h2 f (fun i hi => by omega) hf trivial
  refine ⟨v, e, ?_, fun g hg => ?_⟩
  · rcases h1 v e with z | ⟨g, _, g2, g3⟩
    · cases z
    · exact ⟨g, g2, g3⟩
  · obtain ⟨u, u1, u2⟩ := h2 g (fun i hi => by omega) hg trivial
    rw [e] at u1
    cases u1
    exact u2
