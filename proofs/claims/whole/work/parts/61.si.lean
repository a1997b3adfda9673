/-! THE STATE'S PROPERTIES, CALL BY CALL -/
section SIO
variable {S : St}
theorem SI.tear (h : SI S) (hW : MW S) {s : Nat} (hs : s < cS S) (v : Int32) : MW (up2 S 20 s v) ∧ SI (up2 S 20 s v) :=
  h.still hW ⟨rfl, rfl, rfl, rfl, rfl⟩ (fun a q q1 q2 => up2_ne (by omega)) (fun a t e _ => up2_ne (by omega)) (fun t _ e => ⟨by rw [up2_ne (by omega)] at e; exact e, up2_ne (by omega)⟩) (fun t _ => Or.inl (up2_ne (by omega))) (fun c hc => (h.ti hc).congr (fun k _ => up2_ne (by omega))) (fun q hq => by rw [up2_ne (by omega)]; exact h.z20 hq) (fun c hc => by rw [up2_ne (by omega)]; exact h.z34 hc)
theorem TI.mark {c c2 k : Nat} {v : Int32} (h : TI S c2) (hv : sIn v (-1) 15 = 1) : TI (up2 S 32 (4 * c + k) v) c2 := by
  intro j hj q
  by_cases e : 4 * c2 + j = 4 * c + k
  · rw [e, up2_eq] at q ⊢
    rcases (sIn_m1 v).mp hv with z | z
    · exact z
    · unfold sIn at z
      split at z
      · rename_i y; exact absurd q (Int32.not_lt.mpr y.1)
      · exact absurd z (by decide)
  · rw [up2_ne (by omega)] at q ⊢
    exact h j hj q
theorem SI.mark (h : SI S) (hW : MW S) {c k : Nat} {v : Int32} (hv : sIn v (-1) 15 = 1) : MW (up2 S 32 (4 * c + k) v) ∧ SI (up2 S 32 (4 * c + k) v) :=
  h.still hW ⟨rfl, rfl, rfl, rfl, rfl⟩ (fun a q q1 q2 => up2_ne (by omega)) (fun a t e _ => up2_ne (by omega)) (fun t _ e => ⟨by rw [up2_ne (by omega)] at e; exact e, up2_ne (by omega)⟩) (fun t _ => Or.inl (up2_ne (by omega))) (fun c hc => (h.ti hc).mark hv) (fun q hq => by rw [up2_ne (by omega)]; exact h.z20 hq) (fun c hc => by rw [up2_ne (by omega)]; exact h.z34 hc)
theorem SI.hours (h : SI S) (hW : MW S) (p q : Int32) : MW (sHours S p q) ∧ SI (sHours S p q) := by
  unfold sHours
  split
  · exact h.scal hW ⟨rfl, rfl, rfl, rfl, rfl⟩ (fun a e _ _ => by funext j; rw [up2_ne (by omega), up2_ne (by omega)])
  · exact ⟨hW, h⟩
theorem SI.till (h : SI S) (hW : MW S) (v : Int32) : MW (up2 S 10 3 v) ∧ SI (up2 S 10 3 v) :=
  h.scal hW ⟨rfl, rfl, rfl, rfl, rfl⟩ (fun a e _ _ => by funext j; rw [up2_ne (by omega)])
theorem SI.give (h : SI S) (hW : MW S) (t : Nat) : MW (sGiveS S t) ∧ SI (sGiveS S t) := by
  unfold sGiveS
  split
  · have a := h.till hW (S 10 3 + sFeeV S t)
    exact a.2.leave a.1 (by decide)
  · exact ⟨hW, h⟩
theorem SI.sday (h : SI S) (hW : MW S) (t : Nat) : MW (up2 S 29 t (S 10 0 / 1440)) ∧ SI (up2 S 29 t (S 10 0 / 1440)) :=
  h.still hW ⟨rfl, rfl, rfl, rfl, rfl⟩ (fun a q q1 q2 => up2_ne (by omega)) (fun a t e _ => up2_ne (by omega)) (fun t _ e => ⟨by rw [up2_ne (by omega)] at e; exact e, up2_ne (by omega)⟩) (fun q _ => by
    by_cases e : q = t
    · subst e; exact Or.inr up2_eq
    · exact Or.inl (up2_ne (by omega))) (fun c hc => (h.ti hc).congr (fun k _ => up2_ne (by omega))) (fun q hq => by rw [up2_ne (by omega)]; exact h.z20 hq) (fun c hc => by rw [up2_ne (by omega)]; exact h.z34 hc)
theorem SI.coins (h : SI S) (hW : MW S) (t : Nat) (v : Int32) : MW (up2 S 28 t v) ∧ SI (up2 S 28 t v) :=
  h.scal hW ⟨rfl, rfl, rfl, rfl, rfl⟩ (fun a _ e _ => by funext j; rw [up2_ne (by omega)])
theorem SI.how (h : SI S) (hW : MW S) (t : Nat) {v : Int32} (hv : ¬ v = 0) : MW (up2 S 26 t v) ∧ SI (up2 S 26 t v) :=
  h.still hW ⟨rfl, rfl, rfl, rfl, rfl⟩ (fun a q q1 q2 => up2_ne (by omega)) (fun a t e _ => up2_ne (by omega)) (fun q _ e => by
    by_cases z : q = t
    · subst z; rw [up2_eq] at e; exact absurd e hv
    · rw [up2_ne (by omega)] at e; exact ⟨e, up2_ne (by omega)⟩) (fun t _ => Or.inl (up2_ne (by omega))) (fun c hc => (h.ti hc).congr (fun k _ => up2_ne (by omega))) (fun q hq => by rw [up2_ne (by omega)]; exact h.z20 hq) (fun c hc => by rw [up2_ne (by omega)]; exact h.z34 hc)
theorem SI.done (h : SI S) (hW : MW S) {c : Nat} (hc : c < cC S) (v : Int32) : MW (up2 S 34 c v) ∧ SI (up2 S 34 c v) :=
  h.still hW ⟨rfl, rfl, rfl, rfl, rfl⟩ (fun a q q1 q2 => up2_ne (by omega)) (fun a t e _ => up2_ne (by omega)) (fun t _ e => ⟨by rw [up2_ne (by omega)] at e; exact e, up2_ne (by omega)⟩) (fun t _ => Or.inl (up2_ne (by omega))) (fun c hc => (h.ti hc).congr (fun k _ => up2_ne (by omega))) (fun q hq => by rw [up2_ne (by omega)]; exact h.z20 hq) (fun q hq => by rw [up2_ne (by omega)]; exact h.z34 hq)
theorem SI.got (h : SI S) (hW : MW S) (c : Nat) (v : Int32) : MW (up2 S 33 c v) ∧ SI (up2 S 33 c v) :=
  h.still hW ⟨rfl, rfl, rfl, rfl, rfl⟩ (fun a q q1 q2 => up2_ne (by omega)) (fun a t e _ => up2_ne (by omega)) (fun t _ e => ⟨by rw [up2_ne (by omega)] at e; exact e, up2_ne (by omega)⟩) (fun t _ => Or.inl (up2_ne (by omega))) (fun c hc => (h.ti hc).congr (fun k _ => up2_ne (by omega))) (fun q hq => by rw [up2_ne (by omega)]; exact h.z20 hq) (fun q hq => by rw [up2_ne (by omega)]; exact h.z34 hq)
theorem SI.sell (h : SI S) (hW : MW S) (t : Nat) (c : Int32) : MW (sSellS S t c) ∧ SI (sSellS S t c) := by
  unfold sSellS
  split
  · exact ⟨hW, h⟩
  · split
    · exact ⟨hW, h⟩
    · split
      · exact ⟨hW, h⟩
      · split
        · exact ⟨hW, h⟩
        · have a := h.sday hW t
          split
          · have b := a.2.coins a.1 t c
            exact b.2.leave b.1 (by decide)
          · exact a.2.leave a.1 (by decide)
theorem SI.pay (h : SI S) (hW : MW S) (t : Nat) : MW (sPayS S t) ∧ SI (sPayS S t) := by
  unfold sPayS
  split
  · exact ⟨hW, h⟩
  · split
    · exact ⟨hW, h⟩
    · have a := h.till hW (S 10 3 + sStay S t)
      have b := a.2.coins a.1 t 0
      exact b.2.how b.1 t (by decide)
theorem SI.settle (h : SI S) (hW : MW S) {c : Nat} (hc : c < cC S) (t : Nat) : MW (sSetS S c t) ∧ SI (sSetS S c t) := by
  unfold sSetS
  split
  · exact ⟨hW, h⟩
  · split
    · exact ⟨hW, h⟩
    · split
      · exact ⟨hW, h⟩
      · have a := h.till hW (S 10 3 + (sFee S t + 500))
        have b := a.2.leave (t := t) (w := 1) a.1 (by decide)
        have d := b.2.done b.1 (c := c) hc 1
        exact d.2.got d.1 c (nI t)
theorem sClkN_26 (S : St) (t : Nat) : ∀ n, sClkN S n 26 t = S 26 t ∨ sClkN S n 26 t = 4 := by
  intro n
  induction n with
  | zero => exact Or.inl rfl
  | succ n ih =>
    unfold sClkN sClk1
    split
    · rw [up2_ne (by omega), up2_ne (by omega)]
      by_cases e : t = n
      · subst e; exact Or.inr up2_eq
      · rw [up2_ne (by omega)]; exact ih
    · exact ih
theorem SI.clock (h : SI S) (hW : MW S) (n : Int32) : MW (sClk S n) ∧ SI (sClk S n) := by
  unfold sClk
  split
  · rename_i q
    have q := of_decide_eq_true q
    obtain ⟨e0, b0⟩ := h.sr.1
    have hn0 : ¬ n < 0 := fun z => q.1 (by simp only [Int32.lt_iff_toInt_lt, Int32.reduceToInt] at *; omega)
    obtain ⟨k, hk, ek⟩ := nI_of hn0
    have hle : k + (S 10 0).toNatClampNeg ≤ 100000 := by
      have q2 := q.2
      rw [ek, e0, show (100000 : Int32) = nI 100000 from rfl, pk_sub (by omega), nI_leI hk (by omega)] at q2
      omega
    have e1 : S 10 0 + n = nI ((S 10 0).toNatClampNeg + k) := by
      rw [ek]
      conv => lhs; rw [e0]
      rw [nI_add]
    have keep := sClkN_keep (up2 S 10 0 (S 10 0 + n)) (cT S)
    have k0 : sClkN (up2 S 10 0 (S 10 0 + n)) (cT S) 10 0 = nI ((S 10 0).toNatClampNeg + k) := by rw [keep 10 0 (by omega), up2_eq, e1]
    have k10 : ∀ j, ¬ j = 0 → ¬ j = 3 → sClkN (up2 S 10 0 (S 10 0 + n)) (cT S) 10 j = S 10 j := fun j a b => by rw [keep 10 j (by omega), up2_ne (by omega)]
    have kr : ∀ a j, ¬ a = 10 → ¬ a = 26 → ¬ a = 28 → sClkN (up2 S 10 0 (S 10 0 + n)) (cT S) a j = S a j := fun a j x y z => by rw [keep a j (by omega), up2_ne (by omega)]
    have eS : cS (sClkN (up2 S 10 0 (S 10 0 + n)) (cT S)) = cS S := by unfold cS; rw [k10 11 (by decide) (by decide)]
    have eC : cC (sClkN (up2 S 10 0 (S 10 0 + n)) (cT S)) = cC S := by unfold cC; rw [k10 29 (by decide) (by decide)]
    have eR : cR (sClkN (up2 S 10 0 (S 10 0 + n)) (cT S)) = cR S := by unfold cR; rw [k10 5 (by decide) (by decide)]
    have eT : cT (sClkN (up2 S 10 0 (S 10 0 + n)) (cT S)) = cT S := congrArg Int32.toNatClampNeg (k10 12 (by decide) (by decide))
    have hW' : MW (sClkN (up2 S 10 0 (S 10 0 + n)) (cT S)) := by
      unfold MW
      rw [eS, eT, eC, eR, k10 5 (by decide) (by decide), k10 11 (by decide) (by decide), k10 12 (by decide) (by decide), k10 29 (by decide) (by decide)]
      exact hW
    refine ⟨hW', h.gen hW' (k10 11 (by decide) (by decide)) (k10 12 (by decide) (by decide)) (by rw [k0]; exact RG.of (by omega) (by decide)) (by rw [k0, nI_clamp (by omega)]; omega) (fun a s x y _ => kr a s (by omega) (by omega) (by omega)) (fun a t x _ => kr a t (by omega) (by omega) (by omega)) (fun t _ z => ?_) (fun t _ => Or.inl (kr 29 t (by omega) (by omega) (by omega))) (fun c hc => (h.ti (by rw [← eC]; exact hc)).congr (fun j _ => kr 32 _ (by omega) (by omega) (by omega))) (fun j hj => by rw [kr 11 j (by omega) (by omega) (by omega)]; exact h.row (by rw [← eR]; exact hj)) (fun s hs => by rw [kr 20 s (by omega) (by omega) (by omega)]; exact h.z20 hs) (fun c hc => by rw [kr 34 c (by omega) (by omega) (by omega)]; exact h.z34 (by rw [← eC]; exact hc))⟩
    rcases sClkN_26 (up2 S 10 0 (S 10 0 + n)) t (cT S) with w | w
    · rw [w, up2_ne (by omega)] at z
      exact ⟨z, kr 27 t (by omega) (by omega) (by omega)⟩
    · rw [w] at z; exact absurd z (by decide)
  · exact ⟨hW, h⟩
/-! rows that grow -/
def sPrY (S : St) (day b1 a1 s1 c1 : Int32) : St := up2 (up2 (up2 (up2 (up2 (up2 S 11 (cR S) day) 12 (cR S) b1) 13 (cR S) a1) 14 (cR S) s1) 15 (cR S) c1) 10 5 (nI (cR S) + 1)
theorem sPrY_ne {day b1 a1 s1 c1 : Int32} {a j : Nat} (e1 : ¬ (a = 10 ∧ j = 5)) (e2 : ¬ (11 ≤ a ∧ a ≤ 15 ∧ j = cR S)) : sPrY S day b1 a1 s1 c1 a j = S a j := by
  unfold sPrY
  rw [up2_ne (by omega), up2_ne (by omega), up2_ne (by omega), up2_ne (by omega), up2_ne (by omega), up2_ne (by omega)]
theorem sPrY_v {day b1 a1 s1 c1 : Int32} : sPrY S day b1 a1 s1 c1 11 (cR S) = day ∧ sPrY S day b1 a1 s1 c1 12 (cR S) = b1 ∧ sPrY S day b1 a1 s1 c1 13 (cR S) = a1 ∧ sPrY S day b1 a1 s1 c1 14 (cR S) = s1 ∧ sPrY S day b1 a1 s1 c1 15 (cR S) = c1 := by
  unfold sPrY
  refine ⟨?_, ?_, ?_, ?_, ?_⟩
  · rw [up2_ne (by omega), up2_ne (by omega), up2_ne (by omega), up2_ne (by omega), up2_ne (by omega), up2_eq]
  · rw [up2_ne (by omega), up2_ne (by omega), up2_ne (by omega), up2_ne (by omega), up2_eq]
  · rw [up2_ne (by omega), up2_ne (by omega), up2_ne (by omega), up2_eq]
  · rw [up2_ne (by omega), up2_ne (by omega), up2_eq]
  · rw [up2_ne (by omega), up2_eq]
theorem sPrY_R {day b1 a1 s1 c1 : Int32} (hW : MW S) : cR (sPrY S day b1 a1 s1 c1) = cR S + 1 := by
  have h5 := hW.1.2
  unfold cR
  rw [show sPrY S day b1 a1 s1 c1 10 5 = nI (cR S) + 1 by unfold sPrY; exact up2_eq, nI_1]
  exact nI_clamp (by omega)
theorem SI.prices (h : SI S) (hW : MW S) (day b1 a1 s1 c1 : Int32) (h12 : cR S < 12) (hd : ¬ day < 0) : MW (sPrY S day b1 a1 s1 c1) ∧ SI (sPrY S day b1 a1 s1 c1) := by
  have eR := sPrY_R (day := day) (b1 := b1) (a1 := a1) (s1 := s1) (c1 := c1) hW
  have k10 : ∀ j, ¬ j = 5 → sPrY S day b1 a1 s1 c1 10 j = S 10 j := fun j e => sPrY_ne (by omega) (by omega)
  have eS : cS (sPrY S day b1 a1 s1 c1) = cS S := by unfold cS; rw [k10 11 (by decide)]
  have eC : cC (sPrY S day b1 a1 s1 c1) = cC S := by unfold cC; rw [k10 29 (by decide)]
  have eT : cT (sPrY S day b1 a1 s1 c1) = cT S := by unfold cT; rw [k10 12 (by decide)]
  have hW' : MW (sPrY S day b1 a1 s1 c1) := by
    unfold MW
    rw [eS, eT, eC, eR, k10 11 (by decide), k10 12 (by decide), k10 29 (by decide), show sPrY S day b1 a1 s1 c1 10 5 = nI (cR S) + 1 by unfold sPrY; exact up2_eq, nI_1]
    exact ⟨⟨rfl, by omega⟩, hW.2⟩
  refine ⟨hW', h.gen hW' (k10 11 (by decide)) (k10 12 (by decide)) (by rw [k10 0 (by decide)]; exact h.sr.1) (by rw [k10 0 (by decide)]; exact Nat.le_refl _) (fun a s x y _ => sPrY_ne (by omega) (by omega)) (fun a t x _ => sPrY_ne (by omega) (by omega)) (fun t _ z => ?_) (fun t _ => Or.inl (sPrY_ne (by omega) (by omega))) (fun c hc => (h.ti (by rw [← eC]; exact hc)).congr (fun j _ => sPrY_ne (by omega) (by omega))) (fun j hj => ?_) (fun s hs => (sPrY_ne (by omega) (by omega)).trans (h.z20 hs)) (fun c hc => (sPrY_ne (by omega) (by omega)).trans (h.z34 (by rw [← eC]; exact hc)))⟩
  · rw [sPrY_ne (by omega) (by omega)] at z
    exact ⟨z, sPrY_ne (by omega) (by omega)⟩
  · rw [eR] at hj
    by_cases e : j = cR S
    · rw [e, sPrY_v.1]; exact Int32.not_lt.mp hd
    · rw [sPrY_ne (by omega) (by omega)]; exact h.row (by omega)
def sShY (S : St) (r1 h1 c1 d1 : Int32) : St := up2 (up2 (up2 (up2 (up2 S 16 (cS S) r1) 17 (cS S) h1) 19 (cS S) c1) 18 (cS S) d1) 10 11 (nI (cS S) + 1)
theorem sShY_ne {r1 h1 c1 d1 : Int32} {a j : Nat} (e1 : ¬ (a = 10 ∧ j = 11)) (e2 : ¬ (16 ≤ a ∧ a ≤ 19 ∧ j = cS S)) : sShY S r1 h1 c1 d1 a j = S a j := by
  unfold sShY
  rw [up2_ne (by omega), up2_ne (by omega), up2_ne (by omega), up2_ne (by omega), up2_ne (by omega)]
theorem sShY_v {r1 h1 c1 d1 : Int32} : sShY S r1 h1 c1 d1 16 (cS S) = r1 ∧ sShY S r1 h1 c1 d1 17 (cS S) = h1 ∧ sShY S r1 h1 c1 d1 19 (cS S) = c1 ∧ sShY S r1 h1 c1 d1 18 (cS S) = d1 := by
  unfold sShY
  refine ⟨?_, ?_, ?_, ?_⟩
  · rw [up2_ne (by omega), up2_ne (by omega), up2_ne (by omega), up2_ne (by omega), up2_eq]
  · rw [up2_ne (by omega), up2_ne (by omega), up2_ne (by omega), up2_eq]
  · rw [up2_ne (by omega), up2_ne (by omega), up2_eq]
  · rw [up2_ne (by omega), up2_eq]
theorem sShY_S {r1 h1 c1 d1 : Int32} (hW : MW S) : cS (sShY S r1 h1 c1 d1) = cS S + 1 := by
  have h5 := hW.2.1.2
  unfold cS
  rw [show sShY S r1 h1 c1 d1 10 11 = nI (cS S) + 1 by unfold sShY; exact up2_eq, nI_1]
  exact nI_clamp (by omega)
theorem RG_in2 {x l m : Int32} {M : Nat} (hm : m.toInt = M) (h0 : 0 ≤ l) (hM : M < 2 ^ 31) (h : sIn x l m = 1) : RG x M := by
  unfold sIn at h
  split at h
  · rename_i q
    obtain ⟨j, hj, e⟩ := nI_of2 hm (Int32.not_lt.mpr (Int32.le_trans h0 q.1)) q.2
    rw [e]
    exact RG.of hj hM
  · exact absurd h (by decide)
theorem sUse_zero {s : Nat} : ∀ (n : Nat), (∀ t, t < n → S 26 t = 0 → ¬ S 27 t = nI s) → sUse S s n = 0 := by
  intro n
  induction n with
  | zero => intro _; rfl
  | succ n ih =>
    intro h
    simp only [sUse, ih (fun t ht => h t (by omega))]
    rw [if_neg (fun z => h n (by omega) z.1 z.2)]
theorem SI.shelf (h : SI S) (hW : MW S) (r1 h1 c1 d1 : Int32) (h16 : cS S < 16) (hr : sIn r1 1 60 = 1) (hd : sIn d1 1 99 = 1) : MW (sShY S r1 h1 c1 d1) ∧ SI (sShY S r1 h1 c1 d1) := by
  have eS := sShY_S (r1 := r1) (h1 := h1) (c1 := c1) (d1 := d1) hW
  have k10 : ∀ j, ¬ j = 11 → sShY S r1 h1 c1 d1 10 j = S 10 j := fun j e => sShY_ne (by omega) (by omega)
  have kt : ∀ a j, ¬ a = 10 → ¬ (16 ≤ a ∧ a ≤ 19) → sShY S r1 h1 c1 d1 a j = S a j := fun a j x y => sShY_ne (by omega) (by omega)
  have ks : ∀ a j, ¬ a = 10 → ¬ j = cS S → sShY S r1 h1 c1 d1 a j = S a j := fun a j x y => sShY_ne (by omega) (by omega)
  have eR : cR (sShY S r1 h1 c1 d1) = cR S := by unfold cR; rw [k10 5 (by decide)]
  have eC : cC (sShY S r1 h1 c1 d1) = cC S := by unfold cC; rw [k10 29 (by decide)]
  have eT : cT (sShY S r1 h1 c1 d1) = cT S := by unfold cT; rw [k10 12 (by decide)]
  have eo : ∀ t, onN (sShY S r1 h1 c1 d1) t = onN S t := fun t => by unfold onN; rw [kt 27 t (by omega) (by omega)]
  have hW' : MW (sShY S r1 h1 c1 d1) := by
    unfold MW
    rw [eS, eT, eC, eR, k10 5 (by decide), k10 12 (by decide), k10 29 (by decide), show sShY S r1 h1 c1 d1 10 11 = nI (cS S) + 1 by unfold sShY; exact up2_eq, nI_1]
    exact ⟨hW.1, ⟨rfl, by omega⟩, hW.2.2⟩
  refine ⟨hW', ⟨⟨by rw [k10 0 (by decide)]; exact h.sr.1, fun t ht => ?_, fun s hs => ?_⟩, fun t ht => ?_, fun s hs => ?_⟩, fun t ht h0 => ?_, fun c hc => ?_, fun t ht => ?_, fun k hk => ?_, fun t ht h0 => ?_, fun s hs => ?_, fun s hs => ?_, fun c hc => ?_⟩
  · rw [eT] at ht; rw [kt 24 t (by omega) (by omega)]; exact h.sr.2.1 t ht
  · rw [eS] at hs
    by_cases e : s = cS S
    · rw [e, sShY_v.2.2.2]; exact RG_in2 (by decide) (by decide) (by decide) hd
    · rw [ks 18 s (by omega) e]; exact h.sr.2.2 s (by omega)
  · rw [eT] at ht; rw [kt 21 t (by omega) (by omega)]; exact h.lr.2.1 t ht
  · rw [eS] at hs
    by_cases e : s = cS S
    · rw [e, sShY_v.1]; exact RG_in2 (by decide) (by decide) (by decide) hr
    · rw [ks 16 s (by omega) e]; exact h.lr.2.2 s (by omega)
  · rw [eT] at ht
    rw [kt 26 t (by omega) (by omega)] at h0
    have q := h.oa t ht h0
    unfold OW
    rw [eo, eS, kt 27 t (by omega) (by omega)]
    exact ⟨q.1, by have := q.2; omega⟩
  · rw [eC] at hc; exact (h.ti hc).congr (fun j _ => kt 32 _ (by omega) (by omega))
  · rw [eT] at ht
    unfold DW
    rw [kt 25 t (by omega) (by omega), kt 29 t (by omega) (by omega), k10 0 (by decide)]
    exact h.dw ht
  · rw [eR] at hk; rw [kt 11 k (by omega) (by omega)]; exact h.row hk
  · rw [eT] at ht
    rw [kt 26 t (by omega) (by omega)] at h0
    have q := (h.oa t ht h0).2
    unfold GW
    rw [eo, kt 22 t (by omega) (by omega), kt 30 t (by omega) (by omega), ks 17 _ (by omega) (by omega), ks 19 _ (by omega) (by omega)]
    exact h.gw ht h0
  · rw [eS] at hs
    rw [eT]
    by_cases e : s = cS S
    · subst e
      rw [sUse_zero (cT S) (fun t ht h0 z => ?_)]
      · exact Nat.zero_le _
      · rw [kt 26 t (by omega) (by omega)] at h0
        rw [kt 27 t (by omega) (by omega)] at z
        have q := h.oa t ht h0
        rw [q.1] at z
        have := (nI_eq (by have := q.2; omega) (by omega)).mp z
        have := q.2
        omega
    · rw [ks 16 s (by omega) e]
      exact Nat.le_trans (sUse_mono (cT S) (fun t ht h0 => ⟨by rw [kt 26 t (by omega) (by omega)] at h0; exact h0, kt 27 t (by omega) (by omega), kt 21 t (by omega) (by omega)⟩)) (h.use (by omega))
  · rw [eS] at hs; rw [kt 20 s (by omega) (by omega)]; exact h.z20 (by omega)
  · rw [eC] at hc; rw [kt 34 c (by omega) (by omega)]; exact h.z34 hc
theorem sClaimS_ne {a j : Nat} (e1 : ¬ (a = 10 ∧ j = 29)) (e2 : ¬ (a = 33 ∧ j = cC S)) (e3 : ¬ (a = 32 ∧ 4 * cC S ≤ j ∧ j < 4 * cC S + 4)) : sClaimS S a j = S a j := by
  unfold sClaimS
  rw [up2_ne (by omega), up2_ne (by omega), up2_ne (by omega), up2_ne (by omega), up2_ne (by omega), up2_ne (by omega)]
theorem sClaimS_32 {k : Nat} (hk : k < 4) : sClaimS S 32 (4 * cC S + k) = -1 := by
  unfold sClaimS
  rw [up2_ne (by omega), up2_ne (by omega)]
  match k, hk with
  | 0, _ => rw [up2_ne (by omega), up2_ne (by omega), up2_ne (by omega), up2_eq]
  | 1, _ => rw [up2_ne (by omega), up2_ne (by omega), up2_eq]
  | 2, _ => rw [up2_ne (by omega), up2_eq]
  | 3, _ => rw [up2_eq]
theorem sClaimS_33 : sClaimS S 33 (cC S) = -1 := by
  unfold sClaimS
  rw [up2_ne (by omega), up2_eq]
theorem sClaimS_C (hW : MW S) : cC (sClaimS S) = cC S + 1 := by
  have h5 := hW.2.2.2.2
  unfold cC
  rw [show sClaimS S 10 29 = nI (cC S) + 1 by unfold sClaimS; exact up2_eq, nI_1]
  exact nI_clamp (by omega)
theorem SI.claim (h : SI S) (hW : MW S) (h40 : cC S < 40) : MW (sClaimS S) ∧ SI (sClaimS S) := by
  have eC := sClaimS_C hW
  have k10 : ∀ j, ¬ j = 29 → sClaimS S 10 j = S 10 j := fun j e => sClaimS_ne (by omega) (by omega) (by omega)
  have kt : ∀ a j, ¬ a = 10 → ¬ a = 32 → ¬ a = 33 → sClaimS S a j = S a j := fun a j x y z => sClaimS_ne (by omega) (by omega) (by omega)
  have eS : cS (sClaimS S) = cS S := by unfold cS; rw [k10 11 (by decide)]
  have eR : cR (sClaimS S) = cR S := by unfold cR; rw [k10 5 (by decide)]
  have eT : cT (sClaimS S) = cT S := by unfold cT; rw [k10 12 (by decide)]
  have hW' : MW (sClaimS S) := by
    unfold MW
    rw [eS, eT, eC, eR, k10 5 (by decide), k10 11 (by decide), k10 12 (by decide), show sClaimS S 10 29 = nI (cC S) + 1 by unfold sClaimS; exact up2_eq, nI_1]
    exact ⟨hW.1, hW.2.1, hW.2.2.1, rfl, by omega⟩
  refine ⟨hW', h.gen hW' (k10 11 (by decide)) (k10 12 (by decide)) (by rw [k10 0 (by decide)]; exact h.sr.1) (by rw [k10 0 (by decide)]; exact Nat.le_refl _) (fun a s x y _ => kt a s (by omega) (by omega) (by omega)) (fun a t x _ => kt a t (by omega) (by omega) (by omega)) (fun t _ z => ?_) (fun t _ => Or.inl (kt 29 t (by omega) (by omega) (by omega))) (fun c hc => ?_) (fun j hj => by rw [kt 11 j (by omega) (by omega) (by omega)]; exact h.row (by rw [← eR]; exact hj)) (fun s hs => by rw [kt 20 s (by omega) (by omega) (by omega)]; exact h.z20 hs) (fun c hc => by rw [kt 34 c (by omega) (by omega) (by omega)]; exact h.z34 (by rw [eC] at hc; omega))⟩
  · rw [kt 26 t (by omega) (by omega) (by omega)] at z
    exact ⟨z, kt 27 t (by omega) (by omega) (by omega)⟩
  · rw [eC] at hc
    by_cases e : c = cC S
    · subst e; exact fun k hk _ => sClaimS_32 hk
    · exact (h.ti (by omega)).congr (fun j _ => sClaimS_ne (by omega) (by omega) (by omega))
end SIO
