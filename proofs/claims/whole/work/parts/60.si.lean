/-! WHAT HOLDS OF THE REFERENCE'S STATE BETWEEN CALLS -/
def sUse (S : St) (s : Nat) : Nat → Nat
  | 0 => 0
  | n + 1 => sUse S s n + (if S 26 n = 0 ∧ S 27 n = nI s then (S 21 n).toNatClampNeg else 0)
def DW (S : St) (t : Nat) : Prop := RG (S 25 t) 100000 ∧ (S 25 t).toNatClampNeg ≤ (S 10 0).toNatClampNeg ∧ (S 29 t = -1 ∨ (RG (S 29 t) 100 ∧ (S 25 t).toNatClampNeg / 1440 ≤ (S 29 t).toNatClampNeg))
def GW (S : St) (t : Nat) : Prop := S 22 t ≤ S 17 (onN S t) ∧ S 19 (onN S t) = S 30 t
def SI (S : St) : Prop := LR S ∧ OA S ∧ (∀ c, c < cC S → TI S c) ∧ (∀ t, t < cT S → DW S t) ∧ (∀ k, k < cR S → 0 ≤ S 11 k) ∧ (∀ t, t < cT S → S 26 t = 0 → GW S t) ∧ (∀ s, s < cS S → sUse S s (cT S) ≤ (S 16 s).toNatClampNeg) ∧ (∀ s, cS S ≤ s → S 20 s = 0) ∧ ∀ c, cC S ≤ c → S 34 c = 0
section SII
variable {S : St}
theorem SI.lr (h : SI S) : LR S := h.1
theorem SI.sr (h : SI S) : SR S := h.1.1
theorem SI.oa (h : SI S) : OA S := h.2.1
theorem SI.ti (h : SI S) {c : Nat} (hc : c < cC S) : TI S c := h.2.2.1 c hc
theorem SI.dw (h : SI S) {t : Nat} (ht : t < cT S) : DW S t := h.2.2.2.1 t ht
theorem SI.row (h : SI S) {k : Nat} (hk : k < cR S) : 0 ≤ S 11 k := h.2.2.2.2.1 k hk
theorem SI.gw (h : SI S) {t : Nat} (ht : t < cT S) (h0 : S 26 t = 0) : GW S t := h.2.2.2.2.2.1 t ht h0
theorem SI.use (h : SI S) {s : Nat} (hs : s < cS S) : sUse S s (cT S) ≤ (S 16 s).toNatClampNeg := h.2.2.2.2.2.2.1 s hs
theorem SI.z20 (h : SI S) {s : Nat} (hs : cS S ≤ s) : S 20 s = 0 := h.2.2.2.2.2.2.2.1 s hs
theorem SI.z34 (h : SI S) {c : Nat} (hc : cC S ≤ c) : S 34 c = 0 := h.2.2.2.2.2.2.2.2 c hc
theorem RG.get {x : Int32} {m : Nat} (h : RG x m) : ∃ n, n ≤ m ∧ x = nI n ∧ x.toNatClampNeg = n := ⟨_, h.2, h.1, rfl⟩
theorem SI.fw (h : SI S) {t : Nat} (ht : t < cT S) : FW S t ∧ sF S t ≤ sL S t + 1 ∧ (S 29 t < 0 → S 29 t = -1) := by
  obtain ⟨⟨e1, b1⟩, h2, h3⟩ := h.dw ht
  obtain ⟨e0, b0⟩ := h.sr.1
  have ea : S 25 t / 1440 = nI ((S 25 t).toNatClampNeg / 1440) := by
    rw [show (1440 : Int32) = nI 1440 from rfl]
    rw [e1, pk_div (by omega) (by decide) (by decide), nI_clamp (by omega)]
  have en : S 10 0 / 1440 = nI ((S 10 0).toNatClampNeg / 1440) := by
    rw [show (1440 : Int32) = nI 1440 from rfl]
    rw [e0, pk_div (by omega) (by decide) (by decide), nI_clamp (by omega)]
  have eF : sF S t = (S 25 t).toNatClampNeg / 1440 := by unfold sF; rw [ea]; exact nI_clamp (by omega)
  rcases h3 with e | ⟨⟨e3, b3⟩, h4⟩
  · have eL : sLd S t = nI ((S 10 0).toNatClampNeg / 1440) := by unfold sLd; rw [e, if_pos (by decide)]; exact en
    have eL2 : sL S t = (S 10 0).toNatClampNeg / 1440 := by unfold sL; rw [eL]; exact nI_clamp (by omega)
    exact ⟨⟨by rw [ea, eF], by omega, by rw [eL, eL2], by omega⟩, by omega, fun _ => e⟩
  · have hp : ¬ S 29 t < 0 := by rw [e3]; exact nI_pos (by omega)
    have eL : sLd S t = S 29 t := by unfold sLd; rw [if_neg hp]
    have eL2 : sL S t = (S 29 t).toNatClampNeg := by unfold sL; rw [eL]
    exact ⟨⟨by rw [ea, eF], by omega, by rw [eL, eL2]; exact e3, by omega⟩, by omega, fun z => absurd z hp⟩
def sm (g : Nat → Nat) : Nat → Nat
  | 0 => 0
  | k + 1 => sm g k + g k
theorem sm_congr {g h : Nat → Nat} : ∀ {k : Nat}, (∀ i, i < k → g i = h i) → sm g k = sm h k := by
  intro k
  induction k with
  | zero => intro _; rfl
  | succ k ih => intro e; simp only [sm, ih (fun i hi => e i (by omega)), e k (by omega)]
theorem ldF_sm (P : Pb) (f : Nat → Nat) (s : Nat) : ∀ k, ldF P f s k = sm (fun i => if f i = s then pbZ P i else 0) k := by
  intro k
  induction k with
  | zero => rfl
  | succ k ih => simp only [ldF, sm, ih]
theorem ls_use (hA : OA S) (s : Nat) : ∀ (n : Nat), n ≤ cT S → sm (fun i => if onN S (sNth S i n) = s then (S 21 (sNth S i n)).toNatClampNeg else 0) (sMany S n) ≤ sUse S s n := by
  intro n
  induction n with
  | zero => intro _; exact Nat.le_refl _
  | succ n ih =>
    intro hn
    have ih := ih (by omega)
    by_cases c : lsT S n = true
    · have e1 : sMany S (n + 1) = sMany S n + 1 := by simp only [sMany, c, if_true]
      have e2 : sNth S (sMany S n) (n + 1) = n := if_pos ⟨c, rfl⟩
      rw [e1]
      simp only [sm, e2, sUse]
      rw [sm_congr (h := fun i => if onN S (sNth S i n) = s then (S 21 (sNth S i n)).toNatClampNeg else 0) (fun i hi => by
        have e3 : sNth S i (n + 1) = sNth S i n := if_neg (fun z => by omega)
        rw [e3])]
      by_cases q : onN S n = s
      · have c2 := of_decide_eq_true c
        have := (hA n (by omega) c2.1).1
        rw [if_pos q, if_pos ⟨c2.1, by rw [← q]; exact this⟩]
        omega
      · rw [if_neg q]
        omega
    · have e1 : sMany S (n + 1) = sMany S n := by simp only [sMany]; rw [if_neg c, Nat.add_zero]
      rw [e1]
      rw [sm_congr (h := fun i => if onN S (sNth S i n) = s then (S 21 (sNth S i n)).toNatClampNeg else 0) (fun i hi => by
        have e3 : sNth S i (n + 1) = sNth S i n := if_neg (fun z => c z.1)
        rw [e3])]
      simp only [sUse]
      omega
theorem SI.vl (h : SI S) : ∃ f, VlK (sPb S) f (pbM (sPb S)) := by
  refine ⟨fun i => onN S (tkn S i), fun i hi => ?_, fun s hs => ?_⟩
  · obtain ⟨t1, t2, t3⟩ := tkn_ok hi
    refine ⟨(h.oa _ t1 t2).2, ?_⟩
    have g := h.gw t1 t2
    show decide (sSuit S (tkn S i) (onN S (tkn S i)) = 1) = true
    apply decide_eq_true
    unfold sSuit
    rw [if_pos ⟨t3, g.1, g.2⟩]
  · rw [ldF_sm]
    exact Nat.le_trans (ls_use h.oa s (cT S) (Nat.le_refl _)) (h.use hs)
theorem sUse_mono {S' : St} {s : Nat} : ∀ (n : Nat), (∀ t, t < n → S' 26 t = 0 → S 26 t = 0 ∧ S' 27 t = S 27 t ∧ S' 21 t = S 21 t) → sUse S' s n ≤ sUse S s n := by
  intro n
  induction n with
  | zero => intro _; exact Nat.le_refl _
  | succ n ih =>
    intro h
    have i1 := ih (fun t ht => h t (by omega))
    simp only [sUse]
    by_cases c : S' 26 n = 0 ∧ S' 27 n = nI s
    · obtain ⟨a, b, d⟩ := h n (by omega) c.1
      rw [if_pos c, if_pos ⟨a, by rw [← b]; exact c.2⟩, d]
      omega
    · rw [if_neg c]
      omega
/-- shelves and things as they were, but that some may have left -/
theorem SI.gen {S' : St} (h : SI S) (hW' : MW S') (c11 : S' 10 11 = S 10 11) (c12 : S' 10 12 = S 10 12)
    (hn : RG (S' 10 0) 100000) (hle : (S 10 0).toNatClampNeg ≤ (S' 10 0).toNatClampNeg)
    (rs : ∀ a s, 16 ≤ a → a ≤ 19 → s < cS S → S' a s = S a s) (rt : ∀ a t, (a = 21 ∨ a = 22 ∨ a = 24 ∨ a = 25 ∨ a = 30) → t < cT S → S' a t = S a t)
    (hin : ∀ t, t < cT S → S' 26 t = 0 → S 26 t = 0 ∧ S' 27 t = S 27 t)
    (h29 : ∀ t, t < cT S → S' 29 t = S 29 t ∨ S' 29 t = S 10 0 / 1440)
    (h32 : ∀ c, c < cC S' → TI S' c) (h11 : ∀ k, k < cR S' → 0 ≤ S' 11 k)
    (h20 : ∀ s, cS S ≤ s → S' 20 s = 0) (h34 : ∀ c, cC S' ≤ c → S' 34 c = 0) : SI S' := by
  have eS : cS S' = cS S := by unfold cS; rw [c11]
  have eT : cT S' = cT S := by unfold cT; rw [c12]
  have eo : ∀ t, t < cT S → S' 26 t = 0 → onN S' t = onN S t := fun t ht h0 => by unfold onN; rw [(hin t ht h0).2]
  refine ⟨⟨⟨hn, fun t ht => ?_, fun s hs => ?_⟩, fun t ht => ?_, fun s hs => ?_⟩, fun t ht h0 => ?_, h32, fun t ht => ?_, h11, fun t ht h0 => ?_, fun s hs => ?_, fun s hs => h20 s (by rw [← eS]; exact hs), h34⟩
  · rw [eT] at ht; rw [rt 24 t (by omega) ht]; exact h.sr.2.1 t ht
  · rw [eS] at hs; rw [rs 18 s (by omega) (by omega) hs]; exact h.sr.2.2 s hs
  · rw [eT] at ht; rw [rt 21 t (by omega) ht]; exact h.lr.2.1 t ht
  · rw [eS] at hs; rw [rs 16 s (by omega) (by omega) hs]; exact h.lr.2.2 s hs
  · rw [eT] at ht
    have q := h.oa t ht (hin t ht h0).1
    unfold OW
    rw [eo t ht h0, (hin t ht h0).2, eS]
    exact q
  · rw [eT] at ht
    obtain ⟨d1, d2, d3⟩ := h.dw ht
    unfold DW
    rw [rt 25 t (by omega) ht]
    refine ⟨d1, by omega, ?_⟩
    rcases h29 t ht with e | e
    · rw [e]; exact d3
    · right
      rw [e]
      obtain ⟨e0, b0⟩ := h.sr.1
      have en : S 10 0 / 1440 = nI ((S 10 0).toNatClampNeg / 1440) := by
        rw [show (1440 : Int32) = nI 1440 from rfl]
        rw [e0, pk_div (by omega) (by decide) (by decide), nI_clamp (by omega)]
      rw [en]
      refine ⟨RG.of (by omega) (by decide), ?_⟩
      rw [nI_clamp (by omega)]
      omega
  · rw [eT] at ht
    have q := h.gw ht (hin t ht h0).1
    have ho := (h.oa t ht (hin t ht h0).1).2
    unfold GW
    rw [eo t ht h0, rt 22 t (by omega) ht, rt 30 t (by omega) ht, rs 17 _ (by omega) (by omega) ho, rs 19 _ (by omega) (by omega) ho]
    exact q
  · rw [eS] at hs
    rw [eT, rs 16 s (by omega) (by omega) hs]
    exact Nat.le_trans (sUse_mono (cT S) (fun t ht h0 => ⟨(hin t ht h0).1, (hin t ht h0).2, rt 21 t (by omega) ht⟩)) (h.use hs)
/-- no count changes, the clock stands -/
theorem SI.still {S' : St} (h : SI S) (hW : MW S) (hc : S' 10 0 = S 10 0 ∧ S' 10 5 = S 10 5 ∧ S' 10 11 = S 10 11 ∧ S' 10 12 = S 10 12 ∧ S' 10 29 = S 10 29)
    (rs : ∀ a s, 11 ≤ a → a ≤ 19 → S' a s = S a s) (rt : ∀ a t, (a = 21 ∨ a = 22 ∨ a = 24 ∨ a = 25 ∨ a = 30) → t < cT S → S' a t = S a t)
    (hin : ∀ t, t < cT S → S' 26 t = 0 → S 26 t = 0 ∧ S' 27 t = S 27 t)
    (h29 : ∀ t, t < cT S → S' 29 t = S 29 t ∨ S' 29 t = S 10 0 / 1440)
    (h32 : ∀ c, c < cC S → TI S' c) (h20 : ∀ s, cS S ≤ s → S' 20 s = 0) (h34 : ∀ c, cC S ≤ c → S' 34 c = 0) : MW S' ∧ SI S' := by
  obtain ⟨c0, c5, c11, c12, c29⟩ := hc
  have eS : cS S' = cS S := by unfold cS; rw [c11]
  have eT : cT S' = cT S := by unfold cT; rw [c12]
  have eC : cC S' = cC S := by unfold cC; rw [c29]
  have eR : cR S' = cR S := by unfold cR; rw [c5]
  have hW' : MW S' := by
    unfold MW
    rw [eS, eT, eC, eR, c5, c11, c12, c29]
    exact hW
  exact ⟨hW', h.gen hW' c11 c12 (by rw [c0]; exact h.sr.1) (by rw [c0]; exact Nat.le_refl _) (fun a s q1 q2 _ => rs a s (by omega) q2) rt hin h29 (fun c hc => h32 c (by rw [← eC]; exact hc)) (fun k hk => by rw [rs 11 k (by omega) (by omega)]; exact h.row (by rw [← eR]; exact hk)) h20 (fun c hc => h34 c (by rw [← eC]; exact hc))⟩
theorem TI.congr {S' : St} {c : Nat} (h : TI S c) (e : ∀ k, k < 4 → S' 32 (4 * c + k) = S 32 (4 * c + k)) : TI S' c := fun k hk q => by rw [e k hk] at q ⊢; exact h k hk q
/-- only scalars other than the clock and the counts change -/
theorem SI.scal {S' : St} (h : SI S) (hW : MW S) (hc : S' 10 0 = S 10 0 ∧ S' 10 5 = S 10 5 ∧ S' 10 11 = S 10 11 ∧ S' 10 12 = S 10 12 ∧ S' 10 29 = S 10 29) (hr : ∀ a, ¬ a = 10 → ¬ a = 28 → ¬ (35 ≤ a) → S' a = S a) : MW S' ∧ SI S' :=
  h.still hW hc (fun a s q1 q2 => by rw [hr a (by omega) (by omega) (by omega)]) (fun a t q _ => by rw [hr a (by omega) (by omega) (by omega)]) (fun t _ q => by rw [hr 26 (by decide) (by decide) (by decide)] at q; exact ⟨q, by rw [hr 27 (by decide) (by decide) (by decide)]⟩) (fun t _ => Or.inl (by rw [hr 29 (by decide) (by decide) (by decide)])) (fun c hc => (h.ti hc).congr (fun k _ => by rw [hr 32 (by decide) (by decide) (by decide)])) (fun s hs => by rw [hr 20 (by decide) (by decide) (by decide)]; exact h.z20 hs) (fun c hc => by rw [hr 34 (by decide) (by decide) (by decide)]; exact h.z34 hc)
/-- a thing leaves -/
theorem SI.leave (h : SI S) (hW : MW S) {t : Nat} {w : Int32} (hw : ¬ w = 0) : MW (sLeave S t w) ∧ SI (sLeave S t w) := by
  refine h.still hW ⟨rfl, rfl, rfl, rfl, rfl⟩ (fun a s q1 q2 => sLeave_ne (by omega) (by omega)) (fun a q e _ => sLeave_ne (by omega) (by omega)) (fun q _ e => ?_) (fun q _ => Or.inl (sLeave_ne (by omega) (by omega))) (fun c hc => (h.ti hc).congr (fun k _ => sLeave_ne (by omega) (by omega))) (fun s hs => (sLeave_ne (by omega) (by omega)).trans (h.z20 hs)) (fun c hc => (sLeave_ne (by omega) (by omega)).trans (h.z34 hc))
  by_cases z : q = t
  · subst z
    rw [show sLeave S q w 26 q = w by unfold sLeave; exact up2_eq] at e
    exact absurd e hw
  · rw [sLeave_ne (by omega) (fun y => z y.2)] at e
    exact ⟨e, sLeave_ne (by omega) (by omega)⟩
end SII
