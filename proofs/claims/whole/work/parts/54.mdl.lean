/-! THE REFERENCE: least -/
/-- a thing that can be moved -/
def lsT (S : St) (t : Nat) : Bool := decide (S 26 t = 0 ∧ S 20 (onN S t) = 0)
def sMany (S : St) : Nat → Nat
  | 0 => 0
  | n + 1 => sMany S n + (if lsT S n = true then 1 else 0)
def sNth (S : St) (i : Nat) : Nat → Nat
  | 0 => 0
  | n + 1 => if lsT S n = true ∧ sMany S n = i then n else sNth S i n
def sRst (S : St) : Nat → Int32
  | 0 => 0
  | n + 1 => if S 26 n = 0 ∧ ¬ S 20 (onN S n) = 0 then sRst S n + sMis S n (onN S n) else sRst S n
def tkn (S : St) (i : Nat) : Nat := sNth S i (cT S)
def sPb (S : St) : Pb := (sMany S (cT S), cS S, fun i => (S 21 (tkn S i)).toNatClampNeg, fun i s => decide (sSuit S (tkn S i) s = 1), fun s => (S 16 s).toNatClampNeg, fun i s => (sMis S (tkn S i) s).toNatClampNeg)
theorem sNth_ok (S : St) : ∀ (n i : Nat), i < sMany S n → sNth S i n < n ∧ lsT S (sNth S i n) = true := by
  intro n
  induction n with
  | zero => intro i h; exact absurd h (Nat.not_lt_zero _)
  | succ n ih =>
    intro i h
    unfold sNth
    split
    · rename_i q; exact ⟨by omega, q.1⟩
    · rename_i q
      have h2 : i < sMany S n := by
        simp only [sMany] at h
        split at h
        · rename_i z
          have : ¬ sMany S n = i := fun y => q ⟨z, y⟩
          omega
        · omega
      have := ih i h2
      exact ⟨by omega, this.2⟩
theorem sMany_mono (S : St) : ∀ (n k : Nat), k ≤ n → sMany S k ≤ sMany S n := by
  intro n
  induction n with
  | zero => intro k h; rw [show k = 0 by omega]; exact Nat.le_refl _
  | succ n ih =>
    intro k h
    by_cases e : k = n + 1
    · rw [e]; exact Nat.le_refl _
    · have := ih k (by omega)
      simp only [sMany]
      omega
theorem tkn_ok {S : St} {i : Nat} (h : i < sMany S (cT S)) : tkn S i < cT S ∧ S 26 (tkn S i) = 0 ∧ S 20 (onN S (tkn S i)) = 0 := by
  obtain ⟨h1, h2⟩ := sNth_ok S (cT S) i h
  simp only [lsT, decide_eq_true_eq] at h2
  exact ⟨h1, h2⟩
/-- the ranges that the least sum rests on -/
def LR (S : St) : Prop := SR S ∧ (∀ t, t < cT S → RG (S 21 t) 20) ∧ ∀ s, s < cS S → RG (S 16 s) 60
theorem LR.mis {S : St} (h : LR S) {i s : Nat} (hi : i < sMany S (cT S)) (hs : s < cS S) : sMis S (tkn S i) s = nI (pbC (sPb S) i s) ∧ pbC (sPb S) i s ≤ 99 := by
  obtain ⟨q, hq, e⟩ := sMis_nI h.1 (tkn_ok hi).1 hs
  have e2 : pbC (sPb S) i s = q := by show (sMis S (tkn S i) s).toNatClampNeg = q; rw [e]; exact nI_clamp (by omega)
  rw [e2]
  exact ⟨e, hq⟩
theorem LR.siz {S : St} (h : LR S) {i : Nat} (hi : i < sMany S (cT S)) : S 21 (tkn S i) = nI (pbZ (sPb S) i) ∧ pbZ (sPb S) i ≤ 20 := h.2.1 _ (tkn_ok hi).1
theorem LR.room {S : St} (h : LR S) {s : Nat} (hs : s < cS S) : S 16 s = nI (pbR (sPb S) s) ∧ pbR (sPb S) s ≤ 60 := h.2.2 s hs
def oI : Option Nat → Int32
  | none => -1
  | some v => nI v
/-- as S0 but for the scratch rows -/
def Ag (S0 S : St) : Prop := ∀ a, ¬ (35 ≤ a ∧ a ≤ 37) → S a = S0 a
theorem Ag.up {S0 S : St} (h : Ag S0 S) {a k : Nat} {v : Int32} (ha : 35 ≤ a ∧ a ≤ 37) : Ag S0 (up2 S a k v) := fun x e => by
  funext j
  rw [up2_ne (fun z => e (by rw [z.1]; exact ha)), h x e]
theorem Ag.suit {S0 S : St} (h : Ag S0 S) (t s : Nat) : sSuit S t s = sSuit S0 t s := by
  unfold sSuit
  rw [h 20 (by decide), h 22 (by decide), h 17 (by decide), h 19 (by decide), h 30 (by decide)]
theorem Ag.mis {S0 S : St} (h : Ag S0 S) (t s : Nat) : sMis S t s = sMis S0 t s := by
  unfold sMis sWant sHrs
  rw [h 18 (by decide), h 24 (by decide), h 10 (by decide)]
theorem rX6_suitsB (d : Nat) {h : Hp} (hM : MOK h) {S0 S : St} (hag : Ag S0 S) (t s : Nat) (ht : t < 120) (hs : s < 16) : Res (d + 1) nX6_suits [.ref 10, .int (nI t), .int (nI s)] (am_wi h S) (some (.int (sSuit S0 t s))) (am_wi h S) := by
  rw [← hag.suit]; exact rX6_suits d hM S t s ht hs
theorem rX6_misfitOnB (d : Nat) {h : Hp} (hM : MOK h) {S0 S : St} (hag : Ag S0 S) (t s : Nat) (ht : t < 120) (hs : s < 16) : Res (d + 2) nX6_misfitOn [.ref 10, .int (nI t), .int (nI s)] (am_wi h S) (some (.int (sMis S0 t s))) (am_wi h S) := by
  rw [← hag.mis]; exact rX6_misfitOn d hM S t s ht hs
/-- the state of the search at depth K with the prefix f -/
def BtI (S0 S : St) (K : Nat) (f : Nat → Nat) : Prop := Ag S0 S ∧ (∀ i, i < sMany S0 (cT S0) → S 35 i = nI (tkn S0 i)) ∧ (∀ i, i < K → S 36 i = nI (f i)) ∧ ∀ s, s < cS S0 → S 37 s = nI (pbR (sPb S0) s - ldF (sPb S0) f s K)
def obd (b : Option Nat) : Prop := ∀ w, b = some w → w ≤ 1000
theorem cs_le {S : St} (h : LR S) (hm : sMany S (cT S) ≤ 5) {f : Nat → Nat} {k : Nat} (hk : k ≤ sMany S (cT S)) (hf : VlK (sPb S) f k) : csF (sPb S) f k ≤ 1000 := by
  have := csF_le (P := sPb S) (f := f) (fun i s h1 h2 => (h.mis h1 h2).2) (k := k) hk (fun i hi => (hf.1 i hi).1)
  omega
theorem bt_bd {S : St} (h : LR S) (hm : sMany S (cT S) ≤ 5) {j k : Nat} {f : Nat → Nat} {b : Option Nat} (hk : k + j = sMany S (cT S)) (hf : VlK (sPb S) f k) (hb : obd b) : obd (bt (sPb S) j k f b) := by
  intro w hw
  rcases (bt_ok (sPb S) j k f b hk hf).1 w hw with z | ⟨g, _, g2, g3⟩
  · exact hb w z
  · rw [← g3]; exact cs_le h hm (Nat.le_refl _) g2
theorem fo_bd {S : St} (h : LR S) (hm : sMany S (cT S) ≤ 5) {j k : Nat} {f : Nat → Nat} {b : Option Nat} (hk : k + (j + 1) = sMany S (cT S)) (hf : VlK (sPb S) f k) (hb : obd b) : ∀ (s : Nat), s ≤ cS S → obd (foN (btG (sPb S) j k f) b s) := by
  intro s
  induction s with
  | zero => intro _; exact hb
  | succ s ih =>
    intro hs
    by_cases c : btC (sPb S) f k s = true
    · rw [show foN (btG (sPb S) j k f) b (s + 1) = bt (sPb S) j (k + 1) (upN f k s) (foN (btG (sPb S) j k f) b s) from if_pos c]
      exact bt_bd h hm (by omega) (hf.up (show s < cS S by omega) c) (ih (by omega))
    · rw [show foN (btG (sPb S) j k f) b (s + 1) = foN (btG (sPb S) j k f) b s from if_neg c]
      exact ih (by omega)
theorem ld_up {P : Pb} {f : Nat → Nat} {k s : Nat} (q : Nat) : ldF P (upN f k s) q (k + 1) = ldF P f q k + (if s = q then pbZ P k else 0) := by
  show ldF P (upN f k s) q k + (if upN f k s k = q then pbZ P k else 0) = _
  rw [upN_eq, ldF_congr (g := f) (fun i hi => upN_ne (by omega))]
theorem cs_up {P : Pb} {f : Nat → Nat} {k s : Nat} : csF P (upN f k s) (k + 1) = csF P f k + pbC P k s := by
  show csF P (upN f k s) k + pbC P k (upN f k s k) = _
  rw [upN_eq, csF_congr (g := f) (fun i hi => upN_ne (by omega))]
/-- the thing K on the shelf s, tried: going in .. -/
theorem BtI.into {S0 S : St} {K s : Nat} {f : Nat → Nat} (h : BtI S0 S K f) (hf : VlK (sPb S0) f K) (hL : LR S0) (hK : K < sMany S0 (cT S0)) (hs : s < cS S0) (c : btC (sPb S0) f K s = true) : BtI S0 (up2 (up2 (up2 S 36 K (nI s)) 37 s (nI (pbR (sPb S0) s - ldF (sPb S0) f s K) - nI (pbZ (sPb S0) K))) 36 (K + 1) (-1)) (K + 1) (upN f K s) := by
  obtain ⟨h1, h2, h3, h4⟩ := h
  simp only [btC, decide_eq_true_eq] at c
  refine ⟨((h1.up (by decide)).up (by decide)).up (by decide), fun i hi => ?_, fun i hi => ?_, fun q hq => ?_⟩
  · rw [up2_ne (by omega), up2_ne (by omega), up2_ne (by omega)]; exact h2 i hi
  · rw [up2_ne (by omega), up2_ne (by omega)]
    by_cases e : i = K
    · rw [e, up2_eq, upN_eq]
    · rw [up2_ne (by omega), upN_ne e]; exact h3 i (by omega)
  · rw [up2_ne (by omega), ld_up]
    by_cases e : q = s
    · rw [e, up2_eq, if_pos rfl, pk_sub (by omega)]
      congr 1
      omega
    · rw [up2_ne (by omega), up2_ne (by omega), if_neg (fun z => e z.symm)]; exact h4 q hq
/-- .. and back -/
theorem BtI.back {S0 S : St} {K s : Nat} {f : Nat → Nat} (h : BtI S0 S (K + 1) (upN f K s)) (hs : s < cS S0) (c : btC (sPb S0) f K s = true) : BtI S0 (up2 S 37 s (nI (pbR (sPb S0) s - ldF (sPb S0) (upN f K s) s (K + 1)) + nI (pbZ (sPb S0) K))) K f := by
  obtain ⟨h1, h2, h3, h4⟩ := h
  simp only [btC, decide_eq_true_eq] at c
  refine ⟨h1.up (by decide), fun i hi => ?_, fun i hi => ?_, fun q hq => ?_⟩
  · rw [up2_ne (by omega)]; exact h2 i hi
  · rw [up2_ne (by omega), h3 i (by omega), upN_ne (by omega)]
  · by_cases e : q = s
    · rw [e, up2_eq, ld_up, if_pos rfl, nI_add]
      congr 1
      omega
    · rw [up2_ne (by omega), h4 q hq, ld_up, if_neg (fun z => e z.symm), Nat.add_zero]

def BtW (d : Nat) (h : Hp) (S0 : St) (Q : Option Value → Hp → Prop) (rest : Int32) (j K : Nat) : Prop := ∀ (f : Nat → Nat) (b : Option Nat) (S : St) (x6 x7 : Option Value), VlK (sPb S0) f K → obd b → BtI S0 S K f → S 36 K = -1 → (∀ (S' : St) (x6 x7 : Option Value), BtI S0 S' K f → WP kX6_least (Res (d + 2)) Q 123 [some (.ref 10), some (.int (nI (sMany S0 (cT S0)))), some (.int rest), some (.int (oI (bt (sPb S0) j K f b))), some (.int (nI (csF (sPb S0) f K))), some (.int (nI K + (-1))), x6, x7] [] (am_wi h S')) → WP kX6_least (Res (d + 2)) Q 123 [some (.ref 10), some (.int (nI (sMany S0 (cT S0)))), some (.int rest), some (.int (oI b)), some (.int (nI (csF (sPb S0) f K))), some (.int (nI K)), x6, x7] [] (am_wi h S)

set_option maxRecDepth 4000 in
theorem lX6_btB (d : Nat) {h : Hp} (hM : MOK h) (S0 : St) (hW : MW S0) (hL : LR S0) (hm : sMany S0 (cT S0) ≤ 5) (Q : Option Value → Hp → Prop) (rest : Int32) (j K : Nat) (f : Nat → Nat) (b : Option Nat) (hK : K + (j + 1) = sMany S0 (cT S0)) (hf : VlK (sPb S0) f K) (hb : obd b) (ihA : BtW d h S0 Q rest j (K + 1)) (kx : ∀ (S' : St) (x6 x7 : Option Value), BtI S0 S' K f → WP kX6_least (Res (d + 2)) Q 123 [some (.ref 10), some (.int (nI (sMany S0 (cT S0)))), some (.int rest), some (.int (oI (bt (sPb S0) (j + 1) K f b))), some (.int (nI (csF (sPb S0) f K))), some (.int (nI K + (-1))), x6, x7] [] (am_wi h S')) : ∀ (r s : Nat) (S : St), s + r = cS S0 → BtI S0 S K f → WP kX6_least (Res (d + 2)) Q 227 [some (.ref 10), some (.int (nI (sMany S0 (cT S0)))), some (.int rest), some (.int (oI (foN (btG (sPb S0) j K f) b s))), some (.int (nI (csF (sPb S0) f K))), some (.int (nI K)), some (.int (nI (tkn S0 K))), some (.int (nI s))] [] (am_wi h S) := by
  have h11 := hW.2.1.2
  have h12 := hW.2.2.1.2
  have hKm : K < sMany S0 (cT S0) := by omega
  have htk := (tkn_ok hKm).1
  have hz := hL.siz hKm
  intro r
  induction r with
  | zero =>
    intro s S hs hI
    refine wp_iload eX6_least_227 rfl ?_
    refine wp_aload_n eX6_least_229 rfl ?_
    refine wp_getI (v := S0 10 11) eX6_least_230 (show Ob (am_wi h S) 10 6 from hM.ob) rfl (congrFun (hI.1 10 (by decide)) 11) ?_
    refine wp_icmpT eX6_least_233 (show (S0 10 11) ≤ (nI s) from (lp_ge hW.2.1.1 (by omega) (by omega))) ?_
    refine wp_iload eX6_least_270 rfl ?_
    refine wp_aload_n eX6_least_272 rfl ?_
    refine wp_getI (v := S0 10 11) eX6_least_273 (show Ob (am_wi h S) 10 6 from hM.ob) rfl (congrFun (hI.1 10 (by decide)) 11) ?_
    refine wp_icmpF eX6_least_276 (show ¬ (¬ (nI s) = (S0 10 11)) from (fun z => z (by rw [hW.2.1.1, show s = cS S0 by omega]))) ?_
    refine wp_iinc (v := nI K + (-1)) (ls' := [some (.ref 10), some (.int (nI (sMany S0 (cT S0)))), some (.int rest), some (.int (oI (foN (btG (sPb S0) j K f) b s))), some (.int (nI (csF (sPb S0) f K))), some (.int (nI K + (-1))), some (.int (nI (tkn S0 K))), some (.int (nI s))]) eX6_least_279 rfl rfl rfl ?_
    refine wp_goto eX6_least_282 ?_
    rw [show s = cS S0 by omega]
    exact kx S _ _ hI
  | succ r ih =>
    intro s S hs hI
    have hrm := (hL.room (show s < cS S0 by omega)).2
    refine wp_iload eX6_least_227 rfl ?_
    refine wp_aload_n eX6_least_229 rfl ?_
    refine wp_getI (v := S0 10 11) eX6_least_230 (show Ob (am_wi h S) 10 6 from hM.ob) rfl (congrFun (hI.1 10 (by decide)) 11) ?_
    refine wp_icmpF eX6_least_233 (show ¬ ((S0 10 11) ≤ (nI s)) from (lp_lt hW.2.1.1 (by omega) (by omega))) ?_
    refine wp_aload_n eX6_least_236 rfl ?_
    refine wp_iload eX6_least_237 rfl ?_
    refine wp_iload eX6_least_239 rfl ?_
    refine wp_virt (rv := (some (.int (sSuit S0 (tkn S0 K) s)))) (h' := am_wi h S) (r := []) eX6_least_241 [.int (nI (tkn S0 K)), .int (nI s)] rfl rfl rfl (show Ob (am_wi h S) 10 6 from hM.ob) (rX6_suitsB _ hM (S := S) hI.1 _ _ (by omega) (by omega)) ?_
    refine wp_if eX6_least_244 (fun (c_244 : (sSuit S0 (tkn S0 K) s) = 0) => ?_) (fun (c_244 : ¬ ((sSuit S0 (tkn S0 K) s) = 0)) => ?_)
    · refine wp_iinc (v := nI (s + 1)) (ls' := [some (.ref 10), some (.int (nI (sMany S0 (cT S0)))), some (.int rest), some (.int (oI (foN (btG (sPb S0) j K f) b s))), some (.int (nI (csF (sPb S0) f K))), some (.int (nI K)), some (.int (nI (tkn S0 K))), some (.int (nI (s + 1)))]) eX6_least_264 rfl (nI_1 s) rfl ?_
      refine wp_goto eX6_least_267 ?_
      have nc : ¬ btC (sPb S0) f K s = true := by
        simp only [btC, decide_eq_true_eq]
        rintro ⟨z1, z2⟩
        have z3 : sSuit S0 (tkn S0 K) s = 1 := of_decide_eq_true z1
        first
        | (rw [z3] at c_244; exact absurd c_244 (by decide))
        | exact c_261 (nI_le (by omega) (by omega))
      have e2 : foN (btG (sPb S0) j K f) b (s + 1) = foN (btG (sPb S0) j K f) b s := if_neg nc
      have q := ih (s + 1) S (by omega) hI
      rw [e2] at q
      exact q
    · refine wp_aload_n eX6_least_247 rfl ?_
      refine wp_getR (v := 37) eX6_least_248 (show Ob (am_wi h S) 10 6 from hM.ob) rfl hM.r35 ?_
      refine wp_iload eX6_least_251 rfl ?_
      refine wp_ial (v := nI (pbR (sPb S0) s - ldF (sPb S0) f s K)) (t := s) eX6_least_253 (show Ar (am_wi h S) 37 7 16 from hM.a37) (by omega) rfl (hI.2.2.2 s (by omega)) ?_
      refine wp_aload_n eX6_least_254 rfl ?_
      refine wp_getR (v := 21) eX6_least_255 (show Ob (am_wi h S) 10 6 from hM.ob) rfl hM.r18 ?_
      refine wp_iload eX6_least_258 rfl ?_
      refine wp_ial (v := nI (pbZ (sPb S0) K)) (t := tkn S0 K) eX6_least_260 (show Ar (am_wi h S) 21 7 120 from hM.a21) (by omega) rfl ((congrFun (hI.1 21 (by decide)) (tkn S0 K)).trans hz.1) ?_
      refine wp_icmp eX6_least_261 (fun (c_261 : (nI (pbZ (sPb S0) K)) ≤ (nI (pbR (sPb S0) s - ldF (sPb S0) f s K))) => ?_) (fun (c_261 : ¬ ((nI (pbZ (sPb S0) K)) ≤ (nI (pbR (sPb S0) s - ldF (sPb S0) f s K)))) => ?_)
      · have hcb : btC (sPb S0) f K s = true := by
          simp only [btC, decide_eq_true_eq]
          refine ⟨decide_eq_true ((sSuit_01 S0 (tkn S0 K) s).resolve_left c_244), ?_⟩
          have := (nI_leI (by omega) (by omega)).mp c_261
          have := hf.2 s (show s < cS S0 by omega)
          omega
        refine wp_iload eX6_least_270 rfl ?_
        refine wp_aload_n eX6_least_272 rfl ?_
        refine wp_getI (v := S0 10 11) eX6_least_273 (show Ob (am_wi h S) 10 6 from hM.ob) rfl (congrFun (hI.1 10 (by decide)) 11) ?_
        refine wp_icmpT eX6_least_276 (show ¬ (nI s) = (S0 10 11) from (by rw [hW.2.1.1]; intro z; have := (nI_eq (by omega) (by omega)).mp z; omega)) ?_
        refine wp_aload_n eX6_least_285 rfl ?_
        refine wp_getR (v := 36) eX6_least_286 (show Ob (am_wi h S) 10 6 from hM.ob) rfl hM.r34 ?_
        refine wp_iload eX6_least_289 rfl ?_
        refine wp_iload eX6_least_291 rfl ?_
        refine wp_ias (t := K) (h' := am_wi h (up2 S 36 K (nI s))) eX6_least_293 (show Ar (am_wi h S) 36 7 6 from hM.a36) (by omega) rfl (am_wi_set _ _ _ _ _ rfl rfl) ?_
        refine wp_aload_n eX6_least_294 rfl ?_
        refine wp_getR (v := 37) eX6_least_295 (show Ob (am_wi h (up2 S 36 K (nI s))) 10 6 from hM.ob) rfl hM.r35 ?_
        refine wp_iload eX6_least_298 rfl ?_
        refine wp_dup2 eX6_least_300 rfl rfl ?_
        refine wp_ial (v := nI (pbR (sPb S0) s - ldF (sPb S0) f s K)) (t := s) eX6_least_301 (show Ar (am_wi h (up2 S 36 K (nI s))) 37 7 16 from hM.a37) (by omega) rfl (hI.2.2.2 s (by omega)) ?_
        refine wp_aload_n eX6_least_302 rfl ?_
        refine wp_getR (v := 21) eX6_least_303 (show Ob (am_wi h (up2 S 36 K (nI s))) 10 6 from hM.ob) rfl hM.r18 ?_
        refine wp_iload eX6_least_306 rfl ?_
        refine wp_ial (v := nI (pbZ (sPb S0) K)) (t := tkn S0 K) eX6_least_308 (show Ar (am_wi h (up2 S 36 K (nI s))) 21 7 120 from hM.a21) (by omega) rfl ((congrFun (hI.1 21 (by decide)) (tkn S0 K)).trans hz.1) ?_
        refine wp_isub eX6_least_309 ?_
        refine wp_ias (t := s) (h' := am_wi h (up2 (up2 S 36 K (nI s)) 37 s ((nI (pbR (sPb S0) s - ldF (sPb S0) f s K)) - (nI (pbZ (sPb S0) K))))) eX6_least_310 (show Ar (am_wi h (up2 S 36 K (nI s))) 37 7 16 from hM.a37) (by omega) rfl (am_wi_set _ _ _ _ _ rfl rfl) ?_
        refine wp_iload eX6_least_311 rfl ?_
        refine wp_aload_n eX6_least_313 rfl ?_
        refine wp_iload eX6_least_314 rfl ?_
        refine wp_iload eX6_least_316 rfl ?_
        refine wp_virt (rv := (some (.int (sMis S0 (tkn S0 K) s)))) (h' := am_wi h (up2 (up2 S 36 K (nI s)) 37 s ((nI (pbR (sPb S0) s - ldF (sPb S0) f s K)) - (nI (pbZ (sPb S0) K))))) (r := [.int (nI (csF (sPb S0) f K))]) eX6_least_318 [.int (nI (tkn S0 K)), .int (nI s)] rfl rfl rfl (show Ob (am_wi h (up2 (up2 S 36 K (nI s)) 37 s ((nI (pbR (sPb S0) s - ldF (sPb S0) f s K)) - (nI (pbZ (sPb S0) K))))) 10 6 from hM.ob) (rX6_misfitOnB _ hM (S := up2 (up2 S 36 K (nI s)) 37 s ((nI (pbR (sPb S0) s - ldF (sPb S0) f s K)) - (nI (pbZ (sPb S0) K)))) (Ag.up (Ag.up hI.1 (by decide)) (by decide)) _ _ (by omega) (by omega)) ?_
        refine wp_iadd eX6_least_321 ?_
        refine wp_top (y := nI (csF (sPb S0) (upN f K s) (K + 1))) (by rw [cs_up, (hL.mis hKm (show s < cS S0 by omega)).1, nI_add]) ?_
        refine wp_istore (ls' := [some (.ref 10), some (.int (nI (sMany S0 (cT S0)))), some (.int rest), some (.int (oI (foN (btG (sPb S0) j K f) b s))), some (.int (nI (csF (sPb S0) (upN f K s) (K + 1)))), some (.int (nI K)), some (.int (nI (tkn S0 K))), some (.int (nI s))]) eX6_least_322 rfl rfl ?_
        refine wp_iinc (v := nI (K + 1)) (ls' := [some (.ref 10), some (.int (nI (sMany S0 (cT S0)))), some (.int rest), some (.int (oI (foN (btG (sPb S0) j K f) b s))), some (.int (nI (csF (sPb S0) (upN f K s) (K + 1)))), some (.int (nI (K + 1))), some (.int (nI (tkn S0 K))), some (.int (nI s))]) eX6_least_324 rfl (nI_1 K) rfl ?_
        refine wp_aload_n eX6_least_327 rfl ?_
        refine wp_getR (v := 36) eX6_least_328 (show Ob (am_wi h (up2 (up2 S 36 K (nI s)) 37 s ((nI (pbR (sPb S0) s - ldF (sPb S0) f s K)) - (nI (pbZ (sPb S0) K))))) 10 6 from hM.ob) rfl hM.r34 ?_
        refine wp_iload eX6_least_331 rfl ?_
        refine wp_iconst (v := (-1)) eX6_least_333 rfl ?_
        refine wp_ias (t := K + 1) (h' := am_wi h (up2 (up2 (up2 S 36 K (nI s)) 37 s ((nI (pbR (sPb S0) s - ldF (sPb S0) f s K)) - (nI (pbZ (sPb S0) K)))) 36 (K + 1) ((-1)))) eX6_least_334 (show Ar (am_wi h (up2 (up2 S 36 K (nI s)) 37 s ((nI (pbR (sPb S0) s - ldF (sPb S0) f s K)) - (nI (pbZ (sPb S0) K))))) 36 7 6 from hM.a36) (by omega) rfl (am_wi_set _ _ _ _ _ rfl rfl) ?_
        refine wp_goto eX6_least_335 ?_
        refine ihA (upN f K s) (foN (btG (sPb S0) j K f) b s) _ _ _ (hf.up (show s < cS S0 by omega) hcb) (fo_bd hL hm hK hf hb s (by omega)) (hI.into hf hL hKm (by omega) hcb) up2_eq (fun S' y6 y7 hI' => ?_)
        rw [pk_m1]
        refine wp_iload eX6_least_123 rfl ?_
        refine wp_ifF eX6_least_125 (show ¬ ((nI K) < 0) from (nI_pos (by omega))) ?_
        refine wp_iload eX6_least_128 rfl ?_
        refine wp_iload_n eX6_least_130 rfl ?_
        refine wp_icmpT eX6_least_131 (show ¬ (nI K) = (nI (sMany S0 (cT S0))) from (by intro z; have := (nI_eq (by omega) (by omega)).mp z; omega)) ?_
        refine wp_aload_n eX6_least_157 rfl ?_
        refine wp_getR (v := 35) eX6_least_158 (show Ob (am_wi h S') 10 6 from hM.ob) rfl hM.r33 ?_
        refine wp_iload eX6_least_161 rfl ?_
        refine wp_ial (v := nI (tkn S0 K)) (t := K) eX6_least_163 (show Ar (am_wi h S') 35 7 6 from hM.a35) (by omega) rfl (hI'.2.1 K hKm) ?_
        refine wp_istore (ls' := [some (.ref 10), some (.int (nI (sMany S0 (cT S0)))), some (.int rest), some (.int (oI (bt (sPb S0) j (K + 1) (upN f K s) (foN (btG (sPb S0) j K f) b s)))), some (.int (nI (csF (sPb S0) (upN f K s) (K + 1)))), some (.int (nI K)), some (.int (nI (tkn S0 K))), y7]) eX6_least_164 rfl rfl ?_
        refine wp_aload_n eX6_least_166 rfl ?_
        refine wp_getR (v := 36) eX6_least_167 (show Ob (am_wi h S') 10 6 from hM.ob) rfl hM.r34 ?_
        refine wp_iload eX6_least_170 rfl ?_
        refine wp_ial (v := nI s) (t := K) eX6_least_172 (show Ar (am_wi h S') 36 7 6 from hM.a36) (by omega) rfl ((hI'.2.2.1 K (by omega)).trans (by rw [upN_eq])) ?_
        refine wp_ifF eX6_least_173 (show ¬ ((nI s) < 0) from (nI_pos (by omega))) ?_
        refine wp_aload_n eX6_least_176 rfl ?_
        refine wp_getR (v := 37) eX6_least_177 (show Ob (am_wi h S') 10 6 from hM.ob) rfl hM.r35 ?_
        refine wp_aload_n eX6_least_180 rfl ?_
        refine wp_getR (v := 36) eX6_least_181 (show Ob (am_wi h S') 10 6 from hM.ob) rfl hM.r34 ?_
        refine wp_iload eX6_least_184 rfl ?_
        refine wp_ial (v := nI s) (t := K) eX6_least_186 (show Ar (am_wi h S') 36 7 6 from hM.a36) (by omega) rfl ((hI'.2.2.1 K (by omega)).trans (by rw [upN_eq])) ?_
        refine wp_dup2 eX6_least_187 rfl rfl ?_
        refine wp_ial (v := nI (pbR (sPb S0) s - ldF (sPb S0) (upN f K s) s (K + 1))) (t := s) eX6_least_188 (show Ar (am_wi h S') 37 7 16 from hM.a37) (by omega) rfl (hI'.2.2.2 s (by omega)) ?_
        refine wp_aload_n eX6_least_189 rfl ?_
        refine wp_getR (v := 21) eX6_least_190 (show Ob (am_wi h S') 10 6 from hM.ob) rfl hM.r18 ?_
        refine wp_iload eX6_least_193 rfl ?_
        refine wp_ial (v := nI (pbZ (sPb S0) K)) (t := tkn S0 K) eX6_least_195 (show Ar (am_wi h S') 21 7 120 from hM.a21) (by omega) rfl ((congrFun (hI'.1 21 (by decide)) (tkn S0 K)).trans hz.1) ?_
        refine wp_iadd eX6_least_196 ?_
        refine wp_ias (t := s) (h' := am_wi h (up2 S' 37 s ((nI (pbR (sPb S0) s - ldF (sPb S0) (upN f K s) s (K + 1))) + (nI (pbZ (sPb S0) K))))) eX6_least_197 (show Ar (am_wi h S') 37 7 16 from hM.a37) (by omega) rfl (am_wi_set _ _ _ _ _ rfl rfl) ?_
        refine wp_iload eX6_least_198 rfl ?_
        refine wp_aload_n eX6_least_200 rfl ?_
        refine wp_iload eX6_least_201 rfl ?_
        refine wp_aload_n eX6_least_203 rfl ?_
        refine wp_getR (v := 36) eX6_least_204 (show Ob (am_wi h (up2 S' 37 s ((nI (pbR (sPb S0) s - ldF (sPb S0) (upN f K s) s (K + 1))) + (nI (pbZ (sPb S0) K))))) 10 6 from hM.ob) rfl hM.r34 ?_
        refine wp_iload eX6_least_207 rfl ?_
        refine wp_ial (v := nI s) (t := K) eX6_least_209 (show Ar (am_wi h (up2 S' 37 s ((nI (pbR (sPb S0) s - ldF (sPb S0) (upN f K s) s (K + 1))) + (nI (pbZ (sPb S0) K))))) 36 7 6 from hM.a36) (by omega) rfl ((hI'.2.2.1 K (by omega)).trans (by rw [upN_eq])) ?_
        refine wp_virt (rv := (some (.int (sMis S0 (tkn S0 K) s)))) (h' := am_wi h (up2 S' 37 s ((nI (pbR (sPb S0) s - ldF (sPb S0) (upN f K s) s (K + 1))) + (nI (pbZ (sPb S0) K))))) (r := [.int (nI (csF (sPb S0) (upN f K s) (K + 1)))]) eX6_least_210 [.int (nI (tkn S0 K)), .int (nI s)] rfl rfl rfl (show Ob (am_wi h (up2 S' 37 s ((nI (pbR (sPb S0) s - ldF (sPb S0) (upN f K s) s (K + 1))) + (nI (pbZ (sPb S0) K))))) 10 6 from hM.ob) (rX6_misfitOnB _ hM (S := up2 S' 37 s ((nI (pbR (sPb S0) s - ldF (sPb S0) (upN f K s) s (K + 1))) + (nI (pbZ (sPb S0) K)))) (Ag.up hI'.1 (by decide)) _ _ (by omega) (by omega)) ?_
        refine wp_isub eX6_least_213 ?_
        refine wp_top (y := nI (csF (sPb S0) f K)) (by rw [cs_up, (hL.mis hKm (show s < cS S0 by omega)).1, pk_sub (by omega)]; congr 1; omega) ?_
        refine wp_istore (ls' := [some (.ref 10), some (.int (nI (sMany S0 (cT S0)))), some (.int rest), some (.int (oI (bt (sPb S0) j (K + 1) (upN f K s) (foN (btG (sPb S0) j K f) b s)))), some (.int (nI (csF (sPb S0) f K))), some (.int (nI K)), some (.int (nI (tkn S0 K))), y7]) eX6_least_214 rfl rfl ?_
        refine wp_aload_n eX6_least_216 rfl ?_
        refine wp_getR (v := 36) eX6_least_217 (show Ob (am_wi h (up2 S' 37 s ((nI (pbR (sPb S0) s - ldF (sPb S0) (upN f K s) s (K + 1))) + (nI (pbZ (sPb S0) K))))) 10 6 from hM.ob) rfl hM.r34 ?_
        refine wp_iload eX6_least_220 rfl ?_
        refine wp_ial (v := nI s) (t := K) eX6_least_222 (show Ar (am_wi h (up2 S' 37 s ((nI (pbR (sPb S0) s - ldF (sPb S0) (upN f K s) s (K + 1))) + (nI (pbZ (sPb S0) K))))) 36 7 6 from hM.a36) (by omega) rfl ((hI'.2.2.1 K (by omega)).trans (by rw [upN_eq])) ?_
        refine wp_iconst (v := 1) eX6_least_223 rfl ?_
        refine wp_iadd eX6_least_224 ?_
        refine wp_top (y := nI (s + 1)) (nI_1 s) ?_
        refine wp_istore (ls' := [some (.ref 10), some (.int (nI (sMany S0 (cT S0)))), some (.int rest), some (.int (oI (bt (sPb S0) j (K + 1) (upN f K s) (foN (btG (sPb S0) j K f) b s)))), some (.int (nI (csF (sPb S0) f K))), some (.int (nI K)), some (.int (nI (tkn S0 K))), some (.int (nI (s + 1)))]) eX6_least_225 rfl rfl ?_
        have e2 : foN (btG (sPb S0) j K f) b (s + 1) = bt (sPb S0) j (K + 1) (upN f K s) (foN (btG (sPb S0) j K f) b s) := if_pos hcb
        have q := ih (s + 1) _ (by omega) (hI'.back (by omega) hcb)
        rw [e2] at q
        exact q
      · refine wp_iinc (v := nI (s + 1)) (ls' := [some (.ref 10), some (.int (nI (sMany S0 (cT S0)))), some (.int rest), some (.int (oI (foN (btG (sPb S0) j K f) b s))), some (.int (nI (csF (sPb S0) f K))), some (.int (nI K)), some (.int (nI (tkn S0 K))), some (.int (nI (s + 1)))]) eX6_least_264 rfl (nI_1 s) rfl ?_
        refine wp_goto eX6_least_267 ?_
        have nc : ¬ btC (sPb S0) f K s = true := by
          simp only [btC, decide_eq_true_eq]
          rintro ⟨z1, z2⟩
          have z3 : sSuit S0 (tkn S0 K) s = 1 := of_decide_eq_true z1
          first
          | (rw [z3] at c_244; exact absurd c_244 (by decide))
          | exact c_261 (nI_le (by omega) (by omega))
        have e2 : foN (btG (sPb S0) j K f) b (s + 1) = foN (btG (sPb S0) j K f) b s := if_neg nc
        have q := ih (s + 1) S (by omega) hI
        rw [e2] at q
        exact q

set_option maxRecDepth 4000 in
theorem lX6_btA (d : Nat) {h : Hp} (hM : MOK h) (S0 : St) (hW : MW S0) (hL : LR S0) (hm : sMany S0 (cT S0) ≤ 5) (Q : Option Value → Hp → Prop) (rest : Int32) : ∀ (j K : Nat), K + j = sMany S0 (cT S0) → BtW d h S0 Q rest j K := by
  have h11 := hW.2.1.2
  have h12 := hW.2.2.1.2
  intro j
  induction j with
  | zero =>
    intro K hK f b S x6 x7 hf hb hI h36 kx
    have hcs := cs_le hL hm (show K ≤ sMany S0 (cT S0) by omega) hf
    cases b with
    | none =>
      refine wp_iload eX6_least_123 rfl ?_
      refine wp_ifF eX6_least_125 (show ¬ ((nI K) < 0) from (nI_pos (by omega))) ?_
      refine wp_iload eX6_least_128 rfl ?_
      refine wp_iload_n eX6_least_130 rfl ?_
      refine wp_icmpF eX6_least_131 (show ¬ (¬ (nI K) = (nI (sMany S0 (cT S0)))) from (fun z => z (by rw [show K = sMany S0 (cT S0) by omega]))) ?_
      refine wp_iload_n eX6_least_134 rfl ?_
      refine wp_ifT eX6_least_135 (show (oI none) < 0 from (show oI none < 0 by decide)) ?_
      refine wp_iload eX6_least_144 rfl ?_
      refine wp_goto eX6_least_146 ?_
      refine wp_istore_n (ls' := [some (.ref 10), some (.int (nI (sMany S0 (cT S0)))), some (.int rest), some (.int (nI (csF (sPb S0) f K))), some (.int (nI (csF (sPb S0) f K))), some (.int (nI K)), x6, x7]) eX6_least_150 rfl rfl ?_
      refine wp_iinc (v := nI K + (-1)) (ls' := [some (.ref 10), some (.int (nI (sMany S0 (cT S0)))), some (.int rest), some (.int (nI (csF (sPb S0) f K))), some (.int (nI (csF (sPb S0) f K))), some (.int (nI K + (-1))), x6, x7]) eX6_least_151 rfl rfl rfl ?_
      refine wp_goto eX6_least_154 ?_
      exact kx S _ _ hI
    | some w =>
      have hw1 := hb w rfl
      show WP kX6_least (Res (d + 2)) Q 123 [some (.ref 10), some (.int (nI (sMany S0 (cT S0)))), some (.int rest), some (.int (nI w)), some (.int (nI (csF (sPb S0) f K))), some (.int (nI K)), x6, x7] [] (am_wi h S)
      refine wp_iload eX6_least_123 rfl ?_
      refine wp_ifF eX6_least_125 (show ¬ ((nI K) < 0) from (nI_pos (by omega))) ?_
      refine wp_iload eX6_least_128 rfl ?_
      refine wp_iload_n eX6_least_130 rfl ?_
      refine wp_icmpF eX6_least_131 (show ¬ (¬ (nI K) = (nI (sMany S0 (cT S0)))) from (fun z => z (by rw [show K = sMany S0 (cT S0) by omega]))) ?_
      refine wp_iload_n eX6_least_134 rfl ?_
      refine wp_ifF eX6_least_135 (show ¬ ((nI w) < 0) from (nI_pos (by omega))) ?_
      refine wp_iload eX6_least_138 rfl ?_
      refine wp_iload_n eX6_least_140 rfl ?_
      refine wp_icmp eX6_least_141 (fun (c_141 : (nI w) ≤ (nI (csF (sPb S0) f K))) => ?_) (fun (c_141 : ¬ ((nI w) ≤ (nI (csF (sPb S0) f K)))) => ?_)
      · refine wp_iload_n eX6_least_149 rfl ?_
        refine wp_istore_n (ls' := [some (.ref 10), some (.int (nI (sMany S0 (cT S0)))), some (.int rest), some (.int (nI w)), some (.int (nI (csF (sPb S0) f K))), some (.int (nI K)), x6, x7]) eX6_least_150 rfl rfl ?_
        refine wp_iinc (v := nI K + (-1)) (ls' := [some (.ref 10), some (.int (nI (sMany S0 (cT S0)))), some (.int rest), some (.int (nI w)), some (.int (nI (csF (sPb S0) f K))), some (.int (nI K + (-1))), x6, x7]) eX6_least_151 rfl rfl rfl ?_
        refine wp_goto eX6_least_154 ?_
        have e2 : bt (sPb S0) 0 K f (some w) = some (w) := by
          show some (if csF (sPb S0) f K < w then csF (sPb S0) f K else w) = _
          rw [if_neg (by have := (nI_leI (by omega) (by omega)).mp c_141; omega)]
        have q := kx S x6 x7 hI
        rw [e2] at q
        exact q
      · refine wp_iload eX6_least_144 rfl ?_
        refine wp_goto eX6_least_146 ?_
        refine wp_istore_n (ls' := [some (.ref 10), some (.int (nI (sMany S0 (cT S0)))), some (.int rest), some (.int (nI (csF (sPb S0) f K))), some (.int (nI (csF (sPb S0) f K))), some (.int (nI K)), x6, x7]) eX6_least_150 rfl rfl ?_
        refine wp_iinc (v := nI K + (-1)) (ls' := [some (.ref 10), some (.int (nI (sMany S0 (cT S0)))), some (.int rest), some (.int (nI (csF (sPb S0) f K))), some (.int (nI (csF (sPb S0) f K))), some (.int (nI K + (-1))), x6, x7]) eX6_least_151 rfl rfl rfl ?_
        refine wp_goto eX6_least_154 ?_
        have e2 : bt (sPb S0) 0 K f (some w) = some (csF (sPb S0) f K) := by
          show some (if csF (sPb S0) f K < w then csF (sPb S0) f K else w) = _
          rw [if_pos (by have : ¬ w ≤ csF (sPb S0) f K := fun z => c_141 (nI_le z (by omega)); omega)]
        have q := kx S x6 x7 hI
        rw [e2] at q
        exact q
  | succ j ih =>
    intro K hK f b S x6 x7 hf hb hI h36 kx
    have hKm : K < sMany S0 (cT S0) := by omega
    have htk := (tkn_ok hKm).1
    refine wp_iload eX6_least_123 rfl ?_
    refine wp_ifF eX6_least_125 (show ¬ ((nI K) < 0) from (nI_pos (by omega))) ?_
    refine wp_iload eX6_least_128 rfl ?_
    refine wp_iload_n eX6_least_130 rfl ?_
    refine wp_icmpT eX6_least_131 (show ¬ (nI K) = (nI (sMany S0 (cT S0))) from (by intro z; have := (nI_eq (by omega) (by omega)).mp z; omega)) ?_
    refine wp_aload_n eX6_least_157 rfl ?_
    refine wp_getR (v := 35) eX6_least_158 (show Ob (am_wi h S) 10 6 from hM.ob) rfl hM.r33 ?_
    refine wp_iload eX6_least_161 rfl ?_
    refine wp_ial (v := nI (tkn S0 K)) (t := K) eX6_least_163 (show Ar (am_wi h S) 35 7 6 from hM.a35) (by omega) rfl (hI.2.1 K hKm) ?_
    refine wp_istore (ls' := [some (.ref 10), some (.int (nI (sMany S0 (cT S0)))), some (.int rest), some (.int (oI b)), some (.int (nI (csF (sPb S0) f K))), some (.int (nI K)), some (.int (nI (tkn S0 K))), x7]) eX6_least_164 rfl rfl ?_
    refine wp_aload_n eX6_least_166 rfl ?_
    refine wp_getR (v := 36) eX6_least_167 (show Ob (am_wi h S) 10 6 from hM.ob) rfl hM.r34 ?_
    refine wp_iload eX6_least_170 rfl ?_
    refine wp_ial (v := (-1)) (t := K) eX6_least_172 (show Ar (am_wi h S) 36 7 6 from hM.a36) (by omega) rfl h36 ?_
    refine wp_ifT eX6_least_173 (show ((-1)) < 0 from (by decide)) ?_
    refine wp_aload_n eX6_least_216 rfl ?_
    refine wp_getR (v := 36) eX6_least_217 (show Ob (am_wi h S) 10 6 from hM.ob) rfl hM.r34 ?_
    refine wp_iload eX6_least_220 rfl ?_
    refine wp_ial (v := (-1)) (t := K) eX6_least_222 (show Ar (am_wi h S) 36 7 6 from hM.a36) (by omega) rfl h36 ?_
    refine wp_iconst (v := 1) eX6_least_223 rfl ?_
    refine wp_iadd eX6_least_224 ?_
    refine wp_top (y := nI 0) rfl ?_
    refine wp_istore (ls' := [some (.ref 10), some (.int (nI (sMany S0 (cT S0)))), some (.int rest), some (.int (oI b)), some (.int (nI (csF (sPb S0) f K))), some (.int (nI K)), some (.int (nI (tkn S0 K))), some (.int (nI 0))]) eX6_least_225 rfl rfl ?_
    exact lX6_btB d hM S0 hW hL hm Q rest j K f b hK hf hb (ih (K + 1) (by omega)) kx (cS S0) 0 S (by omega) hI

set_option maxRecDepth 4000 in
theorem lX6_le2 (d : Nat) {h : Hp} (hM : MOK h) (S0 : St) (hW : MW S0) (hL : LR S0) (hm : sMany S0 (cT S0) ≤ 5) (Q : Option Value → Hp → Prop) (rest : Int32) (hV : ∃ f, VlK (sPb S0) f (pbM (sPb S0))) (hq : ∀ (S : St) (v : Nat), Ag S0 S → IsL (sPb S0) v → Q (some (.int (nI v + rest))) (am_wi h S)) : ∀ (n s : Nat) (S : St), s + n = cS S0 → Ag S0 S → (∀ i, i < sMany S0 (cT S0) → S 35 i = nI (tkn S0 i)) → (∀ q, q < s → S 37 q = S0 16 q) → WP kX6_least (Res (d + 2)) Q 82 [some (.ref 10), some (.int (nI (sMany S0 (cT S0)))), some (.int rest), some (.int (nI s)), none, none, none, none] [] (am_wi h S) := by
  have h11 := hW.2.1.2
  have h12 := hW.2.2.1.2
  intro n
  induction n with
  | zero =>
    intro s S hs hag h35 h37
    refine wp_iload_n eX6_least_82 rfl ?_
    refine wp_aload_n eX6_least_83 rfl ?_
    refine wp_getI (v := S0 10 11) eX6_least_84 (show Ob (am_wi h S) 10 6 from hM.ob) rfl (congrFun (hag 10 (by decide)) 11) ?_
    refine wp_icmpT eX6_least_87 (show (S0 10 11) ≤ (nI s) from (lp_ge hW.2.1.1 (by omega) (by omega))) ?_
    refine wp_iconst (v := (-1)) eX6_least_108 rfl ?_
    refine wp_istore_n (ls' := [some (.ref 10), some (.int (nI (sMany S0 (cT S0)))), some (.int rest), some (.int ((-1))), none, none, none, none]) eX6_least_109 rfl rfl ?_
    refine wp_iconst (v := 0) eX6_least_110 rfl ?_
    refine wp_istore (ls' := [some (.ref 10), some (.int (nI (sMany S0 (cT S0)))), some (.int rest), some (.int ((-1))), some (.int 0), none, none, none]) eX6_least_111 rfl rfl ?_
    refine wp_iconst (v := 0) eX6_least_113 rfl ?_
    refine wp_istore (ls' := [some (.ref 10), some (.int (nI (sMany S0 (cT S0)))), some (.int rest), some (.int ((-1))), some (.int 0), some (.int 0), none, none]) eX6_least_114 rfl rfl ?_
    refine wp_aload_n eX6_least_116 rfl ?_
    refine wp_getR (v := 36) eX6_least_117 (show Ob (am_wi h S) 10 6 from hM.ob) rfl hM.r34 ?_
    refine wp_iconst (v := 0) eX6_least_120 rfl ?_
    refine wp_iconst (v := (-1)) eX6_least_121 rfl ?_
    refine wp_ias (t := 0) (h' := am_wi h (up2 S 36 0 ((-1)))) eX6_least_122 (show Ar (am_wi h S) 36 7 6 from hM.a36) (by omega) rfl (am_wi_set _ _ _ _ _ rfl rfl) ?_
    obtain ⟨f0, hf0⟩ := hV
    obtain ⟨v, ev, hv⟩ := bt_isL hf0 (fun _ => 0)
    have ev : bt (sPb S0) (sMany S0 (cT S0)) 0 (fun _ => 0) none = some v := ev
    refine lX6_btA d hM S0 hW hL hm Q rest (sMany S0 (cT S0)) 0 (by omega) (fun _ => 0) none _ _ _ ⟨fun i hi => by omega, fun s hs => Nat.zero_le _⟩ (fun w hw => by cases hw) ⟨hag.up (by decide), fun i hi => by rw [up2_ne (by omega)]; exact h35 i hi, fun i hi => by omega, fun q hq => by rw [up2_ne (by omega), h37 q (by omega)]; exact (hL.room hq).1⟩ up2_eq (fun S' y6 y7 hI' => ?_)
    show WP kX6_least _ _ 123 [some (.ref 10), some (.int (nI (sMany S0 (cT S0)))), some (.int rest), some (.int (oI (bt (sPb S0) (sMany S0 (cT S0)) 0 (fun _ => 0) none))), some (.int 0), some (.int (-1)), y6, y7] [] _
    rw [ev]
    refine wp_iload eX6_least_123 rfl ?_
    refine wp_ifT eX6_least_125 (show ((-1)) < 0 from (by decide)) ?_
    refine wp_iload_n eX6_least_338 rfl ?_
    refine wp_iload_n eX6_least_339 rfl ?_
    refine wp_iadd eX6_least_340 ?_
    exact wp_iret eX6_least_341 (hq S' v hI'.1 hv)
  | succ n ih =>
    intro s S hs hag h35 h37
    refine wp_iload_n eX6_least_82 rfl ?_
    refine wp_aload_n eX6_least_83 rfl ?_
    refine wp_getI (v := S0 10 11) eX6_least_84 (show Ob (am_wi h S) 10 6 from hM.ob) rfl (congrFun (hag 10 (by decide)) 11) ?_
    refine wp_icmpF eX6_least_87 (show ¬ ((S0 10 11) ≤ (nI s)) from (lp_lt hW.2.1.1 (by omega) (by omega))) ?_
    refine wp_aload_n eX6_least_90 rfl ?_
    refine wp_getR (v := 37) eX6_least_91 (show Ob (am_wi h S) 10 6 from hM.ob) rfl hM.r35 ?_
    refine wp_iload_n eX6_least_94 rfl ?_
    refine wp_aload_n eX6_least_95 rfl ?_
    refine wp_getR (v := 16) eX6_least_96 (show Ob (am_wi h S) 10 6 from hM.ob) rfl hM.r13 ?_
    refine wp_iload_n eX6_least_99 rfl ?_
    refine wp_ial (v := S0 16 s) (t := s) eX6_least_100 (show Ar (am_wi h S) 16 7 16 from hM.a16) (by omega) rfl (congrFun (hag 16 (by decide)) s) ?_
    refine wp_ias (t := s) (h' := am_wi h (up2 S 37 s (S0 16 s))) eX6_least_101 (show Ar (am_wi h S) 37 7 16 from hM.a37) (by omega) rfl (am_wi_set _ _ _ _ _ rfl rfl) ?_
    refine wp_iinc (v := nI (s + 1)) (ls' := [some (.ref 10), some (.int (nI (sMany S0 (cT S0)))), some (.int rest), some (.int (nI (s + 1))), none, none, none, none]) eX6_least_102 rfl (nI_1 s) rfl ?_
    refine wp_goto eX6_least_105 ?_
    exact ih (s + 1) _ (by omega) (hag.up (by decide)) (fun i hi => by rw [up2_ne (by omega)]; exact h35 i hi) (fun q hq => by by_cases e : q = s; (rw [e, up2_eq]); (rw [up2_ne (by omega)]; exact h37 q (by omega)))

set_option maxRecDepth 4000 in
theorem lX6_le1 (d : Nat) {h : Hp} (hM : MOK h) (S0 : St) (hW : MW S0) (hL : LR S0) (hA : OA S0) (Q : Option Value → Hp → Prop) (hV : ∃ f, VlK (sPb S0) f (pbM (sPb S0))) (hq0 : 6 ≤ sMany S0 (cT S0) → ∀ S, Ag S0 S → Q (some (.int (-1))) (am_wi h S)) (hq : ∀ (S : St) (v : Nat), sMany S0 (cT S0) ≤ 5 → Ag S0 S → IsL (sPb S0) v → Q (some (.int (nI v + sRst S0 (cT S0)))) (am_wi h S)) : ∀ (n t : Nat) (S : St), t + n = cT S0 → Ag S0 S → sMany S0 t ≤ 5 → (∀ i, i < sMany S0 t → S 35 i = nI (sNth S0 i t)) → WP kX6_least (Res (d + 2)) Q 6 [some (.ref 10), some (.int (nI (sMany S0 t))), some (.int (sRst S0 t)), some (.int (nI t)), none, none, none, none] [] (am_wi h S) := by
  have h11 := hW.2.1.2
  have h12 := hW.2.2.1.2
  intro n
  induction n with
  | zero =>
    intro t S hs hag h5 h35
    refine wp_iload_n eX6_least_6 rfl ?_
    refine wp_aload_n eX6_least_7 rfl ?_
    refine wp_getI (v := S0 10 12) eX6_least_8 (show Ob (am_wi h S) 10 6 from hM.ob) rfl (congrFun (hag 10 (by decide)) 12) ?_
    refine wp_icmpT eX6_least_11 (show (S0 10 12) ≤ (nI t) from (lp_ge hW.2.2.1.1 (by omega) (by omega))) ?_
    refine wp_iconst (v := 0) eX6_least_80 rfl ?_
    refine wp_istore_n (ls' := [some (.ref 10), some (.int (nI (sMany S0 t))), some (.int (sRst S0 t)), some (.int 0), none, none, none, none]) eX6_least_81 rfl rfl ?_
    have et : t = cT S0 := by omega
    subst et
    exact lX6_le2 d hM S0 hW hL h5 Q _ hV (fun S v a b => hq S v h5 a b) (cS S0) 0 S (by omega) hag h35 (fun q hq => by omega)
  | succ n ih =>
    intro t S hs hag h5 h35
    refine wp_iload_n eX6_least_6 rfl ?_
    refine wp_aload_n eX6_least_7 rfl ?_
    refine wp_getI (v := S0 10 12) eX6_least_8 (show Ob (am_wi h S) 10 6 from hM.ob) rfl (congrFun (hag 10 (by decide)) 12) ?_
    refine wp_icmpF eX6_least_11 (show ¬ ((S0 10 12) ≤ (nI t)) from (lp_lt hW.2.2.1.1 (by omega) (by omega))) ?_
    refine wp_aload_n eX6_least_14 rfl ?_
    refine wp_getR (v := 26) eX6_least_15 (show Ob (am_wi h S) 10 6 from hM.ob) rfl hM.r23 ?_
    refine wp_iload_n eX6_least_18 rfl ?_
    refine wp_ial (v := S0 26 t) (t := t) eX6_least_19 (show Ar (am_wi h S) 26 7 120 from hM.a26) (by omega) rfl (congrFun (hag 26 (by decide)) t) ?_
    refine wp_if eX6_least_20 (fun (c_20 : (S0 26 t) = 0) => ?_) (fun (c_20 : ¬ ((S0 26 t) = 0)) => ?_)
    · have hO := hA t (by omega) c_20
      have hO2 := hO.2
      refine wp_aload_n eX6_least_26 rfl ?_
      refine wp_getR (v := 20) eX6_least_27 (show Ob (am_wi h S) 10 6 from hM.ob) rfl hM.r17 ?_
      refine wp_aload_n eX6_least_30 rfl ?_
      refine wp_getR (v := 27) eX6_least_31 (show Ob (am_wi h S) 10 6 from hM.ob) rfl hM.r24 ?_
      refine wp_iload_n eX6_least_34 rfl ?_
      refine wp_ial (v := nI (onN S0 t)) (t := t) eX6_least_35 (show Ar (am_wi h S) 27 7 120 from hM.a27) (by omega) rfl ((congrFun (hag 27 (by decide)) t).trans hO.1) ?_
      refine wp_zal (v := S0 20 (onN S0 t)) (t := onN S0 t) eX6_least_36 (show Ar (am_wi h S) 20 8 16 from hM.a20) (by omega) rfl (congrFun (hag 20 (by decide)) (onN S0 t)) ?_
      refine wp_if eX6_least_37 (fun (c_37 : (S0 20 (onN S0 t)) = 0) => ?_) (fun (c_37 : ¬ ((S0 20 (onN S0 t)) = 0)) => ?_)
      · refine wp_iload_n eX6_least_57 rfl ?_
        refine wp_iconst (v := 5) eX6_least_58 rfl ?_
        refine wp_icmp eX6_least_59 (fun (c_59 : ¬ (nI (sMany S0 t)) = 5) => ?_) (fun (c_59 : ¬ (¬ (nI (sMany S0 t)) = 5)) => ?_)
        · refine wp_aload_n eX6_least_64 rfl ?_
          refine wp_getR (v := 35) eX6_least_65 (show Ob (am_wi h S) 10 6 from hM.ob) rfl hM.r33 ?_
          refine wp_iload_n eX6_least_68 rfl ?_
          refine wp_iload_n eX6_least_69 rfl ?_
          refine wp_ias (t := sMany S0 t) (h' := am_wi h (up2 S 35 (sMany S0 t) (nI t))) eX6_least_70 (show Ar (am_wi h S) 35 7 6 from hM.a35) (by omega) rfl (am_wi_set _ _ _ _ _ rfl rfl) ?_
          refine wp_iinc (v := nI ((sMany S0 t) + 1)) (ls' := [some (.ref 10), some (.int (nI ((sMany S0 t) + 1))), some (.int (sRst S0 t)), some (.int (nI t)), none, none, none, none]) eX6_least_71 rfl (nI_1 ((sMany S0 t))) rfl ?_
          refine wp_iinc (v := nI (t + 1)) (ls' := [some (.ref 10), some (.int (nI ((sMany S0 t) + 1))), some (.int (sRst S0 t)), some (.int (nI (t + 1))), none, none, none, none]) eX6_least_74 rfl (nI_1 t) rfl ?_
          refine wp_goto eX6_least_77 ?_
          have e1 : lsT S0 t = true := decide_eq_true ⟨c_20, c_37⟩
          have e2 : sMany S0 (t + 1) = sMany S0 t + 1 := by simp only [sMany, e1, if_true]
          have e3 : sRst S0 (t + 1) = sRst S0 t := if_neg (fun z => z.2 c_37)
          have q := ih (t + 1) (up2 S 35 (sMany S0 t) (nI t)) (by omega) (hag.up (by decide)) (by rw [e2]; have : ¬ sMany S0 t = 5 := fun z => c_59 (by rw [z]; rfl); omega) (fun i hi => by
            rw [e2] at hi
            simp only [sNth]
            by_cases e : i = sMany S0 t
            · rw [e, up2_eq, if_pos ⟨e1, rfl⟩]
            · rw [up2_ne (by omega), if_neg (fun z => e z.2.symm)]; exact h35 i (by omega))
          rw [e2, e3] at q
          exact q
        · refine wp_iconst (v := (-1)) eX6_least_62 rfl ?_
          have e1 : lsT S0 t = true := decide_eq_true ⟨c_20, c_37⟩
          have e2 : sMany S0 (t + 1) = sMany S0 t + 1 := by simp only [sMany, e1, if_true]
          have e5 : sMany S0 t = 5 := (nI_eq (by omega) (by decide)).mp ((Decidable.not_not.mp c_59).trans (show (5 : Int32) = nI 5 from rfl))
          have e6 := sMany_mono S0 (cT S0) (t + 1) (by omega)
          exact wp_iret eX6_least_63 (hq0 (by omega) S hag)
      · refine wp_iload_n eX6_least_40 rfl ?_
        refine wp_aload_n eX6_least_41 rfl ?_
        refine wp_iload_n eX6_least_42 rfl ?_
        refine wp_aload_n eX6_least_43 rfl ?_
        refine wp_getR (v := 27) eX6_least_44 (show Ob (am_wi h S) 10 6 from hM.ob) rfl hM.r24 ?_
        refine wp_iload_n eX6_least_47 rfl ?_
        refine wp_ial (v := nI (onN S0 t)) (t := t) eX6_least_48 (show Ar (am_wi h S) 27 7 120 from hM.a27) (by omega) rfl ((congrFun (hag 27 (by decide)) t).trans hO.1) ?_
        refine wp_virt (rv := (some (.int (sMis S0 t (onN S0 t))))) (h' := am_wi h S) (r := [.int (sRst S0 t)]) eX6_least_49 [.int (nI t), .int (nI (onN S0 t))] rfl rfl rfl (show Ob (am_wi h S) 10 6 from hM.ob) (rX6_misfitOnB _ hM (S := S) hag _ _ (by omega) (by omega)) ?_
        refine wp_iadd eX6_least_52 ?_
        refine wp_istore_n (ls' := [some (.ref 10), some (.int (nI (sMany S0 t))), some (.int ((sRst S0 t) + (sMis S0 t (onN S0 t)))), some (.int (nI t)), none, none, none, none]) eX6_least_53 rfl rfl ?_
        refine wp_goto eX6_least_54 ?_
        refine wp_iinc (v := nI (t + 1)) (ls' := [some (.ref 10), some (.int (nI (sMany S0 t))), some (.int ((sRst S0 t) + (sMis S0 t (onN S0 t)))), some (.int (nI (t + 1))), none, none, none, none]) eX6_least_74 rfl (nI_1 t) rfl ?_
        refine wp_goto eX6_least_77 ?_
        have e1 : ¬ lsT S0 t = true := fun z => c_37 (of_decide_eq_true z).2
        have e2 : sMany S0 (t + 1) = sMany S0 t := by simp only [sMany]; rw [if_neg e1, Nat.add_zero]
        have e3 : sRst S0 (t + 1) = sRst S0 t + sMis S0 t (onN S0 t) := if_pos ⟨c_20, c_37⟩
        have q := ih (t + 1) S (by omega) hag (by rw [e2]; exact h5) (fun i hi => by
          rw [e2] at hi
          simp only [sNth]
          rw [if_neg (fun z => e1 z.1)]
          exact h35 i hi)
        rw [e2, e3] at q
        exact q
    · refine wp_goto eX6_least_23 ?_
      refine wp_iinc (v := nI (t + 1)) (ls' := [some (.ref 10), some (.int (nI (sMany S0 t))), some (.int (sRst S0 t)), some (.int (nI (t + 1))), none, none, none, none]) eX6_least_74 rfl (nI_1 t) rfl ?_
      refine wp_goto eX6_least_77 ?_
      have e1 : ¬ lsT S0 t = true := fun z => c_20 (of_decide_eq_true z).1
      have e2 : sMany S0 (t + 1) = sMany S0 t := by simp only [sMany]; rw [if_neg e1, Nat.add_zero]
      have e3 : sRst S0 (t + 1) = sRst S0 t := if_neg (fun z => c_20 z.1)
      have q := ih (t + 1) S (by omega) hag (by rw [e2]; exact h5) (fun i hi => by
        rw [e2] at hi
        simp only [sNth]
        rw [if_neg (fun z => e1 z.1)]
        exact h35 i hi)
      rw [e2, e3] at q
      exact q

set_option maxRecDepth 4000 in
theorem rX6_least (d : Nat) {h : Hp} (hM : MOK h) (S : St) (hW : MW S) (hL : LR S) (hA : OA S) (hV : ∃ f, VlK (sPb S) f (pbM (sPb S))) : ∃ rv h', (∃ S', Ag S S' ∧ h' = am_wi h S' ∧ ((6 ≤ sMany S (cT S) ∧ rv = some (.int (-1))) ∨ (sMany S (cT S) ≤ 5 ∧ ∃ v, IsL (sPb S) v ∧ rv = some (.int (nI v + sRst S (cT S)))))) ∧ Res (d + 3) nX6_least [.ref 10] (am_wi h S) rv h' := by
  refine Res_ex (P := fun rv h' => ∃ S', Ag S S' ∧ h' = am_wi h S' ∧ ((6 ≤ sMany S (cT S) ∧ rv = some (.int (-1))) ∨ (sMany S (cT S) ≤ 5 ∧ ∃ v, IsL (sPb S) v ∧ rv = some (.int (nI v + sRst S (cT S)))))) (ls := [some (.ref 10), none, none, none, none, none, none, none]) aX6_least rfl rfl rfl rfl ?_
  show WP kX6_least _ _ _ _ _ _
  refine wp_iconst (v := 0) eX6_least_0 rfl ?_
  refine wp_istore_n (ls' := [some (.ref 10), some (.int 0), none, none, none, none, none, none]) eX6_least_1 rfl rfl ?_
  refine wp_iconst (v := 0) eX6_least_2 rfl ?_
  refine wp_istore_n (ls' := [some (.ref 10), some (.int 0), some (.int 0), none, none, none, none, none]) eX6_least_3 rfl rfl ?_
  refine wp_iconst (v := 0) eX6_least_4 rfl ?_
  refine wp_istore_n (ls' := [some (.ref 10), some (.int 0), some (.int 0), some (.int 0), none, none, none, none]) eX6_least_5 rfl rfl ?_
  exact lX6_le1 d hM S hW hL hA _ hV (fun h6 S' a => ⟨S', a, rfl, Or.inl ⟨h6, rfl⟩⟩) (fun S' v h5 a b => ⟨S', a, rfl, Or.inr ⟨h5, v, b, rfl⟩⟩) (cT S) 0 S (by omega) (fun _ _ => rfl) (by show 0 ≤ 5; omega) (fun i hi => absurd hi (Nat.not_lt_zero _))
