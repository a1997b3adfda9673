/-! THE INSTRUCTIONS THAT READ AND WRITE ARRAYS, WRITE FIELDS, MAKE CELLS -/
theorem am_tyA (cy : Nat → ClassId) {K : Nat} (h1 : 9 ≤ K) (h2 : K ≤ 12) : (am_tys cy)[K - 7]? = some (cy K, .object (am_C (am_el K))) := by
  match K, h1, h2 with
  | 9, _, _ => rfl
  | 10, _, _ => rfl
  | 11, _, _ => rfl
  | 12, _, _ => rfl
theorem am_el7 {K : Nat} : am_el K < 7 := by unfold am_el; split <;> decide
theorem am_inst : ∀ ci, ci < 7 → Jvm.Cond.instantiable (am_C ci) (am_N ci) ∈ am_tbl ∧ Jvm.Cond.initialized (am_C ci) ∈ am_tbl := by
  intro ci h
  have key : ∀ w : Jvm.Cond, (decide (w ∈ lw_tbl) && goodWord w) = true → w ∈ am_tbl := by
    intro w h1
    simp only [Bool.and_eq_true, decide_eq_true_eq] at h1
    exact List.mem_filter.mpr h1
  match ci, h with
  | 0, _ => exact ⟨key _ (by decide +kernel), key _ (by decide +kernel)⟩
  | 1, _ => exact ⟨key _ (by decide +kernel), key _ (by decide +kernel)⟩
  | 2, _ => exact ⟨key _ (by decide +kernel), key _ (by decide +kernel)⟩
  | 3, _ => exact ⟨key _ (by decide +kernel), key _ (by decide +kernel)⟩
  | 4, _ => exact ⟨key _ (by decide +kernel), key _ (by decide +kernel)⟩
  | 5, _ => exact ⟨key _ (by decide +kernel), key _ (by decide +kernel)⟩
  | 6, _ => exact ⟨key _ (by decide +kernel), key _ (by decide +kernel)⟩
  | n + 7, h => omega
theorem am_arrI : Jvm.Cond.arrayClass .int ∈ am_tbl := am_at_mem (i := 79) (by decide +kernel)
theorem am_arrZ : Jvm.Cond.arrayClass .boolean ∈ am_tbl := am_at_mem (i := 678) (by decide +kernel)
section AH
variable {p : Program} {l : Launch} {e : Env} {R : Room} {s : State} {m : MethodId} {args : Array Value} {below : List Frame} {meth : Method} {c : Code} {Q : State → Prop} {M : am_M} {D : va_G} {cy : Nat → ClassId} {b base d : Nat} {Cal : am_Ct} {hs : Hp}
variable {pc : Nat} {ls : am_Ls} {st : List Value} {h : Hp}
theorem am_ad_base {a : Nat} (ha : 0 < a) : base ≤ am_ad b base a := by unfold am_ad; rw [if_neg (by omega)]; omega
theorem am_cell_int {h : Hp} {a : Nat} (hk : am_k h a = 7) : am_cell cy b base h a = .inl (cy 7, am_l h a, .inl (am_i h a)) := by unfold am_cell; rw [hk]; rfl
theorem am_cell_bool {h : Hp} {a : Nat} (hk : am_k h a = 8) : am_cell cy b base h a = .inl (cy 8, am_l h a, .inl (am_i h a)) := by unfold am_cell; rw [hk]; rfl
theorem am_cell_ref {h : Hp} {a : Nat} (h1 : 9 ≤ am_k h a) : am_cell cy b base h a = .inl (cy (am_k h a), am_l h a, .inr (.inr (.inr (.inr (fun j => am_cr b base (am_r h a j)))))) := by unfold am_cell; rw [if_neg (by omega), if_neg (by omega)]
theorem as_iaload (X : am_Cx p l R s m args meth c M D cy b base d Cal) (hd : decode M.2.1 pc = .ok (.iaload, 1)) {a : Nat} {i : Int32} (han : a < am_n h) (hk : am_k h a = 7) (hin : vp_in i (am_l h a)) (kk : am_G p l e R s m args below meth c Q M D cy b base hs (pc + 1) ls (.int (am_i h a i.toNatClampNeg) :: st) h) : am_G p l e R s m args below meth c Q M D cy b base hs pc ls (.int i :: .ref a :: st) h := by
  intro hn hz hll H locs LS hR hS hL
  obtain ⟨hx, hb, hml, hown, hts, hin2, hK, X⟩ := X
  have k1 := kk hn hz hll H locs LS hR hS hL
  by_cases ha : a = 0
  · subst ha
    obtain ⟨scr, h1, h2, h3, h4, h5⟩ := hR.2.2.2.2.1
    have hlt : i.toNatClampNeg < am_l h 0 := Nat.not_le.mp fun q => hin (Or.inr q)
    exact W.iald (v := .int (am_i h 0 i.toNatClampNeg)) hx hb h1 h2 h3 (by rw [h4]; exact hin) (h5 _ hlt) rfl rfl hd k1
  · have hat := hR.2.2.2.2.2 a (by omega) han
    rw [am_cell_int hk] at hat
    exact va_iald hx hb hK.1 (am_one hat) 0 0 rfl rfl hin hd k1
theorem as_baload (X : am_Cx p l R s m args meth c M D cy b base d Cal) (hd : decode M.2.1 pc = .ok (.baload, 1)) {a : Nat} {i : Int32} (ha : 0 < a) (han : a < am_n h) (hk : am_k h a = 8) (hin : vp_in i (am_l h a)) (kk : am_G p l e R s m args below meth c Q M D cy b base hs (pc + 1) ls (.int (am_i h a i.toNatClampNeg) :: st) h) : am_G p l e R s m args below meth c Q M D cy b base hs pc ls (.int i :: .ref a :: st) h := by
  intro hn hz hll H locs LS hR hS hL
  obtain ⟨hx, hb, hml, hown, hts, hin2, hK, X⟩ := X
  have hat := hR.2.2.2.2.2 a ha han
  rw [am_cell_bool hk] at hat
  exact va_zald hx hb hK.1 (am_one hat) 0 1 rfl rfl hin hd (kk hn hz hll H locs LS hR hS hL)
theorem as_aaload (X : am_Cx p l R s m args meth c M D cy b base d Cal) (hd : decode M.2.1 pc = .ok (.aaload, 1)) {a : Nat} {i : Int32} (ha : 0 < a) (han : a < am_n h) (hk1 : 9 ≤ am_k h a) (hk2 : am_k h a ≤ 12) (hin : vp_in i (am_l h a)) (kk : am_G p l e R s m args below meth c Q M D cy b base hs (pc + 1) ls (va_rf (am_r h a i.toNatClampNeg) :: st) h) : am_G p l e R s m args below meth c Q M D cy b base hs pc ls (.int i :: .ref a :: st) h := by
  intro hn hz hll H locs LS hR hS hL
  obtain ⟨hx, hb, hml, hown, hts, hin2, hK, X⟩ := X
  have hat := hR.2.2.2.2.2 a ha han
  rw [am_cell_ref hk1] at hat
  refine va_aldq hx hb hK.1 (am_one hat) 0 (am_k h a - 7) rfl (am_tyA cy hk1 hk2) hin hd ?_
  rw [← am_cv_rf]
  exact kk hn hz hll H locs LS hR hS hL
theorem as_alen (X : am_Cx p l R s m args meth c M D cy b base d Cal) (hd : decode M.2.1 pc = .ok (.arraylength, 1)) {a : Nat} (han : a < am_n h) (hk1 : 7 ≤ am_k h a) (hk2 : am_k h a ≤ 12) (kk : am_G p l e R s m args below meth c Q M D cy b base hs (pc + 1) ls (.int (Int32.ofNat (am_l h a)) :: st) h) : am_G p l e R s m args below meth c Q M D cy b base hs pc ls (.ref a :: st) h := by
  intro hn hz hll H locs LS hR hS hL
  obtain ⟨hx, hb, hml, hown, hts, hin2, hK, X⟩ := X
  have k1 := kk hn hz hll H locs LS hR hS hL
  by_cases ha : a = 0
  · subst ha
    obtain ⟨scr, h1, h2, h3, h4, h5⟩ := hR.2.2.2.2.1
    exact W.alen (n := Int32.ofNat (am_l h 0)) hx hb h1 h2 (by rw [h4] <;> rfl) rfl rfl hd k1
  · have hat := hR.2.2.2.2.2 a (by omega) han
    by_cases e7 : am_k h a = 7
    · rw [am_cell_int e7] at hat
      exact va_alen hx hb hK.1 (am_one hat) 0 0 rfl rfl rfl hd k1
    · by_cases e8 : am_k h a = 8
      · rw [am_cell_bool e8] at hat
        exact va_alen hx hb hK.1 (am_one hat) 0 1 rfl rfl rfl hd k1
      · rw [am_cell_ref (by omega)] at hat
        exact va_alen hx hb hK.1 (am_one hat) 0 (am_k h a - 7) rfl (am_tyA cy (by omega) hk2) rfl hd k1
theorem am_cell_setI_ne {h : Hp} {a k x : Nat} {v : Int32} (e : x ≠ a) : am_cell cy b base (am_setI h a k v) x = am_cell cy b base h x := by
  have k1 : am_k (am_setI h a k v) x = am_k h x := rfl
  have k2 : am_l (am_setI h a k v) x = am_l h x := rfl
  have k3 : am_i (am_setI h a k v) x = am_i h x := by funext j; show (if x = a ∧ j = k then v else am_i h x j) = _; rw [if_neg (fun z => e z.1)]
  have k4 : am_r (am_setI h a k v) x = am_r h x := rfl
  simp only [am_cell, am_fs, am_fv, k1, k2, k3, k4]
theorem am_cell_setR_ne {h : Hp} {a k x : Nat} {v : Option Nat} (e : x ≠ a) : am_cell cy b base (am_setR h a k v) x = am_cell cy b base h x := by
  have k1 : am_k (am_setR h a k v) x = am_k h x := rfl
  have k2 : am_l (am_setR h a k v) x = am_l h x := rfl
  have k3 : am_i (am_setR h a k v) x = am_i h x := rfl
  have k4 : am_r (am_setR h a k v) x = am_r h x := by funext j; show (if x = a ∧ j = k then v else am_r h x j) = _; rw [if_neg (fun z => e z.1)]
  simp only [am_cell, am_fs, am_fv, k1, k2, k3, k4]
theorem am_R.setI {U : State} {h : Hp} {H H1 : Heap} {a k : Nat} {v : Int32} (hR : am_R D cy b base U h H) (ha : 0 < a) (hat : va_at D vwCl (am_ad b base a, am_cell cy b base (am_setI h a k v) a) H1) (hz : H1.size = H.size) (ho : ∀ q, q ≠ am_ad b base a → H1[q]? = H[q]?) : am_R D cy b base U (am_setI h a k v) H1 :=
  hR.upd ha rfl rfl rfl (by funext j; show (if 0 = a ∧ j = k then v else am_i h 0 j) = _; rw [if_neg (by omega)]) (fun x e => am_cell_setI_ne e) hat hz ho
theorem am_R.setR {U : State} {h : Hp} {H H1 : Heap} {a k : Nat} {v : Option Nat} (hR : am_R D cy b base U h H) (ha : 0 < a) (hat : va_at D vwCl (am_ad b base a, am_cell cy b base (am_setR h a k v) a) H1) (hz : H1.size = H.size) (ho : ∀ q, q ≠ am_ad b base a → H1[q]? = H[q]?) : am_R D cy b base U (am_setR h a k v) H1 :=
  hR.upd ha rfl rfl rfl rfl (fun x e => am_cell_setR_ne e) hat hz ho
theorem as_iastore (X : am_Cx p l R s m args meth c M D cy b base d Cal) (hd : decode M.2.1 pc = .ok (.iastore, 1)) {a : Nat} {i x : Int32} (ha : 0 < a) (han : a < am_n h) (hk : am_k h a = 7) (hin : vp_in i (am_l h a)) (kk : am_G p l e R s m args below meth c Q M D cy b base hs (pc + 1) ls st (am_setI h a i.toNatClampNeg x)) : am_G p l e R s m args below meth c Q M D cy b base hs pc ls (.int x :: .int i :: .ref a :: st) h := by
  intro hn hz hll H locs LS hR hS hL
  obtain ⟨hx, hb, hml, hown, hts, hin2, hK, X⟩ := X
  have hat := hR.2.2.2.2.2 a ha han
  rw [am_cell_int hk] at hat
  have hcell : H[am_ad b base a]? = some (arrV (cy 7) (am_l h a) (fun j => .int (am_i h a j))) := hat
  refine W.iast hx hb hcell ((hK.1.2 0 (cy 7, .int) rfl).1 _ _) (fun q => by cases q) (by rw [arrV_size]; exact hin) rfl rfl hd fun H1 e1 z oq => ?_
  refine kk hn hz hll H1 _ LS (hR.setI ha ?_ z oq) (hS.put z oq (am_ad_base ha)) hL
  rw [am_cell_int (show am_k (am_setI h a i.toNatClampNeg x) a = 7 from hk)]
  show H1[am_ad b base a]? = some (arrV (cy 7) (am_l h a) (fun j => .int (am_i (am_setI h a i.toNatClampNeg x) a j)))
  rw [e1, arrV_store]
  congr 2
  funext q
  by_cases hq : q = i.toNatClampNeg
  · subst hq; simp [updV, am_setI, am_i]
  · simp [updV, am_setI, am_i, hq]
theorem as_bastore (X : am_Cx p l R s m args meth c M D cy b base d Cal) (hd : decode M.2.1 pc = .ok (.bastore, 1)) {a : Nat} {i x : Int32} (ha : 0 < a) (han : a < am_n h) (hk : am_k h a = 8) (hin : vp_in i (am_l h a)) (hx01 : x = 0 ∨ x = 1) (kk : am_G p l e R s m args below meth c Q M D cy b base hs (pc + 1) ls st (am_setI h a i.toNatClampNeg x)) : am_G p l e R s m args below meth c Q M D cy b base hs pc ls (.int x :: .int i :: .ref a :: st) h := by
  intro hn hz hll H locs LS hR hS hL
  obtain ⟨hx, hb, hml, hown, hts, hin2, hK, X⟩ := X
  have hat := hR.2.2.2.2.2 a ha han
  rw [am_cell_bool hk] at hat
  have hcell : H[am_ad b base a]? = some (arrV (cy 8) (am_l h a) (fun j => .int (am_i h a j))) := hat
  have hnar : narrow .boolean (.int x) = .int x := by rcases hx01 with rfl | rfl <;> rfl
  refine W.zast hx hb hcell ((hK.1.2 1 (cy 8, .boolean) rfl).1 _ _) (fun q => by cases q) (by rw [arrV_size]; exact hin) rfl rfl hd fun H1 e1 z oq => ?_
  rw [hnar] at e1
  refine kk hn hz hll H1 _ LS (hR.setI ha ?_ z oq) (hS.put z oq (am_ad_base ha)) hL
  rw [am_cell_bool (show am_k (am_setI h a i.toNatClampNeg x) a = 8 from hk)]
  show H1[am_ad b base a]? = some (arrV (cy 8) (am_l h a) (fun j => .int (am_i (am_setI h a i.toNatClampNeg x) a j)))
  rw [e1, arrV_store]
  congr 2
  funext q
  by_cases hq : q = i.toNatClampNeg
  · subst hq; simp [updV, am_setI, am_i]
  · simp [updV, am_setI, am_i, hq]
theorem as_aastore (X : am_Cx p l R s m args meth c M D cy b base d Cal) (hd : decode M.2.1 pc = .ok (.aastore, 1)) {a v : Nat} {i : Int32} (ha : 0 < a) (han : a < am_n h) (hk1 : 9 ≤ am_k h a) (hk2 : am_k h a ≤ 12) (hv : 0 < v) (hvn : v < am_n h) (hkv : am_k h v = am_el (am_k h a)) (hin : vp_in i (am_l h a)) (kk : am_G p l e R s m args below meth c Q M D cy b base hs (pc + 1) ls st (am_setR h a i.toNatClampNeg (some v))) : am_G p l e R s m args below meth c Q M D cy b base hs pc ls (.ref v :: .int i :: .ref a :: st) h := by
  intro hn hz hll H locs LS hR hS hL
  obtain ⟨hx, hb, hml, hown, hts, hin2, hK, X⟩ := X
  have hat := hR.2.2.2.2.2 a ha han
  rw [am_cell_ref hk1] at hat
  have hatv := hR.2.2.2.2.2 v hv hvn
  rw [am_cell_obj hkv am_el7] at hatv
  have hcell : H[am_ad b base a]? = some (arrV (cy (am_k h a)) (am_l h a) (fun j => va_rf (am_cr b base (am_r h a j)))) := hat
  obtain ⟨r', hr', cellV, g1, g2, g3, -⟩ := hatv
  have hcls := (hK.1.1 _ _ (am_cl (am_el (am_k h a)) am_el7)).2
  obtain ⟨kA, comp, j1, j2, j3, -⟩ := (hK.1.2 _ _ (am_tyA cy hk1 hk2)).2
  have hcomp : comp = D.1 (am_el (am_k h a)) := Option.some.inj (j3.symm.trans hcls.1)
  subst hcomp
  obtain ⟨kC, hkC, hkCk⟩ := hcls.2
  have h0 : ¬ i < 0 := fun q => hin (Or.inl q)
  have hlt : i.toNatClampNeg < am_l h a := Nat.not_le.mp fun q => hin (Or.inr q)
  refine W.aast hx hb hcell (fun q h => by cases h) (fun h => by cases h) j1 j2 rfl hkC ⟨h0, by rw [arrV_size]; exact hlt⟩ g1 (fun q h => by rw [g3] at h; cases h) (by rw [g2]; exact hkC) (by rw [g2]; exact va_assign hcls) rfl rfl hd fun H1 e1 z oq => ?_
  refine kk hn hz hll H1 _ LS (hR.setR ha ?_ z oq) (hS.put z oq (am_ad_base ha)) hL
  rw [am_cell_ref (show 9 ≤ am_k (am_setR h a i.toNatClampNeg (some v)) a from hk1)]
  show H1[am_ad b base a]? = some (arrV (cy (am_k h a)) (am_l h a) (fun j => va_rf (am_cr b base (am_r (am_setR h a i.toNatClampNeg (some v)) a j))))
  rw [e1, arrV_store]
  congr 2
  funext q
  by_cases hq : q = i.toNatClampNeg
  · subst hq; simp [updV, am_setR, am_r, am_cr, va_rf]
  · simp [updV, am_setR, am_r, hq]
theorem am_putW (X : am_Cx p l R s m args meth c M D cy b base d Cal) {idx ci k : Nat} (hci : ci < 7) (hk : k < am_N ci) (hw : Jvm.Cond.fieldLink M.2.2.2.2.1 idx (am_T ci k).1 (am_T ci k).2.1 (am_T ci k).2.2.1 ∈ am_tbl) (hfin : (am_T ci k).2.2.2 = true → (am_T ci k).1 = M.2.2.2.2.1 ∧ M.1.name = "<init>") (hd : decode M.2.1 pc = .ok (.putfield idx, 3))
    {H : Heap} {locs : List Loc} {LS : Array Slot} {cells slots q : Nat} {rest fs : List Value} {v : Value} (hat : va_at D vwCl (q, .inr (ci, fs)) H) (hq : base ≤ q) (hS : va_S (fun q => base ≤ q) s.heap H locs) (hnar : narrow (am_ty ci k) v = v) (hfit : fits (am_ty ci k) v = true) (hl : k < fs.length)
    (kk : ∀ (H1 : Heap) (locs1 : List Loc), va_at D vwCl (q, .inr (ci, fs.set k v)) H1 → H1.size = H.size → (∀ x, x ≠ q → H1[x]? = H[x]?) → va_S (fun q => base ≤ q) s.heap H1 locs1 → W p l e R s m args below meth c H1 locs1 cells slots Q (F0 m (pc + 3) LS rest)) : W p l e R s m args below meth c H locs cells slots Q (F0 m pc LS (v :: .ref q :: rest)) := by
  obtain ⟨hx, hb, hml, hown, hts, hin2, hK, X⟩ := X
  have hap := va_apart (own := M.2.2.2.2.1) hts (am_in ci hci) (am_ty ci) (am_tyok ci hci) (am_nm ci hci) hK.1 (am_cl ci hci)
  obtain ⟨r, h1, cell, q1, q2, q3, q4⟩ := hat
  have hr : r = (am_C ci, am_T ci, am_N ci) := Option.some.inj (h1.symm.trans (am_cl ci hci))
  subst hr
  obtain ⟨hSl, hfc, kC, hkC, hkind⟩ := hK.1.1 ci _ (am_cl ci hci)
  obtain ⟨cf, kf, fi, f, hi, hsl⟩ := hSl k hk
  have hlay := hts _ (am_in ci hci _ (u_in_lay hk))
  have hst := (u_facts hfc hkC (u_lays hts (am_in ci hci) hk) hi).1
  cases hf : (am_T ci k).2.2.2 with
  | false =>
    unfold u_lay at hlay
    rw [if_neg (by rw [hf]; decide)] at hlay
    have h6 := u_store hfc hkC hkind hlay hi (am_tyok ci hci k hk) hnar hfit
    refine W.putK hx hb (f := f) ⟨hown, hts _ hw, ⟨_, _, _, hi⟩, hst⟩ (by rw [q2]; exact h6) q1 q3 (by rw [hsl]; exact k2_hasslot (q4 k hk)) rfl rfl hd fun H' e1 e2 e3 => ?_
    rw [hsl] at e1 ⊢
    exact kk H' _ ⟨_, am_cl ci hci, t_OB.to (V := updV (vp_V fs) k v) ⟨_, e1, q2, q3, t_set q4 hap hk v⟩ (fun j _ => vp_updV_set hl v j)⟩ e2 e3 (hS.put e2 e3 hq)
  | true =>
    obtain ⟨f1, f2⟩ := hfin hf
    unfold u_lay at hlay
    rw [if_pos hf] at hlay
    have hcf : m.cls = cf := by
      obtain ⟨_, _, c', _, _, _, -, -, hf', -, -, -, hown2, -⟩ := Cond.laysFinal_spec hlay
      have e1 : c' = cf := by have := hi.symm.trans hf'; simp at this; exact this.1.symm
      rw [f1] at hown2
      rw [← e1]; exact Option.some.inj (hown.symm.trans hown2)
    have h6 := u_fits hfc hkC hkind (Or.inr hlay) hi (am_tyok ci hci k hk) hnar hfit
    refine W.putFinK hx hb hown (hts _ hw) hi hst hcf (hin2 f2) (by rw [q2]; exact h6) q1 q3 (by rw [hsl]; exact k2_hasslot (q4 k hk)) rfl rfl hd fun H' e1 e2 e3 => ?_
    rw [hsl] at e1 ⊢
    exact kk H' _ ⟨_, am_cl ci hci, t_OB.to (V := updV (vp_V fs) k v) ⟨_, e1, q2, q3, t_set q4 hap hk v⟩ (fun j _ => vp_updV_set hl v j)⟩ e2 e3 (hS.put e2 e3 hq)
theorem am_fs_len {h : Hp} {a ci : Nat} : (am_fs b base h a ci).length = am_N ci := by simp [am_fs]
theorem am_fs_setR {h : Hp} {a ci k : Nat} {x : Option Nat} (hk : k < am_N ci) (hf : am_ft ci k = 2) : (am_fs b base h a ci).set k (am_cv b base (va_rf x)) = am_fs b base (am_setR h a k x) a ci := by
  apply List.ext_getElem?
  intro j
  by_cases hj : j < am_N ci
  · rw [am_fs_get hj]
    by_cases e : j = k
    · subst e
      rw [List.getElem?_set_self (by rw [am_fs_len]; exact hk)]
      simp [am_fv, hf, am_setR, am_r]
    · rw [List.getElem?_set_ne (Ne.symm e), am_fs_get hj]
      simp [am_fv, am_setR, am_r, am_i, e]
  · rw [List.getElem?_eq_none (by rw [List.length_set, am_fs_len]; omega), List.getElem?_eq_none (by rw [am_fs_len]; omega)]
theorem am_fs_setI {h : Hp} {a ci k : Nat} {x : Int32} (hk : k < am_N ci) (hf : am_ft ci k < 2) : (am_fs b base h a ci).set k (.int x) = am_fs b base (am_setI h a k x) a ci := by
  apply List.ext_getElem?
  intro j
  by_cases hj : j < am_N ci
  · rw [am_fs_get hj]
    by_cases e : j = k
    · subst e
      rw [List.getElem?_set_self (by rw [am_fs_len]; exact hk)]
      have hf2 : ¬ am_ft ci j = 2 := by omega
      simp [am_fv, hf2, am_setI, am_i, am_cv]
    · rw [List.getElem?_set_ne (Ne.symm e), am_fs_get hj]
      simp [am_fv, am_setI, am_r, am_i, e]
  · rw [List.getElem?_eq_none (by rw [List.length_set, am_fs_len]; omega), List.getElem?_eq_none (by rw [am_fs_len]; omega)]
theorem as_putR (X : am_Cx p l R s m args meth c M D cy b base d Cal) {idx ci k : Nat} (hci : ci < 7) (hk : k < am_N ci) (hw : Jvm.Cond.fieldLink M.2.2.2.2.1 idx (am_T ci k).1 (am_T ci k).2.1 (am_T ci k).2.2.1 ∈ am_tbl) (hfin : (am_T ci k).2.2.2 = true → (am_T ci k).1 = M.2.2.2.2.1 ∧ M.1.name = "<init>") (hd : decode M.2.1 pc = .ok (.putfield idx, 3))
    {a : Nat} {x : Option Nat} (hft : am_ft ci k = 2) (ha : 0 < a) (han : a < am_n h) (hka : am_k h a = ci) (kk : am_G p l e R s m args below meth c Q M D cy b base hs (pc + 3) ls st (am_setR h a k x)) : am_G p l e R s m args below meth c Q M D cy b base hs pc ls (va_rf x :: .ref a :: st) h := by
  intro hn hz hll H locs LS hR hS hL
  have hat := hR.2.2.2.2.2 a ha han
  rw [am_cell_obj hka hci] at hat
  have hnf : narrow (am_ty ci k) (am_cv b base (va_rf x)) = am_cv b base (va_rf x) ∧ fits (am_ty ci k) (am_cv b base (va_rf x)) = true := by
    rw [am_cv_rf]
    rcases am_tyk ci hci k hk with e | e | ⟨n, e⟩ | ⟨t, e⟩
    · simp [am_ft, e] at hft
    · simp [am_ft, e] at hft
    · rw [e]; cases x <;> exact ⟨rfl, rfl⟩
    · rw [e]; cases x <;> exact ⟨rfl, rfl⟩
  refine am_putW X hci hk hw hfin hd hat (am_ad_base ha) hS hnf.1 hnf.2 (by rw [am_fs_len]; exact hk) fun H1 locs1 g1 g2 g3 g4 => ?_
  rw [am_fs_setR hk hft] at g1
  refine kk hn hz hll H1 locs1 LS (hR.setR ha ?_ g2 g3) g4 hL
  rw [am_cell_obj (show am_k (am_setR h a k x) a = ci from hka) hci]
  exact g1
theorem as_putI (X : am_Cx p l R s m args meth c M D cy b base d Cal) {idx ci k : Nat} (hci : ci < 7) (hk : k < am_N ci) (hw : Jvm.Cond.fieldLink M.2.2.2.2.1 idx (am_T ci k).1 (am_T ci k).2.1 (am_T ci k).2.2.1 ∈ am_tbl) (hfin : (am_T ci k).2.2.2 = true → (am_T ci k).1 = M.2.2.2.2.1 ∧ M.1.name = "<init>") (hd : decode M.2.1 pc = .ok (.putfield idx, 3))
    {a : Nat} {x : Int32} (hft : am_ft ci k < 2) (hx1 : am_ft ci k = 1 → x = 0 ∨ x = 1) (ha : 0 < a) (han : a < am_n h) (hka : am_k h a = ci) (kk : am_G p l e R s m args below meth c Q M D cy b base hs (pc + 3) ls st (am_setI h a k x)) : am_G p l e R s m args below meth c Q M D cy b base hs pc ls (.int x :: .ref a :: st) h := by
  intro hn hz hll H locs LS hR hS hL
  have hat := hR.2.2.2.2.2 a ha han
  rw [am_cell_obj hka hci] at hat
  have hnf : narrow (am_ty ci k) (.int x) = .int x ∧ fits (am_ty ci k) (.int x) = true := by
    rcases am_tyk ci hci k hk with e | e | ⟨n, e⟩ | ⟨t, e⟩
    · rw [e]; exact ⟨rfl, rfl⟩
    · rw [e]
      rcases hx1 (by simp [am_ft, e]) with rfl | rfl <;> exact ⟨rfl, rfl⟩
    · simp [am_ft, e] at hft
    · simp [am_ft, e] at hft
  refine am_putW X hci hk hw hfin hd hat (am_ad_base ha) hS hnf.1 hnf.2 (by rw [am_fs_len]; exact hk) fun H1 locs1 g1 g2 g3 g4 => ?_
  rw [show am_cv b base (Value.int x) = Value.int x from rfl, am_fs_setI hk hft] at g1
  refine kk hn hz hll H1 locs1 LS (hR.setI ha ?_ g2 g3) g4 hL
  rw [am_cell_obj (show am_k (am_setI h a k x) a = ci from hka) hci]
  exact g1
theorem am_count {N0 n1 n2 n3 : Nat} (h1 : n1 ≤ n2) (h2 : n2 + N0 = n3) : n2 - n1 + N0 = n3 - n1 := by omega
theorem as_new (X : am_Cx p l R s m args meth c M D cy b base d Cal) {idx ci : Nat} (hci : ci < 7) (hw : Jvm.Cond.classLink M.2.2.2.2.1 idx (am_C ci) ∈ am_tbl) (hd : decode M.2.1 pc = .ok (.new idx, 3)) (hrc : am_n h + 1 ≤ am_n hs + R.cells) (hrs : am_z h + am_N ci ≤ am_z hs + R.slots)
    (kk : am_G p l e R s m args below meth c Q M D cy b base hs (pc + 3) ls (.ref (am_n h) :: st) (am_new h ci 0 (am_N ci))) : am_G p l e R s m args below meth c Q M D cy b base hs pc ls st h := by
  intro hn hz hll H locs LS hR hS hL
  obtain ⟨hx, hb, hml, hown, hts, hin2, hK, X⟩ := X
  have hKn := hK.1.1 ci _ (am_cl ci hci)
  refine W.newcK hx hb hown (hts _ hw) (hts _ (am_inst ci hci).1) (hts _ (am_inst ci hci).2) rfl hd (by omega) (by omega) hKn.2.1 rfl fun H1 kC hkC e1 z1 o1 => ?_
  have hob := u_born (am_ty ci) hts (am_in ci hci) hKn hkC e1 (am_tyok ci hci)
  have hk2 : am_k (am_new h ci 0 (am_N ci)) (am_n h) = ci := by show (if am_n h = am_n h then ci else _) = ci; rw [if_pos rfl]
  have hat : va_at D vwCl (H.size, am_cell cy b base (am_new h ci 0 (am_N ci)) (am_n h)) H1 := by
    rw [am_cell_obj hk2 hci]
    refine ⟨_, am_cl ci hci, hob.to (fun j hj => ?_)⟩
    unfold vp_V
    rw [List.getD_eq_getElem?_getD, am_fs_get hj]
    rcases am_tyk ci hci j hj with e | e | ⟨n, e⟩ | ⟨t, e⟩
    · simp [am_fv, am_ft, e, am_new, am_i, am_cv, defaultValue]
    · simp [am_fv, am_ft, e, am_new, am_i, am_cv, defaultValue]
    · simp [am_fv, am_ft, e, am_new, am_r, am_cv, defaultValue, va_rf]
    · simp [am_fv, am_ft, e, am_new, am_r, am_cv, defaultValue, va_rf]
  obtain ⟨hR1, hsz⟩ := hR.push (kind := ci) (len := 0) (size := am_N ci) hat z1 o1
  have k1 := kk (show am_n hs ≤ am_n h + 1 by omega) (show am_z hs ≤ am_z h + am_N ci by omega) hll H1 locs LS hR1 ⟨Nat.le_trans hS.1 (by omega), fun x h1 h2 => (o1 x (Nat.lt_of_lt_of_le h1 hS.1)).trans (hS.2.1 x h1 h2), hS.2.2⟩ hL
  have c1 : am_n h - am_n hs + 1 = am_n (am_new h ci 0 (am_N ci)) - am_n hs := am_count hn rfl
  have c2 : am_z h - am_z hs + am_N ci = am_z (am_new h ci 0 (am_N ci)) - am_z hs := am_count hz rfl
  rw [c1, c2, hsz]
  exact k1
theorem as_newarray (X : am_Cx p l R s m args meth c M D cy b base d Cal) {at1 : ArrayType} {kd : Nat} (ht : (at1 = .int ∧ kd = 7) ∨ (at1 = .boolean ∧ kd = 8)) (hd : decode M.2.1 pc = .ok (.newarray at1, 2)) {n : Int32} (hn0 : ¬ n < 0) (hnb : n.toNatClampNeg ≤ 100000) (hrc : am_n h + 1 ≤ am_n hs + R.cells) (hrs : am_z h + n.toNatClampNeg ≤ am_z hs + R.slots)
    (kk : am_G p l e R s m args below meth c Q M D cy b base hs (pc + 2) ls (.ref (am_n h) :: st) (am_new h kd n.toNatClampNeg n.toNatClampNeg)) : am_G p l e R s m args below meth c Q M D cy b base hs pc ls (.int n :: st) h := by
  intro hn hz hll H locs LS hR hS hL
  obtain ⟨hx, hb, hml, hown, hts, hin2, hK, X⟩ := X
  have harr : (Jvm.Cond.arrayClass (newarray.typeOf at1)).before args s = true := by
    rcases ht with ⟨rfl, -⟩ | ⟨rfl, -⟩
    · exact hts _ am_arrI
    · exact hts _ am_arrZ
  have hby : n.toNatClampNeg * componentBytes (newarray.typeOf at1) ≤ 536870912 := by
    have h8 : componentBytes (newarray.typeOf at1) ≤ 8 := by rcases ht with ⟨rfl, -⟩ | ⟨rfl, -⟩ <;> decide
    calc n.toNatClampNeg * componentBytes (newarray.typeOf at1) ≤ 100000 * 8 := Nat.mul_le_mul hnb h8
      _ ≤ 536870912 := by decide
  refine va_newaK hx hb harr rfl hd rfl hn0 rfl hby (by omega) (by omega) rfl fun H1 cA e1 z1 o1 hAr hNm => ?_
  have hk2 : am_k (am_new h kd n.toNatClampNeg n.toNatClampNeg) (am_n h) = kd := by show (if am_n h = am_n h then kd else _) = kd; rw [if_pos rfl]
  have hl2 : am_l (am_new h kd n.toNatClampNeg n.toNatClampNeg) (am_n h) = n.toNatClampNeg := by show (if am_n h = am_n h then n.toNatClampNeg else _) = _; rw [if_pos rfl]
  have hi2 : am_i (am_new h kd n.toNatClampNeg n.toNatClampNeg) (am_n h) = fun _ => 0 := by funext j; show (if am_n h = am_n h then 0 else _) = (0 : Int32); rw [if_pos rfl]
  have hat : va_at D vwCl (H.size, am_cell cy b base (am_new h kd n.toNatClampNeg n.toNatClampNeg) (am_n h)) H1 := by
    rcases ht with ⟨rfl, rfl⟩ | ⟨rfl, rfl⟩
    · rw [am_cell_int hk2, hl2, hi2]
      have hc : cA = cy 7 := Option.some.inj (hNm.symm.trans (show s.vm.findClass _ = some (cy 7) from (hK.1.2 0 (cy 7, .int) rfl).2))
      subst hc
      exact e1
    · rw [am_cell_bool hk2, hl2, hi2]
      have hc : cA = cy 8 := Option.some.inj (hNm.symm.trans (show s.vm.findClass _ = some (cy 8) from (hK.1.2 1 (cy 8, .boolean) rfl).2))
      subst hc
      exact e1
  obtain ⟨hR1, hsz⟩ := hR.push (kind := kd) (len := n.toNatClampNeg) (size := n.toNatClampNeg) hat z1 o1
  have k1 := kk (show am_n hs ≤ am_n h + 1 by omega) (show am_z hs ≤ am_z h + n.toNatClampNeg by omega) hll H1 locs LS hR1 ⟨Nat.le_trans hS.1 (by omega), fun x h1 h2 => (o1 x (Nat.lt_of_lt_of_le h1 hS.1)).trans (hS.2.1 x h1 h2), hS.2.2⟩ hL
  have c1 : am_n h - am_n hs + 1 = am_n (am_new h kd n.toNatClampNeg n.toNatClampNeg) - am_n hs := am_count hn rfl
  have c2 : am_z h - am_z hs + n.toNatClampNeg = am_z (am_new h kd n.toNatClampNeg n.toNatClampNeg) - am_z hs := am_count hz rfl
  rw [c1, c2, hsz]
  exact k1
theorem am_ao (hK : am_K D cy s) {K : Nat} (h1 : 9 ≤ K) (h2 : K ≤ 12) : va_AO (am_C (am_el K)) s := by
  match K, h1, h2 with
  | 9, _, _ => exact hK.2.2.1
  | 10, _, _ => exact hK.2.2.2.1
  | 11, _, _ => exact hK.2.2.2.2.1
  | 12, _, _ => exact hK.2.2.2.2.2
theorem as_anewarray (X : am_Cx p l R s m args meth c M D cy b base d Cal) {idx kd : Nat} (hk1 : 9 ≤ kd) (hk2 : kd ≤ 12) (hw : Jvm.Cond.classLink M.2.2.2.2.1 idx (am_C (am_el kd)) ∈ am_tbl) (hd : decode M.2.1 pc = .ok (.anewarray idx, 3)) {n : Int32} (hn0 : ¬ n < 0) (hnb : n.toNatClampNeg ≤ 100000) (hrc : am_n h + 1 ≤ am_n hs + R.cells) (hrs : am_z h + n.toNatClampNeg ≤ am_z hs + R.slots)
    (kk : am_G p l e R s m args below meth c Q M D cy b base hs (pc + 3) ls (.ref (am_n h) :: st) (am_new h kd n.toNatClampNeg n.toNatClampNeg)) : am_G p l e R s m args below meth c Q M D cy b base hs pc ls (.int n :: st) h := by
  intro hn hz hll H locs LS hR hS hL
  obtain ⟨hx, hb, hml, hown, hts, hin2, hK, X⟩ := X
  refine W.anew hx hb hown (hts _ hw) (am_ao hK hk1 hk2).use rfl hd rfl hn0 (by omega) (by omega) (by omega) fun cA kA comp g1 g2 g3 g4 => ?_
  rw [arrV_new]
  have hkk : am_k (am_new h kd n.toNatClampNeg n.toNatClampNeg) (am_n h) = kd := by show (if am_n h = am_n h then kd else _) = kd; rw [if_pos rfl]
  have hl2 : am_l (am_new h kd n.toNatClampNeg n.toNatClampNeg) (am_n h) = n.toNatClampNeg := by show (if am_n h = am_n h then n.toNatClampNeg else _) = _; rw [if_pos rfl]
  have hr2 : am_r (am_new h kd n.toNatClampNeg n.toNatClampNeg) (am_n h) = fun _ => none := by funext j; show (if am_n h = am_n h then none else _) = (none : Option Nat); rw [if_pos rfl]
  have hc : cA = cy kd := by
    obtain ⟨kA', comp', -, -, -, j4⟩ := (hK.1.2 _ _ (am_tyA cy hk1 hk2)).2
    exact Option.some.inj (g1.symm.trans j4)
  subst hc
  have hat : va_at D vwCl (H.size, am_cell cy b base (am_new h kd n.toNatClampNeg n.toNatClampNeg) (am_n h)) (H.push (arrV (cy kd) n.toNatClampNeg (fun _ => .null))) := by
    rw [am_cell_ref (by rw [hkk]; exact hk1), hkk, hl2, hr2]
    show (H.push _)[H.size]? = some (arrV (cy kd) n.toNatClampNeg (fun j => va_rf (am_cr b base none)))
    rw [Array.getElem?_push, if_pos rfl]
    rfl
  obtain ⟨hR1, hsz⟩ := hR.push (kind := kd) (len := n.toNatClampNeg) (size := n.toNatClampNeg) hat (by simp) (fun q hq => by rw [Array.getElem?_push, if_neg (Nat.ne_of_lt hq)])
  have k1 := kk (show am_n hs ≤ am_n h + 1 by omega) (show am_z hs ≤ am_z h + n.toNatClampNeg by omega) hll _ locs LS hR1 ⟨Nat.le_trans hS.1 (by simp), fun x h1 h2 => by rw [Array.getElem?_push, if_neg (Nat.ne_of_lt (Nat.lt_of_lt_of_le h1 hS.1))]; exact hS.2.1 x h1 h2, hS.2.2⟩ hL
  have c1 : am_n h - am_n hs + 1 = am_n (am_new h kd n.toNatClampNeg n.toNatClampNeg) - am_n hs := am_count hn rfl
  have c2 : am_z h - am_z hs + n.toNatClampNeg = am_z (am_new h kd n.toNatClampNeg n.toNatClampNeg) - am_z hs := am_count hz rfl
  rw [c1, c2, hsz]
  exact k1
end AH
