/-! EACH INSTRUCTION: the goal behind it gives the goal at it -/
theorem am_in : ∀ ci, ci < 7 → ∀ w ∈ u_ws (am_C ci) (am_T ci) (am_N ci), w ∈ am_tbl := by
  intro ci h
  have key : ∀ (L : List Jvm.Cond), L.all (fun w => decide (w ∈ lw_tbl) && goodWord w) = true → ∀ w ∈ L, w ∈ am_tbl := by
    intro L hL w hw
    have h1 := List.all_eq_true.mp hL w hw
    simp only [Bool.and_eq_true, decide_eq_true_eq] at h1
    exact List.mem_filter.mpr h1
  match ci, h with
  | 0, _ => exact key _ (by decide +kernel)
  | 1, _ => exact key _ (by decide +kernel)
  | 2, _ => exact key _ (by decide +kernel)
  | 3, _ => exact key _ (by decide +kernel)
  | 4, _ => exact key _ (by decide +kernel)
  | 5, _ => exact key _ (by decide +kernel)
  | 6, _ => exact key _ (by decide +kernel)
  | n + 7, h => omega
theorem am_cl : ∀ ci, ci < 7 → vwCl[ci]? = some (am_C ci, am_T ci, am_N ci) := by
  intro ci h
  match ci, h with
  | 0, _ => rfl
  | 1, _ => rfl
  | 2, _ => rfl
  | 3, _ => rfl
  | 4, _ => rfl
  | 5, _ => rfl
  | 6, _ => rfl
  | n + 7, h => omega
theorem am_tyok : ∀ ci, ci < 7 → ∀ k, k < am_N ci → parseFieldDescriptor (am_T ci k).2.2.1 = some (am_ty ci k) := by
  intro ci h
  match ci, h with
  | 0, _ => exact tyX0_ok
  | 1, _ => exact tyX1_ok
  | 2, _ => exact tyX2_ok
  | 3, _ => exact tyX3_ok
  | 4, _ => exact tyX4_ok
  | 5, _ => exact tyX5_ok
  | 6, _ => exact tyX6_ok
  | n + 7, h => omega
theorem am_nm : ∀ ci, ci < 7 → ∀ a, a < am_N ci → ∀ b, b < am_N ci → a ≠ b → (am_T ci a).2.1 ≠ (am_T ci b).2.1 := by
  intro ci h
  match ci, h with
  | 0, _ => exact nmX0
  | 1, _ => exact nmX1
  | 2, _ => exact nmX2
  | 3, _ => exact nmX3
  | 4, _ => exact nmX4
  | 5, _ => exact nmX5
  | 6, _ => exact nmX6
  | n + 7, h => omega
theorem am_tyk : ∀ ci, ci < 7 → ∀ k, k < am_N ci → (am_ty ci k = .int ∨ am_ty ci k = .boolean ∨ (∃ n, am_ty ci k = .object n) ∨ ∃ t, am_ty ci k = .array t) := by
  have key : ∀ (t : FieldType), (match t with | .int => true | .boolean => true | .object _ => true | .array _ => true | _ => false) = true → (t = .int ∨ t = .boolean ∨ (∃ n, t = .object n) ∨ ∃ u, t = .array u) := by
    intro t h
    cases t <;> simp_all
  have all : ∀ ci, ci < 7 → ∀ k, k < am_N ci → (match am_ty ci k with | .int => true | .boolean => true | .object _ => true | .array _ => true | _ => false) = true := by decide +kernel
  exact fun ci h k hk => key _ (all ci h k hk)
section AS
variable {p : Program} {l : Launch} {e : Env} {R : Room} {s : State} {m : MethodId} {args : Array Value} {below : List Frame} {meth : Method} {c : Code} {Q : State → Prop} {M : am_M} {D : va_G} {cy : Nat → ClassId} {b base d : Nat} {Cal : am_Ct} {hs : Hp}
variable {pc : Nat} {ls : am_Ls} {st : List Value} {h : Hp}
theorem as_iload (X : am_Cx p l R s m args meth c M D cy b base d Cal) {j : Nat} (hd : decode M.2.1 pc = .ok (.iload j, 2)) {x : Int32} (hl : ls[j]? = some (some (.int x))) (k : am_G p l e R s m args below meth c Q M D cy b base hs (pc + 2) ls (.int x :: st) h) : am_G p l e R s m args below meth c Q M D cy b base hs pc ls st h := by
  intro hn hz hll H locs LS hR hS hL
  exact lv_iload X.1 X.2.1 hd (hL.2.2 j _ hl).1 (k hn hz hll H locs LS hR hS hL)
theorem as_iload_n (X : am_Cx p l R s m args meth c M D cy b base d Cal) {j : Fin 4} (hd : decode M.2.1 pc = .ok (.iload_n j, 1)) {x : Int32} (hl : ls[(j : Nat)]? = some (some (.int x))) (k : am_G p l e R s m args below meth c Q M D cy b base hs (pc + 1) ls (.int x :: st) h) : am_G p l e R s m args below meth c Q M D cy b base hs pc ls st h := by
  intro hn hz hll H locs LS hR hS hL
  exact lv_iload_n X.1 X.2.1 hd rfl (hL.2.2 j _ hl).1 (k hn hz hll H locs LS hR hS hL)
theorem as_aload (X : am_Cx p l R s m args meth c M D cy b base d Cal) {j : Nat} (hd : decode M.2.1 pc = .ok (.aload j, 2)) {x : Option Nat} (hl : ls[j]? = some (some (va_rf x))) (k : am_G p l e R s m args below meth c Q M D cy b base hs (pc + 2) ls (va_rf x :: st) h) : am_G p l e R s m args below meth c Q M D cy b base hs pc ls st h := by
  intro hn hz hll H locs LS hR hS hL
  have h1 := (hL.2.2 j _ hl).1
  have k1 := k hn hz hll H locs LS hR hS hL
  cases x with
  | none => exact lv_aloadN X.1 X.2.1 hd h1 k1
  | some x => exact lv_aload X.1 X.2.1 hd h1 k1
theorem as_aload_n (X : am_Cx p l R s m args meth c M D cy b base d Cal) {j : Fin 4} (hd : decode M.2.1 pc = .ok (.aload_n j, 1)) {x : Option Nat} (hl : ls[(j : Nat)]? = some (some (va_rf x))) (k : am_G p l e R s m args below meth c Q M D cy b base hs (pc + 1) ls (va_rf x :: st) h) : am_G p l e R s m args below meth c Q M D cy b base hs pc ls st h := by
  intro hn hz hll H locs LS hR hS hL
  have h1 := (hL.2.2 j _ hl).1
  have k1 := k hn hz hll H locs LS hR hS hL
  cases x with
  | none => exact lv_aload_nN X.1 X.2.1 hd rfl h1 k1
  | some x => exact lv_aload_n X.1 X.2.1 hd rfl h1 k1
theorem as_istore (X : am_Cx p l R s m args meth c M D cy b base d Cal) {j : Nat} (hd : decode M.2.1 pc = .ok (.istore j, 2)) {x : Int32} (hj : j < ls.length) (k : am_G p l e R s m args below meth c Q M D cy b base hs (pc + 2) (ls.set j (some (.int x))) st h) : am_G p l e R s m args below meth c Q M D cy b base hs pc ls (.int x :: st) h := by
  intro hn hz hll H locs LS hR hS hL
  exact lv_istore X.1 X.2.1 hd hL.has hj rfl (fun ls' hl' => k hn hz (by rw [List.length_set]; exact hll) H locs ls' hR hS (hL.set (v := .int x) hj rfl hl'))
theorem as_istore_n (X : am_Cx p l R s m args meth c M D cy b base d Cal) {j : Fin 4} (hd : decode M.2.1 pc = .ok (.istore_n j, 1)) {x : Int32} (hj : (j : Nat) < ls.length) (k : am_G p l e R s m args below meth c Q M D cy b base hs (pc + 1) (ls.set j (some (.int x))) st h) : am_G p l e R s m args below meth c Q M D cy b base hs pc ls (.int x :: st) h := by
  intro hn hz hll H locs LS hR hS hL
  exact lv_istore_n X.1 X.2.1 hd rfl hL.has hj rfl (fun ls' hl' => k hn hz (by rw [List.length_set]; exact hll) H locs ls' hR hS (hL.set (v := .int x) hj rfl hl'))
theorem as_astore (X : am_Cx p l R s m args meth c M D cy b base d Cal) {j : Nat} (hd : decode M.2.1 pc = .ok (.astore j, 2)) {x : Option Nat} (hj : j < ls.length) (k : am_G p l e R s m args below meth c Q M D cy b base hs (pc + 2) (ls.set j (some (va_rf x))) st h) : am_G p l e R s m args below meth c Q M D cy b base hs pc ls (va_rf x :: st) h := by
  intro hn hz hll H locs LS hR hS hL
  cases x with
  | none => exact lv_astoreN X.1 X.2.1 hd hL.has hj rfl (fun ls' hl' => k hn hz (by rw [List.length_set]; exact hll) H locs ls' hR hS (hL.set (v := .null) hj rfl hl'))
  | some x => exact lv_astore X.1 X.2.1 hd hL.has hj rfl (fun ls' hl' => k hn hz (by rw [List.length_set]; exact hll) H locs ls' hR hS (hL.set (v := .ref x) hj rfl hl'))
theorem as_astore_n (X : am_Cx p l R s m args meth c M D cy b base d Cal) {j : Fin 4} (hd : decode M.2.1 pc = .ok (.astore_n j, 1)) {x : Option Nat} (hj : (j : Nat) < ls.length) (k : am_G p l e R s m args below meth c Q M D cy b base hs (pc + 1) (ls.set j (some (va_rf x))) st h) : am_G p l e R s m args below meth c Q M D cy b base hs pc ls (va_rf x :: st) h := by
  intro hn hz hll H locs LS hR hS hL
  cases x with
  | none => exact lv_astore_nN X.1 X.2.1 hd rfl hL.has hj rfl (fun ls' hl' => k hn hz (by rw [List.length_set]; exact hll) H locs ls' hR hS (hL.set (v := .null) hj rfl hl'))
  | some x => exact lv_astore_n X.1 X.2.1 hd rfl hL.has hj rfl (fun ls' hl' => k hn hz (by rw [List.length_set]; exact hll) H locs ls' hR hS (hL.set (v := .ref x) hj rfl hl'))
theorem as_iconst (X : am_Cx p l R s m args meth c M D cy b base d Cal) {n : Int} (hd : decode M.2.1 pc = .ok (.iconst n, 1)) (k : am_G p l e R s m args below meth c Q M D cy b base hs (pc + 1) ls (.int (Int32.ofInt n) :: st) h) : am_G p l e R s m args below meth c Q M D cy b base hs pc ls st h := by
  intro hn hz hll H locs LS hR hS hL
  exact lv_iconst X.1 X.2.1 hd rfl (k hn hz hll H locs LS hR hS hL)
theorem as_bipush (X : am_Cx p l R s m args meth c M D cy b base d Cal) {n : Int} (hd : decode M.2.1 pc = .ok (.bipush n, 2)) (k : am_G p l e R s m args below meth c Q M D cy b base hs (pc + 2) ls (.int (Int8.ofInt n).toInt32 :: st) h) : am_G p l e R s m args below meth c Q M D cy b base hs pc ls st h := by
  intro hn hz hll H locs LS hR hS hL
  exact lv_bipush X.1 X.2.1 hd rfl (k hn hz hll H locs LS hR hS hL)
theorem as_sipush (X : am_Cx p l R s m args meth c M D cy b base d Cal) {n : Int} (hd : decode M.2.1 pc = .ok (.sipush n, 3)) (k : am_G p l e R s m args below meth c Q M D cy b base hs (pc + 3) ls (.int (Int16.ofInt n).toInt32 :: st) h) : am_G p l e R s m args below meth c Q M D cy b base hs pc ls st h := by
  intro hn hz hll H locs LS hR hS hL
  exact lv_sipush X.1 X.2.1 hd rfl (k hn hz hll H locs LS hR hS hL)
theorem as_ldc (X : am_Cx p l R s m args meth c M D cy b base d Cal) {idx : Nat} {v : Int32} (hw : Jvm.Cond.constant M.2.2.2.2.1 idx v ∈ am_tbl) (hd : decode M.2.1 pc = .ok (.ldc idx, 2)) (k : am_G p l e R s m args below meth c Q M D cy b base hs (pc + 2) ls (.int v :: st) h) : am_G p l e R s m args below meth c Q M D cy b base hs pc ls st h := by
  intro hn hz hll H locs LS hR hS hL
  obtain ⟨hx, hb, hml, hown, hts, X⟩ := X
  exact lv_ldc hx hb hown (hts _ hw) hd (k hn hz hll H locs LS hR hS hL)
theorem as_null (X : am_Cx p l R s m args meth c M D cy b base d Cal) (hd : decode M.2.1 pc = .ok (.aconst_null, 1)) (k : am_G p l e R s m args below meth c Q M D cy b base hs (pc + 1) ls (.null :: st) h) : am_G p l e R s m args below meth c Q M D cy b base hs pc ls st h := by
  intro hn hz hll H locs LS hR hS hL
  exact lv_null X.1 X.2.1 hd (k hn hz hll H locs LS hR hS hL)
theorem as_iinc (X : am_Cx p l R s m args meth c M D cy b base d Cal) {j : Nat} {n : Int} (hd : decode M.2.1 pc = .ok (.iinc j n, 3)) {x : Int32} (hl : ls[j]? = some (some (.int x))) (k : am_G p l e R s m args below meth c Q M D cy b base hs (pc + 3) (ls.set j (some (.int (x + Int32.ofInt n)))) st h) : am_G p l e R s m args below meth c Q M D cy b base hs pc ls st h := by
  intro hn hz hll H locs LS hR hS hL
  obtain ⟨i, hi⟩ := List.getElem?_of_mem (am_as_mem.mpr ⟨.int x, hl, rfl⟩ : (j, Value.int x) ∈ am_as b base ls)
  have hj : j < ls.length := (List.getElem?_eq_some_iff.mp hl).1
  exact lv_iinc X.1 X.2.1 hd hL.has hi rfl hj rfl (fun ls' hl' => k hn hz (by rw [List.length_set]; exact hll) H locs ls' hR hS (hL.set (v := .int (x + Int32.ofInt n)) hj rfl hl'))
theorem as_iadd (X : am_Cx p l R s m args meth c M D cy b base d Cal) (hd : decode M.2.1 pc = .ok (.iadd, 1)) {x y : Int32} (k : am_G p l e R s m args below meth c Q M D cy b base hs (pc + 1) ls (.int (x + y) :: st) h) : am_G p l e R s m args below meth c Q M D cy b base hs pc ls (.int y :: .int x :: st) h := by
  intro hn hz hll H locs LS hR hS hL
  exact lv_iadd X.1 X.2.1 hd (k hn hz hll H locs LS hR hS hL)
theorem as_isub (X : am_Cx p l R s m args meth c M D cy b base d Cal) (hd : decode M.2.1 pc = .ok (.isub, 1)) {x y : Int32} (k : am_G p l e R s m args below meth c Q M D cy b base hs (pc + 1) ls (.int (x - y) :: st) h) : am_G p l e R s m args below meth c Q M D cy b base hs pc ls (.int y :: .int x :: st) h := by
  intro hn hz hll H locs LS hR hS hL
  exact lv_isub X.1 X.2.1 hd (k hn hz hll H locs LS hR hS hL)
theorem as_imul (X : am_Cx p l R s m args meth c M D cy b base d Cal) (hd : decode M.2.1 pc = .ok (.imul, 1)) {x y : Int32} (k : am_G p l e R s m args below meth c Q M D cy b base hs (pc + 1) ls (.int (x * y) :: st) h) : am_G p l e R s m args below meth c Q M D cy b base hs pc ls (.int y :: .int x :: st) h := by
  intro hn hz hll H locs LS hR hS hL
  exact lv_imul X.1 X.2.1 hd (k hn hz hll H locs LS hR hS hL)
theorem as_iand (X : am_Cx p l R s m args meth c M D cy b base d Cal) (hd : decode M.2.1 pc = .ok (.iand, 1)) {x y : Int32} (k : am_G p l e R s m args below meth c Q M D cy b base hs (pc + 1) ls (.int (x &&& y) :: st) h) : am_G p l e R s m args below meth c Q M D cy b base hs pc ls (.int y :: .int x :: st) h := by
  intro hn hz hll H locs LS hR hS hL
  exact lv_iand X.1 X.2.1 hd (k hn hz hll H locs LS hR hS hL)
theorem as_ishl (X : am_Cx p l R s m args meth c M D cy b base d Cal) (hd : decode M.2.1 pc = .ok (.ishl, 1)) {x y : Int32} (k : am_G p l e R s m args below meth c Q M D cy b base hs (pc + 1) ls (.int (x <<< (y &&& 31)) :: st) h) : am_G p l e R s m args below meth c Q M D cy b base hs pc ls (.int y :: .int x :: st) h := by
  intro hn hz hll H locs LS hR hS hL
  exact lv_ishl X.1 X.2.1 hd (k hn hz hll H locs LS hR hS hL)
theorem as_ishr (X : am_Cx p l R s m args meth c M D cy b base d Cal) (hd : decode M.2.1 pc = .ok (.ishr, 1)) {x y : Int32} (k : am_G p l e R s m args below meth c Q M D cy b base hs (pc + 1) ls (.int (x >>> (y &&& 31)) :: st) h) : am_G p l e R s m args below meth c Q M D cy b base hs pc ls (.int y :: .int x :: st) h := by
  intro hn hz hll H locs LS hR hS hL
  exact lv_ishr X.1 X.2.1 hd (k hn hz hll H locs LS hR hS hL)
theorem as_idiv (X : am_Cx p l R s m args meth c M D cy b base d Cal) (hd : decode M.2.1 pc = .ok (.idiv, 1)) {x y : Int32} (hy : ¬ y = 0) (k : am_G p l e R s m args below meth c Q M D cy b base hs (pc + 1) ls (.int (x / y) :: st) h) : am_G p l e R s m args below meth c Q M D cy b base hs pc ls (.int y :: .int x :: st) h := by
  intro hn hz hll H locs LS hR hS hL
  exact lv_idiv X.1 X.2.1 hd hy (k hn hz hll H locs LS hR hS hL)
theorem as_irem (X : am_Cx p l R s m args meth c M D cy b base d Cal) (hd : decode M.2.1 pc = .ok (.irem, 1)) {x y : Int32} (hy : ¬ y = 0) (k : am_G p l e R s m args below meth c Q M D cy b base hs (pc + 1) ls (.int (x - x / y * y) :: st) h) : am_G p l e R s m args below meth c Q M D cy b base hs pc ls (.int y :: .int x :: st) h := by
  intro hn hz hll H locs LS hR hS hL
  exact lv_irem X.1 X.2.1 hd hy (k hn hz hll H locs LS hR hS hL)
theorem as_ineg (X : am_Cx p l R s m args meth c M D cy b base d Cal) (hd : decode M.2.1 pc = .ok (.ineg, 1)) {x : Int32} (k : am_G p l e R s m args below meth c Q M D cy b base hs (pc + 1) ls (.int (-x) :: st) h) : am_G p l e R s m args below meth c Q M D cy b base hs pc ls (.int x :: st) h := by
  intro hn hz hll H locs LS hR hS hL
  refine lv_ineg X.1 X.2.1 hd ?_
  first | exact k hn hz hll H locs LS hR hS hL | (have k1 := k hn hz hll H locs LS hR hS hL; simpa using k1)
theorem as_dup (X : am_Cx p l R s m args meth c M D cy b base d Cal) (hd : decode M.2.1 pc = .ok (.dup, 1)) {v : Value} (hv : v.category = 1) (k : am_G p l e R s m args below meth c Q M D cy b base hs (pc + 1) ls (v :: v :: st) h) : am_G p l e R s m args below meth c Q M D cy b base hs pc ls (v :: st) h := by
  intro hn hz hll H locs LS hR hS hL
  exact lv_dup X.1 X.2.1 hd (by rw [am_cv_cat]; exact hv) (k hn hz hll H locs LS hR hS hL)
theorem as_dup2 (X : am_Cx p l R s m args meth c M D cy b base d Cal) (hd : decode M.2.1 pc = .ok (.dup2, 1)) {v w : Value} (hv : v.category = 1) (hw : w.category = 1) (k : am_G p l e R s m args below meth c Q M D cy b base hs (pc + 1) ls (v :: w :: v :: w :: st) h) : am_G p l e R s m args below meth c Q M D cy b base hs pc ls (v :: w :: st) h := by
  intro hn hz hll H locs LS hR hS hL
  exact lv_dup2_11 X.1 X.2.1 hd (by rw [am_cv_cat]; exact hv) (by rw [am_cv_cat]; exact hw) (k hn hz hll H locs LS hR hS hL)
theorem as_goto (X : am_Cx p l R s m args meth c M D cy b base d Cal) {off : Int} {t : Nat} (hd : decode M.2.1 pc = .ok (.goto off, 3)) (ht : (pc : Int) + off = (t : Int)) (k : am_G p l e R s m args below meth c Q M D cy b base hs t ls st h) : am_G p l e R s m args below meth c Q M D cy b base hs pc ls st h := by
  intro hn hz hll H locs LS hR hS hL
  exact lv_goto X.1 X.2.1 hd ht (k hn hz hll H locs LS hR hS hL)
theorem as_if (X : am_Cx p l R s m args meth c M D cy b base d Cal) {cnd : Jvm.ClassFile.Cond} {off : Int} {t : Nat} (hd : decode M.2.1 pc = .ok (.ifCond cnd off, 3)) (ht : (pc : Int) + off = (t : Int)) {x : Int32} (k1 : am_cond cnd x 0 → am_G p l e R s m args below meth c Q M D cy b base hs t ls st h) (k2 : ¬ am_cond cnd x 0 → am_G p l e R s m args below meth c Q M D cy b base hs (pc + 3) ls st h) : am_G p l e R s m args below meth c Q M D cy b base hs pc ls (.int x :: st) h := by
  intro hn hz hll H locs LS hR hS hL
  have q1 := fun z => k1 z hn hz hll H locs LS hR hS hL
  have q2 := fun z => k2 z hn hz hll H locs LS hR hS hL
  have hx := X.1
  have hb := X.2.1
  cases cnd with
  | eq => exact lv_if_eq hx hb hd ht q1 q2
  | ne => exact lv_if_ne hx hb hd ht q1 (fun z => q2 (fun w => w z))
  | lt => exact lv_if_lt hx hb hd ht (fun z => q1 (by first | exact z | (simp only [am_cond]; exact z) | (simpa [am_cond, Int32.not_le] using z))) (fun z => q2 (by first | exact z | (simp only [am_cond]; exact z) | (simpa [am_cond, Int32.not_le, Int32.not_lt] using z)))
  | ge => exact lv_if_ge hx hb hd ht (fun z => q1 (by first | exact z | (simp only [am_cond]; exact z) | (simpa [am_cond, Int32.not_le] using z))) (fun z => q2 (by first | exact z | (simp only [am_cond]; exact z) | (simpa [am_cond, Int32.not_le, Int32.not_lt] using z)))
  | gt => exact lv_if_gt hx hb hd ht (fun z => q1 (by first | exact z | (simp only [am_cond]; exact z) | (simpa [am_cond, Int32.not_le] using z))) (fun z => q2 (by first | exact z | (simp only [am_cond]; exact z) | (simpa [am_cond, Int32.not_le, Int32.not_lt] using z)))
  | le => exact lv_if_le hx hb hd ht (fun z => q1 (by first | exact z | (simp only [am_cond]; exact z) | (simpa [am_cond, Int32.not_le] using z))) (fun z => q2 (by first | exact z | (simp only [am_cond]; exact z) | (simpa [am_cond, Int32.not_le, Int32.not_lt] using z)))
theorem as_icmp (X : am_Cx p l R s m args meth c M D cy b base d Cal) {cnd : Jvm.ClassFile.Cond} {off : Int} {t : Nat} (hd : decode M.2.1 pc = .ok (.if_icmp cnd off, 3)) (ht : (pc : Int) + off = (t : Int)) {x y : Int32} (k1 : am_cond cnd x y → am_G p l e R s m args below meth c Q M D cy b base hs t ls st h) (k2 : ¬ am_cond cnd x y → am_G p l e R s m args below meth c Q M D cy b base hs (pc + 3) ls st h) : am_G p l e R s m args below meth c Q M D cy b base hs pc ls (.int y :: .int x :: st) h := by
  intro hn hz hll H locs LS hR hS hL
  have q1 := fun z => k1 z hn hz hll H locs LS hR hS hL
  have q2 := fun z => k2 z hn hz hll H locs LS hR hS hL
  have hx := X.1
  have hb := X.2.1
  cases cnd with
  | eq => exact lv_icmp_eq hx hb hd ht q1 q2
  | ne => exact lv_icmp_ne hx hb hd ht q1 (fun z => q2 (fun w => w z))
  | lt => exact lv_icmp_lt hx hb hd ht (fun z => q1 (by first | exact z | (simp only [am_cond]; exact z) | (simpa [am_cond, Int32.not_le] using z))) (fun z => q2 (by first | exact z | (simp only [am_cond]; exact z) | (simpa [am_cond, Int32.not_le, Int32.not_lt] using z)))
  | ge => exact lv_icmp_ge hx hb hd ht (fun z => q1 (by first | exact z | (simp only [am_cond]; exact z) | (simpa [am_cond, Int32.not_le] using z))) (fun z => q2 (by first | exact z | (simp only [am_cond]; exact z) | (simpa [am_cond, Int32.not_le, Int32.not_lt] using z)))
  | gt => exact lv_icmp_gt hx hb hd ht (fun z => q1 (by first | exact z | (simp only [am_cond]; exact z) | (simpa [am_cond, Int32.not_le] using z))) (fun z => q2 (by first | exact z | (simp only [am_cond]; exact z) | (simpa [am_cond, Int32.not_le, Int32.not_lt] using z)))
  | le => exact lv_icmp_le hx hb hd ht (fun z => q1 (by first | exact z | (simp only [am_cond]; exact z) | (simpa [am_cond, Int32.not_le] using z))) (fun z => q2 (by first | exact z | (simp only [am_cond]; exact z) | (simpa [am_cond, Int32.not_le, Int32.not_lt] using z)))
theorem as_ifnull (X : am_Cx p l R s m args meth c M D cy b base d Cal) {off : Int} {t : Nat} (hd : decode M.2.1 pc = .ok (.ifnull off, 3)) (ht : (pc : Int) + off = (t : Int)) {x : Option Nat} (k1 : x = none → am_G p l e R s m args below meth c Q M D cy b base hs t ls st h) (k2 : ¬ x = none → am_G p l e R s m args below meth c Q M D cy b base hs (pc + 3) ls st h) : am_G p l e R s m args below meth c Q M D cy b base hs pc ls (va_rf x :: st) h := by
  intro hn hz hll H locs LS hR hS hL
  cases x with
  | none => exact lv_ifnullN X.1 X.2.1 hd ht (k1 rfl hn hz hll H locs LS hR hS hL)
  | some x => exact lv_ifnull X.1 X.2.1 hd (k2 (fun z => by cases z) hn hz hll H locs LS hR hS hL)
theorem as_ifnonnull (X : am_Cx p l R s m args meth c M D cy b base d Cal) {off : Int} {t : Nat} (hd : decode M.2.1 pc = .ok (.ifnonnull off, 3)) (ht : (pc : Int) + off = (t : Int)) {x : Option Nat} (k1 : ¬ x = none → am_G p l e R s m args below meth c Q M D cy b base hs t ls st h) (k2 : x = none → am_G p l e R s m args below meth c Q M D cy b base hs (pc + 3) ls st h) : am_G p l e R s m args below meth c Q M D cy b base hs pc ls (va_rf x :: st) h := by
  intro hn hz hll H locs LS hR hS hL
  cases x with
  | none => exact lv_ifnonnullN X.1 X.2.1 hd (k2 rfl hn hz hll H locs LS hR hS hL)
  | some x => exact lv_ifnonnull X.1 X.2.1 hd ht (k1 (fun z => by cases z) hn hz hll H locs LS hR hS hL)
theorem as_acmp (X : am_Cx p l R s m args meth c M D cy b base d Cal) {off : Int} {t : Nat} (hd : decode M.2.1 pc = .ok (.if_acmp .eq off, 3)) (ht : (pc : Int) + off = (t : Int)) {x y : Option Nat} (k1 : x = y → am_G p l e R s m args below meth c Q M D cy b base hs t ls st h) (k2 : ¬ x = y → am_G p l e R s m args below meth c Q M D cy b base hs (pc + 3) ls st h) : am_G p l e R s m args below meth c Q M D cy b base hs pc ls (va_rf y :: va_rf x :: st) h := by
  intro hn hz hll H locs LS hR hS hL
  show W _ _ _ _ _ _ _ _ _ _ _ _ _ _ _ (F0 m pc LS (am_cv b base (va_rf y) :: am_cv b base (va_rf x) :: st.map (am_cv b base)))
  rw [am_cv_rf, am_cv_rf]
  exact lv_acmp_eq X.1 X.2.1 hd ht (fun z => k1 (am_cr_inj hR.2.2.1 z) hn hz hll H locs LS hR hS hL) (fun z => k2 (fun w => z (by rw [w])) hn hz hll H locs LS hR hS hL)
theorem as_switch (X : am_Cx p l R s m args meth c M D cy b base d Cal) {dflt lo hi : Int} {offs : Array Int} {len : Nat} (hd : decode M.2.1 pc = .ok (.tableswitch dflt lo hi offs, len)) {x : Int32} {t : Nat} (ht : am_sw pc dflt lo hi offs x t) (k : am_G p l e R s m args below meth c Q M D cy b base hs t ls st h) : am_G p l e R s m args below meth c Q M D cy b base hs pc ls (.int x :: st) h := by
  intro hn hz hll H locs LS hR hS hL
  rcases ht with ⟨h1, h2⟩ | ⟨h1, h2, off, h3, h4⟩
  · exact lv_tableOut X.1 X.2.1 hd h1 h2 (k hn hz hll H locs LS hR hS hL)
  · exact lv_tableIn X.1 X.2.1 hd h1 h2 h3 h4 (k hn hz hll H locs LS hR hS hL)
theorem am_one {q : Nat × va_E} {H : Heap} (h : va_at D vwCl q H) : va_P D vwCl [q] H := by
  intro k x hk
  match k, hk with
  | 0, hk => cases hk; exact h
theorem am_cell_obj {h : Hp} {a ci : Nat} (hk : am_k h a = ci) (hci : ci < 7) : am_cell cy b base h a = .inr (ci, am_fs b base h a ci) := by
  subst hk
  unfold am_cell
  rw [if_pos hci]
theorem am_fs_get {h : Hp} {a ci k : Nat} (hk : k < am_N ci) : (am_fs b base h a ci)[k]? = some (am_cv b base (am_fv h a ci k)) := by
  unfold am_fs
  rw [List.getElem?_map, List.getElem?_range hk]
  rfl
theorem as_get (X : am_Cx p l R s m args meth c M D cy b base d Cal) {idx ci k : Nat} (hci : ci < 7) (hk : k < am_N ci) (hw : Jvm.Cond.fieldLink M.2.2.2.2.1 idx (am_T ci k).1 (am_T ci k).2.1 (am_T ci k).2.2.1 ∈ am_tbl) (hd : decode M.2.1 pc = .ok (.getfield idx, 3)) {a : Nat} (ha : 0 < a) (han : a < am_n h) (hka : am_k h a = ci) (kk : am_G p l e R s m args below meth c Q M D cy b base hs (pc + 3) ls (am_fv h a ci k :: st) h) : am_G p l e R s m args below meth c Q M D cy b base hs pc ls (.ref a :: st) h := by
  intro hn hz hll H locs LS hR hS hL
  obtain ⟨hx, hb, hml, hown, hts, hin, hK, X⟩ := X
  have hat := hR.2.2.2.2.2 a ha han
  rw [am_cell_obj hka hci] at hat
  exact va_get (D := D) (ci := ci) (v := am_cv b base (am_fv h a ci k)) (C := am_C ci) (T := am_T ci) (N := am_N ci) hx hb hts (am_in ci hci) hown hK.1 (am_one hat) 0 rfl (am_cl ci hci) k hk (hts _ hw) (fun _ h9 => h9) (am_fs_get hk) hd (kk hn hz hll H locs LS hR hS hL)
end AS
