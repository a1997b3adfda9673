/-! THE ABSTRACT MACHINE: a heap of numbered cells with int and reference contents, and what each instruction does to it -/
abbrev Hp : Type := Nat × Nat × (Nat → Nat) × (Nat → Nat) × (Nat → Nat → Int32) × (Nat → Nat → Option Nat)
def am_n (h : Hp) : Nat := h.1
def am_z (h : Hp) : Nat := h.2.1
def am_k (h : Hp) : Nat → Nat := h.2.2.1
def am_l (h : Hp) : Nat → Nat := h.2.2.2.1
def am_i (h : Hp) : Nat → Nat → Int32 := h.2.2.2.2.1
def am_r (h : Hp) : Nat → Nat → Option Nat := h.2.2.2.2.2
def am_setI (h : Hp) (a k : Nat) (v : Int32) : Hp := (am_n h, am_z h, am_k h, am_l h, fun x j => if x = a ∧ j = k then v else am_i h x j, am_r h)
def am_setR (h : Hp) (a k : Nat) (v : Option Nat) : Hp := (am_n h, am_z h, am_k h, am_l h, am_i h, fun x j => if x = a ∧ j = k then v else am_r h x j)
def am_new (h : Hp) (kind len size : Nat) : Hp := (am_n h + 1, am_z h + size, fun x => if x = am_n h then kind else am_k h x, fun x => if x = am_n h then len else am_l h x, fun x j => if x = am_n h then 0 else am_i h x j, fun x j => if x = am_n h then none else am_r h x j)
def am_C (ci : Nat) : String := match ci with | 0 => RX0 | 1 => RX1 | 2 => RX2 | 3 => RX3 | 4 => RX4 | 5 => RX5 | _ => RX6
def am_T (ci : Nat) : u_T := match ci with | 0 => TX0 | 1 => TX1 | 2 => TX2 | 3 => TX3 | 4 => TX4 | 5 => TX5 | _ => TX6
def am_N (ci : Nat) : Nat := match ci with | 0 => 3 | 1 => 3 | 2 => 5 | 3 => 8 | 4 => 11 | 5 => 15 | _ => 36
def am_ty (ci : Nat) : Nat → FieldType := match ci with | 0 => tyX0 | 1 => tyX1 | 2 => tyX2 | 3 => tyX3 | 4 => tyX4 | 5 => tyX5 | _ => tyX6
/-- 0: an int, 1: a boolean, 2: a reference -/
def am_ft (ci k : Nat) : Nat := match am_ty ci k with | .int => 0 | .boolean => 1 | _ => 2
def am_fv (h : Hp) (a ci k : Nat) : Value := if am_ft ci k = 2 then va_rf (am_r h a k) else .int (am_i h a k)
/-- the class of an array's elements, by its kind -/
def am_el (k : Nat) : Nat := match k with | 9 => 3 | 10 => 4 | 11 => 1 | _ => 2
/-- the class (number) of a method's receiver -/
def am_own (y : Nat) : Nat := if y < 7 then 0 else if y < 10 then 1 else if y < 12 then 2 else if y < 17 then 3 else if y < 25 then 4 else if y < 77 then 5 else 6
def am_cond (c : Jvm.ClassFile.Cond) (x y : Int32) : Prop := match c with
  | .eq => x = y | .ne => ¬ x = y | .lt => x < y | .ge => y ≤ x | .gt => y < x | .le => x ≤ y
def am_sw (pc : Nat) (dflt lo hi : Int) (offs : Array Int) (x : Int32) (tgt : Nat) : Prop :=
  ((x.toInt < lo ∨ hi < x.toInt) ∧ (pc : Int) + dflt = (tgt : Int)) ∨ (¬ x.toInt < lo ∧ ¬ hi < x.toInt ∧ ∃ off, offs[(x.toInt - lo).toNat]? = some off ∧ (pc : Int) + off = (tgt : Int))
abbrev am_Ls : Type := List (Option Value)
abbrev am_Kt : Type := Nat → am_Ls → List Value → Hp → Prop
abbrev am_Ct : Type := Nat → List Value → Hp → Option Value → Hp → Prop
def am_do (K : am_Kt) (Cal : am_Ct) (Q : Option Value → Hp → Prop) (pc : Nat) (e : Instr × Nat × Nat × Nat × Nat) (ls : am_Ls) (st : List Value) (h : Hp) : Prop :=
  match e.1 with
  | .iload j => ∃ x, ls[j]? = some (some (.int x)) ∧ K (pc + 2) ls (.int x :: st) h
  | .iload_n j => ∃ x, ls[(j : Nat)]? = some (some (.int x)) ∧ K (pc + 1) ls (.int x :: st) h
  | .aload j => ∃ x, ls[j]? = some (some (va_rf x)) ∧ K (pc + 2) ls (va_rf x :: st) h
  | .aload_n j => ∃ x, ls[(j : Nat)]? = some (some (va_rf x)) ∧ K (pc + 1) ls (va_rf x :: st) h
  | .istore j => ∃ x r, st = .int x :: r ∧ j < ls.length ∧ K (pc + 2) (ls.set j (some (.int x))) r h
  | .istore_n j => ∃ x r, st = .int x :: r ∧ (j : Nat) < ls.length ∧ K (pc + 1) (ls.set j (some (.int x))) r h
  | .astore j => ∃ x r, st = va_rf x :: r ∧ j < ls.length ∧ K (pc + 2) (ls.set j (some (va_rf x))) r h
  | .astore_n j => ∃ x r, st = va_rf x :: r ∧ (j : Nat) < ls.length ∧ K (pc + 1) (ls.set j (some (va_rf x))) r h
  | .iconst n => K (pc + 1) ls (.int (Int32.ofInt n) :: st) h
  | .bipush n => K (pc + 2) ls (.int (Int8.ofInt n).toInt32 :: st) h
  | .sipush n => K (pc + 3) ls (.int (Int16.ofInt n).toInt32 :: st) h
  | .ldc _ => K (pc + 2) ls (.int (Int32.ofNat e.2.2.1) :: st) h
  | .aconst_null => K (pc + 1) ls (.null :: st) h
  | .iinc j n => ∃ x, ls[j]? = some (some (.int x)) ∧ K (pc + 3) (ls.set j (some (.int (x + Int32.ofInt n)))) st h
  | .iadd => ∃ x y r, st = .int y :: .int x :: r ∧ K (pc + 1) ls (.int (x + y) :: r) h
  | .isub => ∃ x y r, st = .int y :: .int x :: r ∧ K (pc + 1) ls (.int (x - y) :: r) h
  | .imul => ∃ x y r, st = .int y :: .int x :: r ∧ K (pc + 1) ls (.int (x * y) :: r) h
  | .iand => ∃ x y r, st = .int y :: .int x :: r ∧ K (pc + 1) ls (.int (x &&& y) :: r) h
  | .ishl => ∃ x y r, st = .int y :: .int x :: r ∧ K (pc + 1) ls (.int (x <<< (y &&& 31)) :: r) h
  | .ishr => ∃ x y r, st = .int y :: .int x :: r ∧ K (pc + 1) ls (.int (x >>> (y &&& 31)) :: r) h
  | .idiv => ∃ x y r, st = .int y :: .int x :: r ∧ ¬ y = 0 ∧ K (pc + 1) ls (.int (x / y) :: r) h
  | .irem => ∃ x y r, st = .int y :: .int x :: r ∧ ¬ y = 0 ∧ K (pc + 1) ls (.int (x - x / y * y) :: r) h
  | .ineg => ∃ x r, st = .int x :: r ∧ K (pc + 1) ls (.int (-x) :: r) h
  | .dup => ∃ v r, st = v :: r ∧ v.category = 1 ∧ K (pc + 1) ls (v :: v :: r) h
  | .dup2 => ∃ v w r, st = v :: w :: r ∧ v.category = 1 ∧ w.category = 1 ∧ K (pc + 1) ls (v :: w :: v :: w :: r) h
  | .goto _ => K e.2.2.1 ls st h
  | .ifCond c _ => ∃ x r, st = .int x :: r ∧ (am_cond c x 0 → K e.2.2.1 ls r h) ∧ (¬ am_cond c x 0 → K (pc + 3) ls r h)
  | .if_icmp c _ => ∃ x y r, st = .int y :: .int x :: r ∧ (am_cond c x y → K e.2.2.1 ls r h) ∧ (¬ am_cond c x y → K (pc + 3) ls r h)
  | .ifnull _ => ∃ x r, st = va_rf x :: r ∧ (x = none → K e.2.2.1 ls r h) ∧ (¬ x = none → K (pc + 3) ls r h)
  | .ifnonnull _ => ∃ x r, st = va_rf x :: r ∧ (¬ x = none → K e.2.2.1 ls r h) ∧ (x = none → K (pc + 3) ls r h)
  | .if_acmp .eq _ => ∃ x y r, st = va_rf y :: va_rf x :: r ∧ (x = y → K e.2.2.1 ls r h) ∧ (¬ x = y → K (pc + 3) ls r h)
  | .tableswitch d lo hi offs => ∃ x r tgt, st = .int x :: r ∧ am_sw pc d lo hi offs x tgt ∧ K tgt ls r h
  | .getfield _ => ∃ a r, st = .ref a :: r ∧ 0 < a ∧ a < am_n h ∧ am_k h a = e.2.2.1 ∧ K (pc + 3) ls (am_fv h a e.2.2.1 e.2.2.2.1 :: r) h
  | .putfield _ => ∃ a v r, st = v :: .ref a :: r ∧ 0 < a ∧ a < am_n h ∧ am_k h a = e.2.2.1 ∧
      ((am_ft e.2.2.1 e.2.2.2.1 = 2 ∧ ∃ x, v = va_rf x ∧ K (pc + 3) ls r (am_setR h a e.2.2.2.1 x)) ∨
       (am_ft e.2.2.1 e.2.2.2.1 < 2 ∧ ∃ x, v = .int x ∧ (am_ft e.2.2.1 e.2.2.2.1 = 1 → x = 0 ∨ x = 1) ∧ K (pc + 3) ls r (am_setI h a e.2.2.2.1 x)))
  | .new _ => K (pc + 3) ls (.ref (am_n h) :: st) (am_new h e.2.2.1 0 (am_N e.2.2.1))
  | .newarray _ => ∃ n r, st = .int n :: r ∧ ¬ n < 0 ∧ n.toNatClampNeg ≤ 100000 ∧ K (pc + 2) ls (.ref (am_n h) :: r) (am_new h e.2.2.1 n.toNatClampNeg n.toNatClampNeg)
  | .anewarray _ => ∃ n r, st = .int n :: r ∧ ¬ n < 0 ∧ n.toNatClampNeg ≤ 100000 ∧ K (pc + 3) ls (.ref (am_n h) :: r) (am_new h e.2.2.1 n.toNatClampNeg n.toNatClampNeg)
  | .iaload => ∃ i a r, st = .int i :: .ref a :: r ∧ a < am_n h ∧ am_k h a = 7 ∧ vp_in i (am_l h a) ∧ K (pc + 1) ls (.int (am_i h a i.toNatClampNeg) :: r) h
  | .baload => ∃ i a r, st = .int i :: .ref a :: r ∧ 0 < a ∧ a < am_n h ∧ am_k h a = 8 ∧ vp_in i (am_l h a) ∧ K (pc + 1) ls (.int (am_i h a i.toNatClampNeg) :: r) h
  | .aaload => ∃ i a r, st = .int i :: .ref a :: r ∧ 0 < a ∧ a < am_n h ∧ 9 ≤ am_k h a ∧ am_k h a ≤ 12 ∧ vp_in i (am_l h a) ∧ K (pc + 1) ls (va_rf (am_r h a i.toNatClampNeg) :: r) h
  | .iastore => ∃ x i a r, st = .int x :: .int i :: .ref a :: r ∧ 0 < a ∧ a < am_n h ∧ am_k h a = 7 ∧ vp_in i (am_l h a) ∧ K (pc + 1) ls r (am_setI h a i.toNatClampNeg x)
  | .bastore => ∃ x i a r, st = .int x :: .int i :: .ref a :: r ∧ 0 < a ∧ a < am_n h ∧ am_k h a = 8 ∧ vp_in i (am_l h a) ∧ (x = 0 ∨ x = 1) ∧ K (pc + 1) ls r (am_setI h a i.toNatClampNeg x)
  | .aastore => ∃ v i a r, st = .ref v :: .int i :: .ref a :: r ∧ 0 < a ∧ a < am_n h ∧ 9 ≤ am_k h a ∧ am_k h a ≤ 12 ∧ 0 < v ∧ v < am_n h ∧ am_k h v = am_el (am_k h a) ∧ vp_in i (am_l h a) ∧ K (pc + 1) ls r (am_setR h a i.toNatClampNeg (some v))
  | .arraylength => ∃ a r, st = .ref a :: r ∧ a < am_n h ∧ 7 ≤ am_k h a ∧ am_k h a ≤ 12 ∧ K (pc + 1) ls (.int (Int32.ofNat (am_l h a)) :: r) h
  | .invokevirtual _ => ∃ as a r rv h', st = as.reverse ++ .ref a :: r ∧ as.length = e.2.2.2.1 ∧ (r.map fun v => v.category).sum ≤ 8 ∧ 0 < a ∧ a < am_n h ∧ am_k h a = am_own e.2.2.1 ∧ Cal e.2.2.1 (.ref a :: as) h rv h' ∧ K (pc + 3) ls (rv.toList ++ r) h'
  | .invokestatic _ => (e.2.2.1 = 119 ∧ ∃ x r, st = .int x :: r ∧ (r.map fun v => v.category).sum ≤ 8 ∧ K (pc + 3) ls (.int (if 0 ≤ x then x else 0 - x) :: r) h) ∨
      (e.2.2.1 = 120 ∧ ∃ x y r, st = .int y :: .int x :: r ∧ (r.map fun v => v.category).sum ≤ 8 ∧ K (pc + 3) ls (.int (if x < y then y else x) :: r) h) ∨
      (e.2.2.1 = 121 ∧ ∃ x y r, st = .int y :: .int x :: r ∧ (r.map fun v => v.category).sum ≤ 8 ∧ K (pc + 3) ls (.int (if y < x then y else x) :: r) h) ∨
      (e.2.2.1 < 119 ∧ ∃ as r rv h', st = as.reverse ++ r ∧ as.length = e.2.2.2.1 ∧ (r.map fun v => v.category).sum ≤ 8 ∧ Cal e.2.2.1 as h rv h' ∧ K (pc + 3) ls (rv.toList ++ r) h')
  | .invokespecial _ => (e.2.2.1 = 999 ∧ ∃ a r, st = .ref a :: r ∧ (r.map fun v => v.category).sum ≤ 8 ∧ K (pc + 3) ls r h) ∨
      (¬ e.2.2.1 = 999 ∧ ∃ as a r rv h', st = as.reverse ++ .ref a :: r ∧ as.length = e.2.2.2.1 ∧ (r.map fun v => v.category).sum ≤ 8 ∧ Cal e.2.2.1 (.ref a :: as) h rv h' ∧ K (pc + 3) ls (rv.toList ++ r) h')
  | .ireturn => ∃ x, st = [.int x] ∧ (e.2.2.1 = 1 → x = 0 ∨ x = 1) ∧ Q (some (.int x)) h
  | .areturn => ∃ x, st = [va_rf x] ∧ Q (some (va_rf x)) h
  | .return_ => st = [] ∧ Q none h
  | _ => False
def am_wp (cod : List am_E) (Cal : am_Ct) (Q : Option Value → Hp → Prop) : Nat → am_Kt
  | 0 => fun _ _ _ _ => False
  | n + 1 => fun pc ls st h => ∃ e, (pc, e) ∈ cod ∧ am_do (am_wp cod Cal Q n) Cal Q pc e ls st h
/-- a method's run, with calls at most d deep -/
def Res : Nat → am_Ct
  | 0 => fun _ _ _ _ _ => False
  | d + 1 => fun y as h rv h' => y < 119 ∧ ∃ n, as.length ≤ (am_m y).2.2.1 ∧ (∀ v ∈ as, v.category = 1) ∧ am_wp (am_m y).2.2.2.2.2 (Res d) (fun r1 h1 => r1 = rv ∧ h1 = h') n 0 (as.map some ++ List.replicate ((am_m y).2.2.1 - as.length) none) [] h
/-! the words that hold in every method -/
def am_tbl : List Jvm.Cond := lw_tbl.filter goodWord
def am_w (y : Nat) : List Jvm.Cond := Jvm.Cond.code (am_m y).1 (am_m y).2.1 (am_m y).2.2.1 (am_m y).2.2.2.1 :: am_tbl
def am_at (i : Nat) (w : Jvm.Cond) : Bool := decide (lw_tbl[i]? = some w) && goodWord w
theorem am_at_mem {i : Nat} {w : Jvm.Cond} (h : am_at i w = true) : w ∈ am_tbl := by
  simp only [am_at, Bool.and_eq_true, decide_eq_true_eq] at h
  exact List.mem_filter.mpr ⟨List.mem_of_getElem? h.1, h.2⟩
theorem am_tbl_good {w : Jvm.Cond} (h : w ∈ am_tbl) : (w.onTables && w.keeps) = true ∨ ∃ ty, w = .arrayClass ty := good_of_word (List.mem_filter.mp h).2
/-- what is checked of a method: its words -/
def am_mchk (y : Nat) : Bool :=
  let q := am_pos.getD y (0, 0, 0, 0, 0, 0)
  let x := (am_m y).1
  am_at q.1 (.code x (am_m y).2.1 (am_m y).2.2.1 (am_m y).2.2.2.1) && (if q.2.2.1 = 1 then am_at q.2.1 (.static x) else am_at q.2.1 (.instanceMethod x)) && am_at q.2.2.2.2.1 (.initialized x.cls)
    && decide (x.cls ≠ "java/lang/invoke/MethodHandle") && decide (x.cls ≠ "java/lang/invoke/VarHandle") && decide ((parseMethodDescriptor x.desc).map (fun d => d.parameters.length) = some q.2.2.2.2.2) && plainName x.cls && decide ((am_m y).2.2.1 ≤ 10)
def am_Z : Jvm.Cond := .methodLinkNest RX4 40 yX5_dayOf RX5
def am_len (i : Instr) (n : Nat) : Bool := match i with
  | .iload _ => n == 2 | .iload_n _ => n == 1 | .aload _ => n == 2 | .aload_n _ => n == 1 | .istore _ => n == 2 | .istore_n _ => n == 1 | .astore _ => n == 2 | .astore_n _ => n == 1
  | .bipush _ => n == 2 | .sipush _ => n == 3 | .ldc _ => n == 2 | .iinc _ _ => n == 3 | .goto _ => n == 3 | .ifCond _ _ => n == 3 | .if_icmp _ _ => n == 3 | .ifnull _ => n == 3 | .ifnonnull _ => n == 3 | .if_acmp _ _ => n == 3
  | .tableswitch _ _ _ _ => true | .getfield _ => n == 3 | .putfield _ => n == 3 | .new _ => n == 3 | .newarray _ => n == 2 | .anewarray _ => n == 3 | .invokevirtual _ => n == 3 | .invokestatic _ => n == 3 | .invokespecial _ => n == 3
  | _ => n == 1
/-- what is checked of an instruction: that it stands in the bytes, and its links -/
def am_chk (M : am_M) (q : am_E) : Bool :=
  let r1 := q.2.2.2.1
  let r2 := q.2.2.2.2.1
  let r3 := q.2.2.2.2.2
  decide (decode M.2.1 q.1 = .ok (q.2.1, q.2.2.1)) && am_len q.2.1 q.2.2.1 && match q.2.1 with
  | .getfield idx => decide (r1 < 7) && decide (r2 < am_N r1) && am_at r3 (.fieldLink M.2.2.2.2.1 idx (am_T r1 r2).1 (am_T r1 r2).2.1 (am_T r1 r2).2.2.1)
  | .putfield idx => decide (r1 < 7) && decide (r2 < am_N r1) && am_at r3 (.fieldLink M.2.2.2.2.1 idx (am_T r1 r2).1 (am_T r1 r2).2.1 (am_T r1 r2).2.2.1) && (!(am_T r1 r2).2.2.2 || (decide ((am_T r1 r2).1 = M.2.2.2.2.1) && decide (M.1.name = "<init>")))
  | .goto off => decide ((q.1 : Int) + off = (r1 : Int))
  | .ifCond _ off => decide ((q.1 : Int) + off = (r1 : Int))
  | .if_icmp _ off => decide ((q.1 : Int) + off = (r1 : Int))
  | .if_acmp _ off => decide ((q.1 : Int) + off = (r1 : Int))
  | .ifnull off => decide ((q.1 : Int) + off = (r1 : Int))
  | .ifnonnull off => decide ((q.1 : Int) + off = (r1 : Int))
  | .ldc idx => am_at r3 (.constant M.2.2.2.2.1 idx (Int32.ofNat r1))
  | .new idx => decide (r1 < 7) && am_at r3 (.classLink M.2.2.2.2.1 idx (am_C r1))
  | .newarray t => decide (t = .int ∧ r1 = 7) || decide (t = .boolean ∧ r1 = 8)
  | .anewarray idx => decide (9 ≤ r1) && decide (r1 ≤ 12) && am_at r3 (.classLink M.2.2.2.2.1 idx (am_C (am_el r1)))
  | .invokevirtual idx => am_at r3 (.methodLink M.2.2.2.2.1 idx (am_m r1).1) && am_mchk r1 && decide ((am_pos.getD r1 (0, 0, 0, 0, 0, 0)).2.2.1 = 0) && decide ((am_pos.getD r1 (0, 0, 0, 0, 0, 0)).2.2.2.2.2 = r2) && am_at (am_pos.getD r1 (0, 0, 0, 0, 0, 0)).2.2.2.1 (.selects (am_m r1).1.cls (am_m r1).1 (am_m r1).1) && decide ((am_m r1).1.cls = am_C (am_own r1)) && decide (am_own r1 < 7)
  | .invokestatic idx => if r1 = 119 then am_at r3 (.methodLink M.2.2.2.2.1 idx Lib.Math.abs.name) else if r1 = 120 then am_at r3 (.methodLink M.2.2.2.2.1 idx Lib.Math.max.name) else if r1 = 121 then am_at r3 (.methodLink M.2.2.2.2.1 idx Lib.Math.min.name) else
      am_mchk r1 && decide ((am_pos.getD r1 (0, 0, 0, 0, 0, 0)).2.2.1 = 1) && decide ((am_pos.getD r1 (0, 0, 0, 0, 0, 0)).2.2.2.2.2 = r2) && (am_at r3 (.methodLink M.2.2.2.2.1 idx (am_m r1).1) || decide (Jvm.Cond.methodLinkNest M.2.2.2.2.1 idx (am_m r1).1 RX5 = am_Z))
  | .invokespecial idx => if r1 = 999 then am_at r3 (.methodLink M.2.2.2.2.1 idx objectInit) else
      am_at r3 (.methodLink M.2.2.2.2.1 idx (am_m r1).1) && am_mchk r1 && decide ((am_pos.getD r1 (0, 0, 0, 0, 0, 0)).2.2.1 = 0) && decide ((am_pos.getD r1 (0, 0, 0, 0, 0, 0)).2.2.2.2.2 = r2) && decide ((am_m r1).1.name = "<init>") && decide ((am_m r1).2.2.2.1 = none)
  | .ireturn => decide (r1 = 0 ∧ M.2.2.2.1 = some .int) || decide (r1 = 1 ∧ M.2.2.2.1 = some .boolean)
  | .areturn => match M.2.2.2.1 with | some (.object _) => true | _ => false
  | .return_ => decide (M.2.2.2.1 = none)
  | _ => true
theorem am_obj1 : Jvm.Cond.instanceMethod objectInit ∈ am_tbl := am_at_mem (i := 52) (by decide +kernel)
theorem am_obj2 : Jvm.Cond.code objectInit ⟨#[0xb1]⟩ 1 none ∈ am_tbl := am_at_mem (i := 53) (by decide +kernel)
theorem am_max1 : Jvm.Cond.static Lib.Math.max.name ∈ am_tbl := am_at_mem (i := 319) (by decide +kernel)
theorem am_max2 : Jvm.Cond.code Lib.Math.max.name Lib.Math.max.code 2 (some .int) ∈ am_tbl := am_at_mem (i := 320) (by decide +kernel)
theorem am_min1 : Jvm.Cond.static Lib.Math.min.name ∈ am_tbl := am_at_mem (i := 322) (by decide +kernel)
theorem am_min2 : Jvm.Cond.code Lib.Math.min.name Lib.Math.min.code 2 (some .int) ∈ am_tbl := am_at_mem (i := 323) (by decide +kernel)
theorem am_abs1 : Jvm.Cond.static Lib.Math.abs.name ∈ am_tbl := am_at_mem (i := 325) (by decide +kernel)
theorem am_abs2 : Jvm.Cond.code Lib.Math.abs.name Lib.Math.abs.code 1 (some .int) ∈ am_tbl := am_at_mem (i := 326) (by decide +kernel)
theorem am_math : Jvm.Cond.initialized "java/lang/Math" ∈ am_tbl := am_at_mem (i := 44) (by decide +kernel)
