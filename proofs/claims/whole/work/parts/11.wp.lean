/-! RUNS OF THE ABSTRACT MACHINE, goal first: a rule an instruction -/
def WP (cod : List am_E) (Cal : am_Ct) (Q : Option Value → Hp → Prop) (pc : Nat) (ls : am_Ls) (st : List Value) (h : Hp) : Prop := ∃ n, am_wp cod Cal Q n pc ls st h
def Ob (h : Hp) (a ci : Nat) : Prop := 0 < a ∧ a < am_n h ∧ am_k h a = ci
/-- the same heap, but the reference's cells (10 to 37) hold the ints S -/
def am_wi (h : Hp) (S : Nat → Nat → Int32) : Hp := (am_n h, am_z h, am_k h, am_l h, fun x j => if 10 ≤ x ∧ x ≤ 37 then S x j else am_i h x j, am_r h)
def up2 (S : Nat → Nat → Int32) (a k : Nat) (v : Int32) : Nat → Nat → Int32 := fun x j => if x = a ∧ j = k then v else S x j
theorem am_wi_set (h : Hp) (S : Nat → Nat → Int32) (a k : Nat) (v : Int32) (h1 : Nat.ble 10 a = true) (h2 : Nat.ble a 37 = true) : am_setI (am_wi h S) a k v = am_wi h (up2 S a k v) := by
  have g1 := Nat.le_of_ble_eq_true h1
  have g2 := Nat.le_of_ble_eq_true h2
  unfold am_wi am_setI up2
  simp only [am_n, am_z, am_k, am_l, am_r, am_i]
  congr 5
  funext x j
  by_cases e : x = a ∧ j = k
  · obtain ⟨rfl, rfl⟩ := e
    simp [g1, g2]
  · simp [e]
theorem am_wi_self {h : Hp} {S : Nat → Nat → Int32} (hS : ∀ a, 10 ≤ a → a ≤ 37 → am_i h a = S a) : am_wi h S = h := by
  unfold am_wi
  have e : (fun x j => if 10 ≤ x ∧ x ≤ 37 then S x j else am_i h x j) = am_i h := by
    funext x j
    split
    · rename_i q; rw [hS x q.1 q.2]
    · rfl
  rw [e]
  rfl
theorem am_wi_row {h : Hp} {S : Nat → Nat → Int32} {a : Nat} (h1 : 10 ≤ a) (h2 : a ≤ 37) : am_i (am_wi h S) a = S a := by
  funext j
  show (if 10 ≤ a ∧ a ≤ 37 then S a j else am_i h a j) = S a j
  rw [if_pos ⟨h1, h2⟩]
theorem am_wi_off {h : Hp} {S : Nat → Nat → Int32} {a : Nat} (e : ¬ (10 ≤ a ∧ a ≤ 37)) : am_i (am_wi h S) a = am_i h a := by
  funext j
  show (if 10 ≤ a ∧ a ≤ 37 then S a j else am_i h a j) = am_i h a j
  rw [if_neg e]
theorem am_wp_mono {cod : List am_E} {Cal : am_Ct} {Q : Option Value → Hp → Prop} : ∀ (n : Nat) (pc : Nat) (ls : am_Ls) (st : List Value) (h : Hp), am_wp cod Cal Q n pc ls st h → ∀ k, n ≤ k → am_wp cod Cal Q k pc ls st h := by
  have key : ∀ n, (∀ pc ls st h, am_wp cod Cal Q n pc ls st h → am_wp cod Cal Q (n + 1) pc ls st h) := by
    intro n
    induction n with
    | zero => intro pc ls st h hw; exact hw.elim
    | succ n ih =>
      intro pc ls st h hw
      obtain ⟨q, hm, hdo⟩ := hw
      refine ⟨q, hm, ?_⟩
      obtain ⟨i, len, r1, r2, r3⟩ := q
      cases i with
      | if_acmp cnd off =>
        cases cnd with
        | ne => exact hdo
        | eq => obtain ⟨x, y, r, h0, k1, k2⟩ := hdo; exact ⟨x, y, r, h0, fun z => ih _ _ _ _ (k1 z), fun z => ih _ _ _ _ (k2 z)⟩
      | ifCond cnd off => obtain ⟨x, r, h0, k1, k2⟩ := hdo; exact ⟨x, r, h0, fun z => ih _ _ _ _ (k1 z), fun z => ih _ _ _ _ (k2 z)⟩
      | if_icmp cnd off => obtain ⟨x, y, r, h0, k1, k2⟩ := hdo; exact ⟨x, y, r, h0, fun z => ih _ _ _ _ (k1 z), fun z => ih _ _ _ _ (k2 z)⟩
      | ifnull off => obtain ⟨x, r, h0, k1, k2⟩ := hdo; exact ⟨x, r, h0, fun z => ih _ _ _ _ (k1 z), fun z => ih _ _ _ _ (k2 z)⟩
      | ifnonnull off => obtain ⟨x, r, h0, k1, k2⟩ := hdo; exact ⟨x, r, h0, fun z => ih _ _ _ _ (k1 z), fun z => ih _ _ _ _ (k2 z)⟩
      | iload j => obtain ⟨x, h1, hk⟩ := hdo; exact ⟨x, h1, ih _ _ _ _ hk⟩
      | iload_n j => obtain ⟨x, h1, hk⟩ := hdo; exact ⟨x, h1, ih _ _ _ _ hk⟩
      | aload j => obtain ⟨x, h1, hk⟩ := hdo; exact ⟨x, h1, ih _ _ _ _ hk⟩
      | aload_n j => obtain ⟨x, h1, hk⟩ := hdo; exact ⟨x, h1, ih _ _ _ _ hk⟩
      | istore j => obtain ⟨x, r, h0, h1, hk⟩ := hdo; exact ⟨x, r, h0, h1, ih _ _ _ _ hk⟩
      | istore_n j => obtain ⟨x, r, h0, h1, hk⟩ := hdo; exact ⟨x, r, h0, h1, ih _ _ _ _ hk⟩
      | astore j => obtain ⟨x, r, h0, h1, hk⟩ := hdo; exact ⟨x, r, h0, h1, ih _ _ _ _ hk⟩
      | astore_n j => obtain ⟨x, r, h0, h1, hk⟩ := hdo; exact ⟨x, r, h0, h1, ih _ _ _ _ hk⟩
      | iconst n => exact ih _ _ _ _ hdo
      | bipush n => exact ih _ _ _ _ hdo
      | sipush n => exact ih _ _ _ _ hdo
      | ldc n => exact ih _ _ _ _ hdo
      | aconst_null => exact ih _ _ _ _ hdo
      | goto n => exact ih _ _ _ _ hdo
      | new n => exact ih _ _ _ _ hdo
      | iinc j n => obtain ⟨x, h1, hk⟩ := hdo; exact ⟨x, h1, ih _ _ _ _ hk⟩
      | iadd => obtain ⟨x, y, r, h0, hk⟩ := hdo; exact ⟨x, y, r, h0, ih _ _ _ _ hk⟩
      | isub => obtain ⟨x, y, r, h0, hk⟩ := hdo; exact ⟨x, y, r, h0, ih _ _ _ _ hk⟩
      | imul => obtain ⟨x, y, r, h0, hk⟩ := hdo; exact ⟨x, y, r, h0, ih _ _ _ _ hk⟩
      | iand => obtain ⟨x, y, r, h0, hk⟩ := hdo; exact ⟨x, y, r, h0, ih _ _ _ _ hk⟩
      | ishl => obtain ⟨x, y, r, h0, hk⟩ := hdo; exact ⟨x, y, r, h0, ih _ _ _ _ hk⟩
      | ishr => obtain ⟨x, y, r, h0, hk⟩ := hdo; exact ⟨x, y, r, h0, ih _ _ _ _ hk⟩
      | idiv => obtain ⟨x, y, r, h0, h1, hk⟩ := hdo; exact ⟨x, y, r, h0, h1, ih _ _ _ _ hk⟩
      | irem => obtain ⟨x, y, r, h0, h1, hk⟩ := hdo; exact ⟨x, y, r, h0, h1, ih _ _ _ _ hk⟩
      | ineg => obtain ⟨x, r, h0, hk⟩ := hdo; exact ⟨x, r, h0, ih _ _ _ _ hk⟩
      | dup => obtain ⟨x, r, h0, h1, hk⟩ := hdo; exact ⟨x, r, h0, h1, ih _ _ _ _ hk⟩
      | dup2 => obtain ⟨x, y, r, h0, h1, h2, hk⟩ := hdo; exact ⟨x, y, r, h0, h1, h2, ih _ _ _ _ hk⟩
      | tableswitch d lo hi offs => obtain ⟨x, r, t, h0, h1, hk⟩ := hdo; exact ⟨x, r, t, h0, h1, ih _ _ _ _ hk⟩
      | getfield idx => obtain ⟨a, r, h0, h1, h2, h3, hk⟩ := hdo; exact ⟨a, r, h0, h1, h2, h3, ih _ _ _ _ hk⟩
      | putfield idx =>
        obtain ⟨a, v, r, h0, h1, h2, h3, hk⟩ := hdo
        rcases hk with ⟨f1, x, hv, hk⟩ | ⟨f1, x, hv, hx, hk⟩
        · exact ⟨a, v, r, h0, h1, h2, h3, Or.inl ⟨f1, x, hv, ih _ _ _ _ hk⟩⟩
        · exact ⟨a, v, r, h0, h1, h2, h3, Or.inr ⟨f1, x, hv, hx, ih _ _ _ _ hk⟩⟩
      | newarray at1 => obtain ⟨k, r, h0, h1, h2, hk⟩ := hdo; exact ⟨k, r, h0, h1, h2, ih _ _ _ _ hk⟩
      | anewarray at1 => obtain ⟨k, r, h0, h1, h2, hk⟩ := hdo; exact ⟨k, r, h0, h1, h2, ih _ _ _ _ hk⟩
      | iaload => obtain ⟨i, a, r, h0, h1, h2, h3, hk⟩ := hdo; exact ⟨i, a, r, h0, h1, h2, h3, ih _ _ _ _ hk⟩
      | baload => obtain ⟨i, a, r, h0, h1, h2, h3, h4, hk⟩ := hdo; exact ⟨i, a, r, h0, h1, h2, h3, h4, ih _ _ _ _ hk⟩
      | aaload => obtain ⟨i, a, r, h0, h1, h2, h3, h4, h5, hk⟩ := hdo; exact ⟨i, a, r, h0, h1, h2, h3, h4, h5, ih _ _ _ _ hk⟩
      | iastore => obtain ⟨x, i, a, r, h0, h1, h2, h3, h4, hk⟩ := hdo; exact ⟨x, i, a, r, h0, h1, h2, h3, h4, ih _ _ _ _ hk⟩
      | bastore => obtain ⟨x, i, a, r, h0, h1, h2, h3, h4, h5, hk⟩ := hdo; exact ⟨x, i, a, r, h0, h1, h2, h3, h4, h5, ih _ _ _ _ hk⟩
      | aastore => obtain ⟨v, i, a, r, h0, h1, h2, h3, h4, h5, h6, h7, h8, hk⟩ := hdo; exact ⟨v, i, a, r, h0, h1, h2, h3, h4, h5, h6, h7, h8, ih _ _ _ _ hk⟩
      | arraylength => obtain ⟨a, r, h0, h1, h2, h3, hk⟩ := hdo; exact ⟨a, r, h0, h1, h2, h3, ih _ _ _ _ hk⟩
      | invokevirtual idx => obtain ⟨as, a, r, rv, h', h0, h1, h2, h3, h4, h5, h6, hk⟩ := hdo; exact ⟨as, a, r, rv, h', h0, h1, h2, h3, h4, h5, h6, ih _ _ _ _ hk⟩
      | invokestatic idx =>
        rcases hdo with ⟨e1, x, r, h0, h2, hk⟩ | ⟨e1, x, y, r, h0, h2, hk⟩ | ⟨e1, x, y, r, h0, h2, hk⟩ | ⟨e1, as, r, rv, h', h0, h1, h2, h6, hk⟩
        · exact Or.inl ⟨e1, x, r, h0, h2, ih _ _ _ _ hk⟩
        · exact Or.inr (Or.inl ⟨e1, x, y, r, h0, h2, ih _ _ _ _ hk⟩)
        · exact Or.inr (Or.inr (Or.inl ⟨e1, x, y, r, h0, h2, ih _ _ _ _ hk⟩))
        · exact Or.inr (Or.inr (Or.inr ⟨e1, as, r, rv, h', h0, h1, h2, h6, ih _ _ _ _ hk⟩))
      | invokespecial idx =>
        rcases hdo with ⟨e1, a, r, h0, h2, hk⟩ | ⟨e1, as, a, r, rv, h', h0, h1, h2, h6, hk⟩
        · exact Or.inl ⟨e1, a, r, h0, h2, ih _ _ _ _ hk⟩
        · exact Or.inr ⟨e1, as, a, r, rv, h', h0, h1, h2, h6, ih _ _ _ _ hk⟩
      | ireturn => exact hdo
      | areturn => exact hdo
      | return_ => exact hdo
      | _ => exact hdo.elim
  intro n pc ls st h hw k hk
  obtain ⟨j, rfl⟩ := Nat.exists_eq_add_of_le hk
  clear hk
  induction j with
  | zero => exact hw
  | succ j ih => exact key _ _ _ _ _ ih
section WPR
variable {cod : List am_E} {Cal : am_Ct} {Q : Option Value → Hp → Prop} {pc : Nat} {ls ls' : am_Ls} {st : List Value} {h : Hp} {len r1 r2 r3 : Nat}
theorem wp_iload {j : Nat} (hm : (pc, Instr.iload j, len, r1, r2, r3) ∈ cod) {x : Int32} (hl : ls[j]? = some (some (.int x))) (k : WP cod Cal Q (pc + 2) ls (.int x :: st) h) : WP cod Cal Q pc ls st h := by
  obtain ⟨n, hn⟩ := k; exact ⟨n + 1, _, hm, x, hl, hn⟩
theorem wp_iload_n {j : Fin 4} (hm : (pc, Instr.iload_n j, len, r1, r2, r3) ∈ cod) {x : Int32} (hl : ls[(j : Nat)]? = some (some (.int x))) (k : WP cod Cal Q (pc + 1) ls (.int x :: st) h) : WP cod Cal Q pc ls st h := by
  obtain ⟨n, hn⟩ := k; exact ⟨n + 1, _, hm, x, hl, hn⟩
theorem wp_aload {j : Nat} (hm : (pc, Instr.aload j, len, r1, r2, r3) ∈ cod) {x : Nat} (hl : ls[j]? = some (some (.ref x))) (k : WP cod Cal Q (pc + 2) ls (.ref x :: st) h) : WP cod Cal Q pc ls st h := by
  obtain ⟨n, hn⟩ := k; exact ⟨n + 1, _, hm, some x, hl, hn⟩
theorem wp_aload_n {j : Fin 4} (hm : (pc, Instr.aload_n j, len, r1, r2, r3) ∈ cod) {x : Nat} (hl : ls[(j : Nat)]? = some (some (.ref x))) (k : WP cod Cal Q (pc + 1) ls (.ref x :: st) h) : WP cod Cal Q pc ls st h := by
  obtain ⟨n, hn⟩ := k; exact ⟨n + 1, _, hm, some x, hl, hn⟩
theorem wp_aloadO {j : Nat} (hm : (pc, Instr.aload j, len, r1, r2, r3) ∈ cod) {x : Option Nat} (hl : ls[j]? = some (some (va_rf x))) (k : WP cod Cal Q (pc + 2) ls (va_rf x :: st) h) : WP cod Cal Q pc ls st h := by
  obtain ⟨n, hn⟩ := k; exact ⟨n + 1, _, hm, x, hl, hn⟩
theorem wp_aload_nO {j : Fin 4} (hm : (pc, Instr.aload_n j, len, r1, r2, r3) ∈ cod) {x : Option Nat} (hl : ls[(j : Nat)]? = some (some (va_rf x))) (k : WP cod Cal Q (pc + 1) ls (va_rf x :: st) h) : WP cod Cal Q pc ls st h := by
  obtain ⟨n, hn⟩ := k; exact ⟨n + 1, _, hm, x, hl, hn⟩
theorem wp_istore {j : Nat} (hm : (pc, Instr.istore j, len, r1, r2, r3) ∈ cod) {x : Int32} (hj : Nat.blt j ls.length = true) (hs : ls.set j (some (.int x)) = ls') (k : WP cod Cal Q (pc + 2) ls' st h) : WP cod Cal Q pc ls (.int x :: st) h := by
  subst hs; obtain ⟨n, hn⟩ := k; exact ⟨n + 1, _, hm, x, _, rfl, Nat.le_of_ble_eq_true hj, hn⟩
theorem wp_istore_n {j : Fin 4} (hm : (pc, Instr.istore_n j, len, r1, r2, r3) ∈ cod) {x : Int32} (hj : Nat.blt j ls.length = true) (hs : ls.set j (some (.int x)) = ls') (k : WP cod Cal Q (pc + 1) ls' st h) : WP cod Cal Q pc ls (.int x :: st) h := by
  subst hs; obtain ⟨n, hn⟩ := k; exact ⟨n + 1, _, hm, x, _, rfl, Nat.le_of_ble_eq_true hj, hn⟩
theorem wp_astore {j : Nat} (hm : (pc, Instr.astore j, len, r1, r2, r3) ∈ cod) {x : Nat} (hj : Nat.blt j ls.length = true) (hs : ls.set j (some (.ref x)) = ls') (k : WP cod Cal Q (pc + 2) ls' st h) : WP cod Cal Q pc ls (.ref x :: st) h := by
  subst hs; obtain ⟨n, hn⟩ := k; exact ⟨n + 1, _, hm, some x, _, rfl, Nat.le_of_ble_eq_true hj, hn⟩
theorem wp_astore_n {j : Fin 4} (hm : (pc, Instr.astore_n j, len, r1, r2, r3) ∈ cod) {x : Nat} (hj : Nat.blt j ls.length = true) (hs : ls.set j (some (.ref x)) = ls') (k : WP cod Cal Q (pc + 1) ls' st h) : WP cod Cal Q pc ls (.ref x :: st) h := by
  subst hs; obtain ⟨n, hn⟩ := k; exact ⟨n + 1, _, hm, some x, _, rfl, Nat.le_of_ble_eq_true hj, hn⟩
theorem wp_astoreO {j : Nat} (hm : (pc, Instr.astore j, len, r1, r2, r3) ∈ cod) {x : Option Nat} (hj : Nat.blt j ls.length = true) (hs : ls.set j (some (va_rf x)) = ls') (k : WP cod Cal Q (pc + 2) ls' st h) : WP cod Cal Q pc ls (va_rf x :: st) h := by
  subst hs; obtain ⟨n, hn⟩ := k; exact ⟨n + 1, _, hm, x, _, rfl, Nat.le_of_ble_eq_true hj, hn⟩
theorem wp_astore_nO {j : Fin 4} (hm : (pc, Instr.astore_n j, len, r1, r2, r3) ∈ cod) {x : Option Nat} (hj : Nat.blt j ls.length = true) (hs : ls.set j (some (va_rf x)) = ls') (k : WP cod Cal Q (pc + 1) ls' st h) : WP cod Cal Q pc ls (va_rf x :: st) h := by
  subst hs; obtain ⟨n, hn⟩ := k; exact ⟨n + 1, _, hm, x, _, rfl, Nat.le_of_ble_eq_true hj, hn⟩
theorem wp_iconst {i : Int} (hm : (pc, Instr.iconst i, len, r1, r2, r3) ∈ cod) {v : Int32} (hv : Int32.ofInt i = v) (k : WP cod Cal Q (pc + 1) ls (.int v :: st) h) : WP cod Cal Q pc ls st h := by
  subst hv; obtain ⟨n, hn⟩ := k; exact ⟨n + 1, _, hm, hn⟩
theorem wp_bipush {i : Int} (hm : (pc, Instr.bipush i, len, r1, r2, r3) ∈ cod) {v : Int32} (hv : (Int8.ofInt i).toInt32 = v) (k : WP cod Cal Q (pc + 2) ls (.int v :: st) h) : WP cod Cal Q pc ls st h := by
  subst hv; obtain ⟨n, hn⟩ := k; exact ⟨n + 1, _, hm, hn⟩
theorem wp_sipush {i : Int} (hm : (pc, Instr.sipush i, len, r1, r2, r3) ∈ cod) {v : Int32} (hv : (Int16.ofInt i).toInt32 = v) (k : WP cod Cal Q (pc + 3) ls (.int v :: st) h) : WP cod Cal Q pc ls st h := by
  subst hv; obtain ⟨n, hn⟩ := k; exact ⟨n + 1, _, hm, hn⟩
theorem wp_ldc {i : Nat} (hm : (pc, Instr.ldc i, len, r1, r2, r3) ∈ cod) {v : Int32} (hv : Int32.ofNat r1 = v) (k : WP cod Cal Q (pc + 2) ls (.int v :: st) h) : WP cod Cal Q pc ls st h := by
  subst hv; obtain ⟨n, hn⟩ := k; exact ⟨n + 1, _, hm, hn⟩
theorem wp_null (hm : (pc, Instr.aconst_null, len, r1, r2, r3) ∈ cod) (k : WP cod Cal Q (pc + 1) ls (va_rf none :: st) h) : WP cod Cal Q pc ls st h := by
  obtain ⟨n, hn⟩ := k; exact ⟨n + 1, _, hm, hn⟩
theorem wp_iinc {j : Nat} {i : Int} (hm : (pc, Instr.iinc j i, len, r1, r2, r3) ∈ cod) {x v : Int32} (hl : ls[j]? = some (some (.int x))) (hv : x + Int32.ofInt i = v) (hs : ls.set j (some (.int v)) = ls') (k : WP cod Cal Q (pc + 3) ls' st h) : WP cod Cal Q pc ls st h := by
  subst hv; subst hs; obtain ⟨n, hn⟩ := k; exact ⟨n + 1, _, hm, x, hl, hn⟩
theorem wp_iadd (hm : (pc, Instr.iadd, len, r1, r2, r3) ∈ cod) {x y : Int32} (k : WP cod Cal Q (pc + 1) ls (.int (x + y) :: st) h) : WP cod Cal Q pc ls (.int y :: .int x :: st) h := by
  obtain ⟨n, hn⟩ := k; exact ⟨n + 1, _, hm, x, y, _, rfl, hn⟩
theorem wp_isub (hm : (pc, Instr.isub, len, r1, r2, r3) ∈ cod) {x y : Int32} (k : WP cod Cal Q (pc + 1) ls (.int (x - y) :: st) h) : WP cod Cal Q pc ls (.int y :: .int x :: st) h := by
  obtain ⟨n, hn⟩ := k; exact ⟨n + 1, _, hm, x, y, _, rfl, hn⟩
theorem wp_imul (hm : (pc, Instr.imul, len, r1, r2, r3) ∈ cod) {x y : Int32} (k : WP cod Cal Q (pc + 1) ls (.int (x * y) :: st) h) : WP cod Cal Q pc ls (.int y :: .int x :: st) h := by
  obtain ⟨n, hn⟩ := k; exact ⟨n + 1, _, hm, x, y, _, rfl, hn⟩
theorem wp_iand (hm : (pc, Instr.iand, len, r1, r2, r3) ∈ cod) {x y : Int32} (k : WP cod Cal Q (pc + 1) ls (.int (x &&& y) :: st) h) : WP cod Cal Q pc ls (.int y :: .int x :: st) h := by
  obtain ⟨n, hn⟩ := k; exact ⟨n + 1, _, hm, x, y, _, rfl, hn⟩
theorem wp_ishl (hm : (pc, Instr.ishl, len, r1, r2, r3) ∈ cod) {x y : Int32} (k : WP cod Cal Q (pc + 1) ls (.int (x <<< (y &&& 31)) :: st) h) : WP cod Cal Q pc ls (.int y :: .int x :: st) h := by
  obtain ⟨n, hn⟩ := k; exact ⟨n + 1, _, hm, x, y, _, rfl, hn⟩
theorem wp_ishr (hm : (pc, Instr.ishr, len, r1, r2, r3) ∈ cod) {x y : Int32} (k : WP cod Cal Q (pc + 1) ls (.int (x >>> (y &&& 31)) :: st) h) : WP cod Cal Q pc ls (.int y :: .int x :: st) h := by
  obtain ⟨n, hn⟩ := k; exact ⟨n + 1, _, hm, x, y, _, rfl, hn⟩
theorem wp_idiv (hm : (pc, Instr.idiv, len, r1, r2, r3) ∈ cod) {x y : Int32} (hy : ¬ y = 0) (k : WP cod Cal Q (pc + 1) ls (.int (x / y) :: st) h) : WP cod Cal Q pc ls (.int y :: .int x :: st) h := by
  obtain ⟨n, hn⟩ := k; exact ⟨n + 1, _, hm, x, y, _, rfl, hy, hn⟩
theorem wp_irem (hm : (pc, Instr.irem, len, r1, r2, r3) ∈ cod) {x y : Int32} (hy : ¬ y = 0) (k : WP cod Cal Q (pc + 1) ls (.int (x - x / y * y) :: st) h) : WP cod Cal Q pc ls (.int y :: .int x :: st) h := by
  obtain ⟨n, hn⟩ := k; exact ⟨n + 1, _, hm, x, y, _, rfl, hy, hn⟩
theorem wp_dup (hm : (pc, Instr.dup, len, r1, r2, r3) ∈ cod) {v : Value} (hv : v.category = 1) (k : WP cod Cal Q (pc + 1) ls (v :: v :: st) h) : WP cod Cal Q pc ls (v :: st) h := by
  obtain ⟨n, hn⟩ := k; exact ⟨n + 1, _, hm, v, _, rfl, hv, hn⟩
theorem wp_dup2 (hm : (pc, Instr.dup2, len, r1, r2, r3) ∈ cod) {v w : Value} (hv : v.category = 1) (hw : w.category = 1) (k : WP cod Cal Q (pc + 1) ls (v :: w :: v :: w :: st) h) : WP cod Cal Q pc ls (v :: w :: st) h := by
  obtain ⟨n, hn⟩ := k; exact ⟨n + 1, _, hm, v, w, _, rfl, hv, hw, hn⟩
theorem wp_goto {off : Int} (hm : (pc, Instr.goto off, len, r1, r2, r3) ∈ cod) (k : WP cod Cal Q r1 ls st h) : WP cod Cal Q pc ls st h := by
  obtain ⟨n, hn⟩ := k; exact ⟨n + 1, _, hm, hn⟩
theorem wp_if {c : Jvm.ClassFile.Cond} {off : Int} (hm : (pc, Instr.ifCond c off, len, r1, r2, r3) ∈ cod) {x : Int32} (k1 : am_cond c x 0 → WP cod Cal Q r1 ls st h) (k2 : ¬ am_cond c x 0 → WP cod Cal Q (pc + 3) ls st h) : WP cod Cal Q pc ls (.int x :: st) h := by
  by_cases q : am_cond c x 0
  · obtain ⟨n, hn⟩ := k1 q; exact ⟨n + 1, _, hm, x, _, rfl, fun _ => hn, fun z => absurd q z⟩
  · obtain ⟨n, hn⟩ := k2 q; exact ⟨n + 1, _, hm, x, _, rfl, fun z => absurd z q, fun _ => hn⟩
theorem wp_ifT {c : Jvm.ClassFile.Cond} {off : Int} (hm : (pc, Instr.ifCond c off, len, r1, r2, r3) ∈ cod) {x : Int32} (q : am_cond c x 0) (k : WP cod Cal Q r1 ls st h) : WP cod Cal Q pc ls (.int x :: st) h := wp_if hm (fun _ => k) (fun z => absurd q z)
theorem wp_ifF {c : Jvm.ClassFile.Cond} {off : Int} (hm : (pc, Instr.ifCond c off, len, r1, r2, r3) ∈ cod) {x : Int32} (q : ¬ am_cond c x 0) (k : WP cod Cal Q (pc + 3) ls st h) : WP cod Cal Q pc ls (.int x :: st) h := wp_if hm (fun z => absurd z q) (fun _ => k)
theorem wp_icmp {c : Jvm.ClassFile.Cond} {off : Int} (hm : (pc, Instr.if_icmp c off, len, r1, r2, r3) ∈ cod) {x y : Int32} (k1 : am_cond c x y → WP cod Cal Q r1 ls st h) (k2 : ¬ am_cond c x y → WP cod Cal Q (pc + 3) ls st h) : WP cod Cal Q pc ls (.int y :: .int x :: st) h := by
  by_cases q : am_cond c x y
  · obtain ⟨n, hn⟩ := k1 q; exact ⟨n + 1, _, hm, x, y, _, rfl, fun _ => hn, fun z => absurd q z⟩
  · obtain ⟨n, hn⟩ := k2 q; exact ⟨n + 1, _, hm, x, y, _, rfl, fun z => absurd z q, fun _ => hn⟩
theorem wp_icmpT {c : Jvm.ClassFile.Cond} {off : Int} (hm : (pc, Instr.if_icmp c off, len, r1, r2, r3) ∈ cod) {x y : Int32} (q : am_cond c x y) (k : WP cod Cal Q r1 ls st h) : WP cod Cal Q pc ls (.int y :: .int x :: st) h := wp_icmp hm (fun _ => k) (fun z => absurd q z)
theorem wp_icmpF {c : Jvm.ClassFile.Cond} {off : Int} (hm : (pc, Instr.if_icmp c off, len, r1, r2, r3) ∈ cod) {x y : Int32} (q : ¬ am_cond c x y) (k : WP cod Cal Q (pc + 3) ls st h) : WP cod Cal Q pc ls (.int y :: .int x :: st) h := wp_icmp hm (fun z => absurd z q) (fun _ => k)
theorem wp_ifnull {off : Int} (hm : (pc, Instr.ifnull off, len, r1, r2, r3) ∈ cod) {x : Option Nat} (k1 : x = none → WP cod Cal Q r1 ls st h) (k2 : ∀ a, x = some a → WP cod Cal Q (pc + 3) ls st h) : WP cod Cal Q pc ls (va_rf x :: st) h := by
  cases x with
  | none => obtain ⟨n, hn⟩ := k1 rfl; exact ⟨n + 1, _, hm, none, _, rfl, fun _ => hn, fun z => absurd rfl z⟩
  | some a => obtain ⟨n, hn⟩ := k2 a rfl; exact ⟨n + 1, _, hm, some a, _, rfl, fun z => (by cases z), fun _ => hn⟩
theorem wp_ifnullF {off : Int} (hm : (pc, Instr.ifnull off, len, r1, r2, r3) ∈ cod) {x : Nat} (k : WP cod Cal Q (pc + 3) ls st h) : WP cod Cal Q pc ls (.ref x :: st) h := wp_ifnull (x := some x) hm (fun z => by cases z) (fun _ _ => k)
theorem wp_ifnullT {off : Int} (hm : (pc, Instr.ifnull off, len, r1, r2, r3) ∈ cod) (k : WP cod Cal Q r1 ls st h) : WP cod Cal Q pc ls (va_rf none :: st) h := wp_ifnull (x := none) hm (fun _ => k) (fun _ z => by cases z)
theorem wp_ifnonnull {off : Int} (hm : (pc, Instr.ifnonnull off, len, r1, r2, r3) ∈ cod) {x : Option Nat} (k1 : ∀ a, x = some a → WP cod Cal Q r1 ls st h) (k2 : x = none → WP cod Cal Q (pc + 3) ls st h) : WP cod Cal Q pc ls (va_rf x :: st) h := by
  cases x with
  | none => obtain ⟨n, hn⟩ := k2 rfl; exact ⟨n + 1, _, hm, none, _, rfl, fun z => absurd rfl z, fun _ => hn⟩
  | some a => obtain ⟨n, hn⟩ := k1 a rfl; exact ⟨n + 1, _, hm, some a, _, rfl, fun _ => hn, fun z => by cases z⟩
theorem wp_ifnonnullT {off : Int} (hm : (pc, Instr.ifnonnull off, len, r1, r2, r3) ∈ cod) {x : Nat} (k : WP cod Cal Q r1 ls st h) : WP cod Cal Q pc ls (.ref x :: st) h := wp_ifnonnull (x := some x) hm (fun _ _ => k) (fun z => by cases z)
theorem wp_ifnonnullF {off : Int} (hm : (pc, Instr.ifnonnull off, len, r1, r2, r3) ∈ cod) (k : WP cod Cal Q (pc + 3) ls st h) : WP cod Cal Q pc ls (va_rf none :: st) h := wp_ifnonnull (x := none) hm (fun _ z => by cases z) (fun _ => k)
theorem wp_acmp {off : Int} (hm : (pc, Instr.if_acmp .eq off, len, r1, r2, r3) ∈ cod) {x y : Option Nat} (k1 : x = y → WP cod Cal Q r1 ls st h) (k2 : ¬ x = y → WP cod Cal Q (pc + 3) ls st h) : WP cod Cal Q pc ls (va_rf y :: va_rf x :: st) h := by
  by_cases q : x = y
  · obtain ⟨n, hn⟩ := k1 q; exact ⟨n + 1, _, hm, x, y, _, rfl, fun _ => hn, fun z => absurd q z⟩
  · obtain ⟨n, hn⟩ := k2 q; exact ⟨n + 1, _, hm, x, y, _, rfl, fun z => absurd z q, fun _ => hn⟩
theorem wp_acmpR {off : Int} (hm : (pc, Instr.if_acmp .eq off, len, r1, r2, r3) ∈ cod) {x y : Nat} (k1 : x = y → WP cod Cal Q r1 ls st h) (k2 : ¬ x = y → WP cod Cal Q (pc + 3) ls st h) : WP cod Cal Q pc ls (.ref y :: .ref x :: st) h := wp_acmp (x := some x) (y := some y) hm (fun z => k1 (Option.some.inj z)) (fun z => k2 (fun w => z (by rw [w])))
theorem wp_switch {d lo hi : Int} {offs : Array Int} (hm : (pc, Instr.tableswitch d lo hi offs, len, r1, r2, r3) ∈ cod) {x : Int32} {t : Nat} (ht : am_sw pc d lo hi offs x t) (k : WP cod Cal Q t ls st h) : WP cod Cal Q pc ls (.int x :: st) h := by
  obtain ⟨n, hn⟩ := k; exact ⟨n + 1, _, hm, x, _, t, rfl, ht, hn⟩
theorem wp_getI {idx ci k a : Nat} (hm : (pc, Instr.getfield idx, len, ci, k, r3) ∈ cod) (hO : Ob h a ci) (hf : Nat.blt (am_ft ci k) 2 = true) {v : Int32} (hv : am_i h a k = v) (kk : WP cod Cal Q (pc + 3) ls (.int v :: st) h) : WP cod Cal Q pc ls (.ref a :: st) h := by
  subst hv
  obtain ⟨n, hn⟩ := kk
  have e : am_fv h a ci k = .int (am_i h a k) := by unfold am_fv; rw [if_neg]; have := Nat.le_of_ble_eq_true hf; omega
  exact ⟨n + 1, _, hm, a, _, rfl, hO.1, hO.2.1, hO.2.2, by show am_wp cod Cal Q n (pc + 3) ls (am_fv h a ci k :: st) h; rw [e]; exact hn⟩
theorem wp_getO {idx ci k a : Nat} (hm : (pc, Instr.getfield idx, len, ci, k, r3) ∈ cod) (hO : Ob h a ci) (hf : Nat.beq (am_ft ci k) 2 = true) {v : Option Nat} (hv : am_r h a k = v) (kk : WP cod Cal Q (pc + 3) ls (va_rf v :: st) h) : WP cod Cal Q pc ls (.ref a :: st) h := by
  subst hv
  obtain ⟨n, hn⟩ := kk
  have e : am_fv h a ci k = va_rf (am_r h a k) := by unfold am_fv; rw [if_pos (Nat.eq_of_beq_eq_true hf)]
  exact ⟨n + 1, _, hm, a, _, rfl, hO.1, hO.2.1, hO.2.2, by show am_wp cod Cal Q n (pc + 3) ls (am_fv h a ci k :: st) h; rw [e]; exact hn⟩
theorem wp_getR {idx ci k a : Nat} (hm : (pc, Instr.getfield idx, len, ci, k, r3) ∈ cod) (hO : Ob h a ci) (hf : Nat.beq (am_ft ci k) 2 = true) {v : Nat} (hv : am_r h a k = some v) (kk : WP cod Cal Q (pc + 3) ls (.ref v :: st) h) : WP cod Cal Q pc ls (.ref a :: st) h := wp_getO hm hO hf hv kk
theorem wp_putI {idx ci k a : Nat} (hm : (pc, Instr.putfield idx, len, ci, k, r3) ∈ cod) (hO : Ob h a ci) (hf : Nat.beq (am_ft ci k) 0 = true) {x : Int32} {h' : Hp} (hh : am_setI h a k x = h') (kk : WP cod Cal Q (pc + 3) ls st h') : WP cod Cal Q pc ls (.int x :: .ref a :: st) h := by
  subst hh
  obtain ⟨n, hn⟩ := kk
  have e := Nat.eq_of_beq_eq_true hf
  exact ⟨n + 1, _, hm, a, _, _, rfl, hO.1, hO.2.1, hO.2.2, Or.inr ⟨by show am_ft ci k < 2; omega, x, rfl, fun z => by have z2 : am_ft ci k = 1 := z; omega, hn⟩⟩
theorem wp_putZ {idx ci k a : Nat} (hm : (pc, Instr.putfield idx, len, ci, k, r3) ∈ cod) (hO : Ob h a ci) (hf : Nat.beq (am_ft ci k) 1 = true) {x : Int32} (hx : x = 0 ∨ x = 1) {h' : Hp} (hh : am_setI h a k x = h') (kk : WP cod Cal Q (pc + 3) ls st h') : WP cod Cal Q pc ls (.int x :: .ref a :: st) h := by
  subst hh
  obtain ⟨n, hn⟩ := kk
  have e := Nat.eq_of_beq_eq_true hf
  exact ⟨n + 1, _, hm, a, _, _, rfl, hO.1, hO.2.1, hO.2.2, Or.inr ⟨by show am_ft ci k < 2; omega, x, rfl, fun _ => hx, hn⟩⟩
theorem wp_putO {idx ci k a : Nat} (hm : (pc, Instr.putfield idx, len, ci, k, r3) ∈ cod) (hO : Ob h a ci) (hf : Nat.beq (am_ft ci k) 2 = true) {x : Option Nat} {h' : Hp} (hh : am_setR h a k x = h') (kk : WP cod Cal Q (pc + 3) ls st h') : WP cod Cal Q pc ls (va_rf x :: .ref a :: st) h := by
  subst hh
  obtain ⟨n, hn⟩ := kk
  exact ⟨n + 1, _, hm, a, _, _, rfl, hO.1, hO.2.1, hO.2.2, Or.inl ⟨Nat.eq_of_beq_eq_true hf, x, rfl, hn⟩⟩
theorem wp_putR {idx ci k a : Nat} (hm : (pc, Instr.putfield idx, len, ci, k, r3) ∈ cod) (hO : Ob h a ci) (hf : Nat.beq (am_ft ci k) 2 = true) {x : Nat} {h' : Hp} (hh : am_setR h a k (some x) = h') (kk : WP cod Cal Q (pc + 3) ls st h') : WP cod Cal Q pc ls (.ref x :: .ref a :: st) h := wp_putO (x := some x) hm hO hf hh kk
theorem wp_new {idx ci : Nat} (hm : (pc, Instr.new idx, len, ci, r2, r3) ∈ cod) {a : Nat} {h' : Hp} (ha : am_n h = a) (hh : am_new h ci 0 (am_N ci) = h') (kk : WP cod Cal Q (pc + 3) ls (.ref a :: st) h') : WP cod Cal Q pc ls st h := by
  subst ha; subst hh; obtain ⟨n, hn⟩ := kk; exact ⟨n + 1, _, hm, hn⟩
theorem wp_newarray {at1 : ArrayType} {kd : Nat} (hm : (pc, Instr.newarray at1, len, kd, r2, r3) ∈ cod) {k : Int32} {N a : Nat} {h' : Hp} (h0 : ¬ k < 0) (hN : k.toNatClampNeg = N) (hb : N ≤ 100000) (ha : am_n h = a) (hh : am_new h kd N N = h') (kk : WP cod Cal Q (pc + 2) ls (.ref a :: st) h') : WP cod Cal Q pc ls (.int k :: st) h := by
  subst ha; subst hN; subst hh; obtain ⟨n, hn⟩ := kk; exact ⟨n + 1, _, hm, k, _, rfl, h0, hb, hn⟩
theorem wp_anewarray {idx kd : Nat} (hm : (pc, Instr.anewarray idx, len, kd, r2, r3) ∈ cod) {k : Int32} {N a : Nat} {h' : Hp} (h0 : ¬ k < 0) (hN : k.toNatClampNeg = N) (hb : N ≤ 100000) (ha : am_n h = a) (hh : am_new h kd N N = h') (kk : WP cod Cal Q (pc + 3) ls (.ref a :: st) h') : WP cod Cal Q pc ls (.int k :: st) h := by
  subst ha; subst hN; subst hh; obtain ⟨n, hn⟩ := kk; exact ⟨n + 1, _, hm, k, _, rfl, h0, hb, hn⟩
theorem wp_iaload (hm : (pc, Instr.iaload, len, r1, r2, r3) ∈ cod) {a : Nat} {i v : Int32} (han : a < am_n h) (hk : am_k h a = 7) (hin : vp_in i (am_l h a)) (hv : am_i h a i.toNatClampNeg = v) (kk : WP cod Cal Q (pc + 1) ls (.int v :: st) h) : WP cod Cal Q pc ls (.int i :: .ref a :: st) h := by
  subst hv; obtain ⟨n, hn⟩ := kk; exact ⟨n + 1, _, hm, i, a, _, rfl, han, hk, hin, hn⟩
theorem wp_baload (hm : (pc, Instr.baload, len, r1, r2, r3) ∈ cod) {a : Nat} {i v : Int32} (hO : Ob h a 8) (hin : vp_in i (am_l h a)) (hv : am_i h a i.toNatClampNeg = v) (kk : WP cod Cal Q (pc + 1) ls (.int v :: st) h) : WP cod Cal Q pc ls (.int i :: .ref a :: st) h := by
  subst hv; obtain ⟨n, hn⟩ := kk; exact ⟨n + 1, _, hm, i, a, _, rfl, hO.1, hO.2.1, hO.2.2, hin, hn⟩
theorem wp_aaloadO (hm : (pc, Instr.aaload, len, r1, r2, r3) ∈ cod) {a K : Nat} {i : Int32} {v : Option Nat} (hO : Ob h a K) (h9 : Nat.ble 9 K = true) (h12 : Nat.ble K 12 = true) (hin : vp_in i (am_l h a)) (hv : am_r h a i.toNatClampNeg = v) (kk : WP cod Cal Q (pc + 1) ls (va_rf v :: st) h) : WP cod Cal Q pc ls (.int i :: .ref a :: st) h := by
  subst hv; obtain ⟨n, hn⟩ := kk
  obtain ⟨o1, o2, o3⟩ := hO
  subst o3
  exact ⟨n + 1, _, hm, i, a, _, rfl, o1, o2, Nat.le_of_ble_eq_true h9, Nat.le_of_ble_eq_true h12, hin, hn⟩
theorem wp_aaload (hm : (pc, Instr.aaload, len, r1, r2, r3) ∈ cod) {a K : Nat} {i : Int32} {v : Nat} (hO : Ob h a K) (h9 : Nat.ble 9 K = true) (h12 : Nat.ble K 12 = true) (hin : vp_in i (am_l h a)) (hv : am_r h a i.toNatClampNeg = some v) (kk : WP cod Cal Q (pc + 1) ls (.ref v :: st) h) : WP cod Cal Q pc ls (.int i :: .ref a :: st) h := wp_aaloadO hm hO h9 h12 hin hv kk
theorem wp_iastore (hm : (pc, Instr.iastore, len, r1, r2, r3) ∈ cod) {a : Nat} {i x : Int32} (hO : Ob h a 7) (hin : vp_in i (am_l h a)) {h' : Hp} (hh : am_setI h a i.toNatClampNeg x = h') (kk : WP cod Cal Q (pc + 1) ls st h') : WP cod Cal Q pc ls (.int x :: .int i :: .ref a :: st) h := by
  subst hh; obtain ⟨n, hn⟩ := kk; exact ⟨n + 1, _, hm, x, i, a, _, rfl, hO.1, hO.2.1, hO.2.2, hin, hn⟩
theorem wp_bastore (hm : (pc, Instr.bastore, len, r1, r2, r3) ∈ cod) {a : Nat} {i x : Int32} (hO : Ob h a 8) (hin : vp_in i (am_l h a)) (hx : x = 0 ∨ x = 1) {h' : Hp} (hh : am_setI h a i.toNatClampNeg x = h') (kk : WP cod Cal Q (pc + 1) ls st h') : WP cod Cal Q pc ls (.int x :: .int i :: .ref a :: st) h := by
  subst hh; obtain ⟨n, hn⟩ := kk; exact ⟨n + 1, _, hm, x, i, a, _, rfl, hO.1, hO.2.1, hO.2.2, hin, hx, hn⟩
theorem wp_aastore (hm : (pc, Instr.aastore, len, r1, r2, r3) ∈ cod) {a v K : Nat} {i : Int32} (hO : Ob h a K) (h9 : Nat.ble 9 K = true) (h12 : Nat.ble K 12 = true) (hV : Ob h v (am_el K)) (hin : vp_in i (am_l h a)) {h' : Hp} (hh : am_setR h a i.toNatClampNeg (some v) = h') (kk : WP cod Cal Q (pc + 1) ls st h') : WP cod Cal Q pc ls (.ref v :: .int i :: .ref a :: st) h := by
  subst hh; obtain ⟨n, hn⟩ := kk
  obtain ⟨o1, o2, o3⟩ := hO
  subst o3
  exact ⟨n + 1, _, hm, v, i, a, _, rfl, o1, o2, Nat.le_of_ble_eq_true h9, Nat.le_of_ble_eq_true h12, hV.1, hV.2.1, hV.2.2, hin, hn⟩
theorem wp_alen (hm : (pc, Instr.arraylength, len, r1, r2, r3) ∈ cod) {a : Nat} {v : Int32} (han : a < am_n h) (h7 : 7 ≤ am_k h a) (h12 : am_k h a ≤ 12) (hv : Int32.ofNat (am_l h a) = v) (kk : WP cod Cal Q (pc + 1) ls (.int v :: st) h) : WP cod Cal Q pc ls (.ref a :: st) h := by
  subst hv; obtain ⟨n, hn⟩ := kk; exact ⟨n + 1, _, hm, a, _, rfl, han, h7, h12, hn⟩
theorem wp_virt {idx y np : Nat} (hm : (pc, Instr.invokevirtual idx, len, y, np, r3) ∈ cod) (as : List Value) {a : Nat} {r : List Value} {rv : Option Value} {h' : Hp} (hst : st = as.reverse ++ .ref a :: r) (hn : Nat.beq as.length np = true) (h8 : Nat.ble (r.map fun v => v.category).sum 8 = true) (hO : Ob h a (am_own y)) (hcal : Cal y (.ref a :: as) h rv h') (kk : WP cod Cal Q (pc + 3) ls (rv.toList ++ r) h') : WP cod Cal Q pc ls st h := by
  obtain ⟨n, hn'⟩ := kk; exact ⟨n + 1, _, hm, as, a, r, rv, h', hst, Nat.eq_of_beq_eq_true hn, Nat.le_of_ble_eq_true h8, hO.1, hO.2.1, hO.2.2, hcal, hn'⟩
theorem wp_stat {idx y np : Nat} (hm : (pc, Instr.invokestatic idx, len, y, np, r3) ∈ cod) (as : List Value) {r : List Value} {rv : Option Value} {h' : Hp} (hy : Nat.blt y 119 = true) (hst : st = as.reverse ++ r) (hn : Nat.beq as.length np = true) (h8 : Nat.ble (r.map fun v => v.category).sum 8 = true) (hcal : Cal y as h rv h') (kk : WP cod Cal Q (pc + 3) ls (rv.toList ++ r) h') : WP cod Cal Q pc ls st h := by
  obtain ⟨n, hn'⟩ := kk; exact ⟨n + 1, _, hm, Or.inr (Or.inr (Or.inr ⟨Nat.le_of_ble_eq_true hy, as, r, rv, h', hst, Nat.eq_of_beq_eq_true hn, Nat.le_of_ble_eq_true h8, hcal, hn'⟩))⟩
theorem wp_abs {idx : Nat} (hm : (pc, Instr.invokestatic idx, len, 119, r2, r3) ∈ cod) {x : Int32} (h8 : Nat.ble (st.map fun v => v.category).sum 8 = true) (kk : WP cod Cal Q (pc + 3) ls (.int (if 0 ≤ x then x else 0 - x) :: st) h) : WP cod Cal Q pc ls (.int x :: st) h := by
  obtain ⟨n, hn'⟩ := kk; exact ⟨n + 1, _, hm, Or.inl ⟨rfl, x, _, rfl, Nat.le_of_ble_eq_true h8, hn'⟩⟩
theorem wp_max {idx : Nat} (hm : (pc, Instr.invokestatic idx, len, 120, r2, r3) ∈ cod) {x y : Int32} (h8 : Nat.ble (st.map fun v => v.category).sum 8 = true) (kk : WP cod Cal Q (pc + 3) ls (.int (if x < y then y else x) :: st) h) : WP cod Cal Q pc ls (.int y :: .int x :: st) h := by
  obtain ⟨n, hn'⟩ := kk; exact ⟨n + 1, _, hm, Or.inr (Or.inl ⟨rfl, x, y, _, rfl, Nat.le_of_ble_eq_true h8, hn'⟩)⟩
theorem wp_min {idx : Nat} (hm : (pc, Instr.invokestatic idx, len, 121, r2, r3) ∈ cod) {x y : Int32} (h8 : Nat.ble (st.map fun v => v.category).sum 8 = true) (kk : WP cod Cal Q (pc + 3) ls (.int (if y < x then y else x) :: st) h) : WP cod Cal Q pc ls (.int y :: .int x :: st) h := by
  obtain ⟨n, hn'⟩ := kk; exact ⟨n + 1, _, hm, Or.inr (Or.inr (Or.inl ⟨rfl, x, y, _, rfl, Nat.le_of_ble_eq_true h8, hn'⟩))⟩
theorem wp_spec {idx y np : Nat} (hm : (pc, Instr.invokespecial idx, len, y, np, r3) ∈ cod) (as : List Value) {a : Nat} {r : List Value} {rv : Option Value} {h' : Hp} (hy : Nat.blt y 119 = true) (hst : st = as.reverse ++ .ref a :: r) (hn : Nat.beq as.length np = true) (h8 : Nat.ble (r.map fun v => v.category).sum 8 = true) (hcal : Cal y (.ref a :: as) h rv h') (kk : WP cod Cal Q (pc + 3) ls (rv.toList ++ r) h') : WP cod Cal Q pc ls st h := by
  obtain ⟨n, hn'⟩ := kk; exact ⟨n + 1, _, hm, Or.inr ⟨by have h1 : y < 119 := Nat.le_of_ble_eq_true hy; show ¬ y = 999; omega, as, a, r, rv, h', hst, Nat.eq_of_beq_eq_true hn, Nat.le_of_ble_eq_true h8, hcal, hn'⟩⟩
theorem wp_obj {idx : Nat} (hm : (pc, Instr.invokespecial idx, len, 999, r2, r3) ∈ cod) {a : Nat} (h8 : Nat.ble (st.map fun v => v.category).sum 8 = true) (kk : WP cod Cal Q (pc + 3) ls st h) : WP cod Cal Q pc ls (.ref a :: st) h := by
  obtain ⟨n, hn'⟩ := kk; exact ⟨n + 1, _, hm, Or.inl ⟨rfl, a, _, rfl, Nat.le_of_ble_eq_true h8, hn'⟩⟩
theorem wp_iret (hm : (pc, Instr.ireturn, len, 0, r2, r3) ∈ cod) {x : Int32} (hq : Q (some (.int x)) h) : WP cod Cal Q pc ls [.int x] h := ⟨1, _, hm, x, rfl, fun z => (by cases z), hq⟩
theorem wp_zret (hm : (pc, Instr.ireturn, len, 1, r2, r3) ∈ cod) {x : Int32} (hx : x = 0 ∨ x = 1) (hq : Q (some (.int x)) h) : WP cod Cal Q pc ls [.int x] h := ⟨1, _, hm, x, rfl, fun _ => hx, hq⟩
theorem wp_aretO (hm : (pc, Instr.areturn, len, r1, r2, r3) ∈ cod) {x : Option Nat} (hq : Q (some (va_rf x)) h) : WP cod Cal Q pc ls [va_rf x] h := ⟨1, _, hm, x, rfl, hq⟩
theorem wp_aret (hm : (pc, Instr.areturn, len, r1, r2, r3) ∈ cod) {x : Nat} (hq : Q (some (.ref x)) h) : WP cod Cal Q pc ls [.ref x] h := ⟨1, _, hm, some x, rfl, hq⟩
theorem wp_vret (hm : (pc, Instr.return_, len, r1, r2, r3) ∈ cod) (hq : Q none h) : WP cod Cal Q pc ls [] h := ⟨1, _, hm, rfl, hq⟩
end WPR
theorem am_cats : ∀ (as : List Value), (as.all fun v => Nat.beq v.category 1) = true → ∀ v ∈ as, v.category = 1 := fun as h v hv => Nat.eq_of_beq_eq_true (List.all_eq_true.mp h v hv)
theorem Res_intro {d y : Nat} {M : am_M} {as : List Value} {h h' : Hp} {rv : Option Value} {ls : am_Ls} (hM : am_m y = M) (hy : Nat.blt y 119 = true) (hl : Nat.ble as.length M.2.2.1 = true) (hc : (as.all fun v => Nat.beq v.category 1) = true) (hls : as.map some ++ List.replicate (M.2.2.1 - as.length) none = ls) (k : WP M.2.2.2.2.2 (Res d) (fun r1 h1 => r1 = rv ∧ h1 = h') 0 ls [] h) : Res (d + 1) y as h rv h' := by
  subst hM; subst hls
  obtain ⟨n, hn⟩ := k
  exact ⟨Nat.le_of_ble_eq_true hy, n, Nat.le_of_ble_eq_true hl, am_cats as hc, hn⟩
