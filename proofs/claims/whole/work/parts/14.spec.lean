/-! THE REFERENCE'S CELLS: its object is cell 10, its arrays are cells 11 to 37; what it holds is S = the heap's ints -/
abbrev St : Type := Nat → Nat → Int32
abbrev md (x y : Int32) : Int32 := x - x / y * y
abbrev ab (x : Int32) : Int32 := if 0 ≤ x then x else 0 - x
abbrev mx (x y : Int32) : Int32 := if x < y then y else x
abbrev mn (x y : Int32) : Int32 := if y < x then y else x
def Ar (h : Hp) (a K N : Nat) : Prop := Ob h a K ∧ am_l h a = N
def mo_tab : List (Nat × Nat × Nat × Nat) := [(6, 11, 7, 12), (7, 12, 7, 12), (8, 13, 7, 12), (9, 14, 7, 12), (10, 15, 7, 12), (13, 16, 7, 16), (14, 17, 7, 16), (15, 18, 7, 16), (16, 19, 8, 16), (17, 20, 8, 16), (18, 21, 7, 120), (19, 22, 7, 120), (20, 23, 7, 120), (21, 24, 7, 120), (22, 25, 7, 120), (23, 26, 7, 120), (24, 27, 7, 120), (25, 28, 7, 120), (26, 29, 7, 120), (27, 30, 8, 120), (28, 31, 8, 120), (30, 32, 7, 160), (31, 33, 7, 40), (32, 34, 8, 40), (33, 35, 7, 6), (34, 36, 7, 6), (35, 37, 7, 16)]
def MOK (h : Hp) : Prop := 38 ≤ am_n h ∧ am_k h 10 = 6 ∧ ∀ q ∈ mo_tab, am_r h 10 q.1 = some q.2.1 ∧ am_k h q.2.1 = q.2.2.1 ∧ am_l h q.2.1 = q.2.2.2
theorem MOK.ob {h : Hp} (hM : MOK h) : Ob h 10 6 := ⟨by decide, Nat.lt_of_lt_of_le (by decide) hM.1, hM.2.1⟩
theorem MOK.r6 {h : Hp} (hM : MOK h) : am_r h 10 6 = some 11 := (hM.2.2 (6, 11, 7, 12) (by decide)).1
theorem MOK.a11 {h : Hp} (hM : MOK h) : Ar h 11 7 12 := ⟨⟨by decide, Nat.lt_of_lt_of_le (by decide) hM.1, (hM.2.2 (6, 11, 7, 12) (by decide)).2.1⟩, (hM.2.2 (6, 11, 7, 12) (by decide)).2.2⟩
theorem MOK.r7 {h : Hp} (hM : MOK h) : am_r h 10 7 = some 12 := (hM.2.2 (7, 12, 7, 12) (by decide)).1
theorem MOK.a12 {h : Hp} (hM : MOK h) : Ar h 12 7 12 := ⟨⟨by decide, Nat.lt_of_lt_of_le (by decide) hM.1, (hM.2.2 (7, 12, 7, 12) (by decide)).2.1⟩, (hM.2.2 (7, 12, 7, 12) (by decide)).2.2⟩
theorem MOK.r8 {h : Hp} (hM : MOK h) : am_r h 10 8 = some 13 := (hM.2.2 (8, 13, 7, 12) (by decide)).1
theorem MOK.a13 {h : Hp} (hM : MOK h) : Ar h 13 7 12 := ⟨⟨by decide, Nat.lt_of_lt_of_le (by decide) hM.1, (hM.2.2 (8, 13, 7, 12) (by decide)).2.1⟩, (hM.2.2 (8, 13, 7, 12) (by decide)).2.2⟩
theorem MOK.r9 {h : Hp} (hM : MOK h) : am_r h 10 9 = some 14 := (hM.2.2 (9, 14, 7, 12) (by decide)).1
theorem MOK.a14 {h : Hp} (hM : MOK h) : Ar h 14 7 12 := ⟨⟨by decide, Nat.lt_of_lt_of_le (by decide) hM.1, (hM.2.2 (9, 14, 7, 12) (by decide)).2.1⟩, (hM.2.2 (9, 14, 7, 12) (by decide)).2.2⟩
theorem MOK.r10 {h : Hp} (hM : MOK h) : am_r h 10 10 = some 15 := (hM.2.2 (10, 15, 7, 12) (by decide)).1
theorem MOK.a15 {h : Hp} (hM : MOK h) : Ar h 15 7 12 := ⟨⟨by decide, Nat.lt_of_lt_of_le (by decide) hM.1, (hM.2.2 (10, 15, 7, 12) (by decide)).2.1⟩, (hM.2.2 (10, 15, 7, 12) (by decide)).2.2⟩
theorem MOK.r13 {h : Hp} (hM : MOK h) : am_r h 10 13 = some 16 := (hM.2.2 (13, 16, 7, 16) (by decide)).1
theorem MOK.a16 {h : Hp} (hM : MOK h) : Ar h 16 7 16 := ⟨⟨by decide, Nat.lt_of_lt_of_le (by decide) hM.1, (hM.2.2 (13, 16, 7, 16) (by decide)).2.1⟩, (hM.2.2 (13, 16, 7, 16) (by decide)).2.2⟩
theorem MOK.r14 {h : Hp} (hM : MOK h) : am_r h 10 14 = some 17 := (hM.2.2 (14, 17, 7, 16) (by decide)).1
theorem MOK.a17 {h : Hp} (hM : MOK h) : Ar h 17 7 16 := ⟨⟨by decide, Nat.lt_of_lt_of_le (by decide) hM.1, (hM.2.2 (14, 17, 7, 16) (by decide)).2.1⟩, (hM.2.2 (14, 17, 7, 16) (by decide)).2.2⟩
theorem MOK.r15 {h : Hp} (hM : MOK h) : am_r h 10 15 = some 18 := (hM.2.2 (15, 18, 7, 16) (by decide)).1
theorem MOK.a18 {h : Hp} (hM : MOK h) : Ar h 18 7 16 := ⟨⟨by decide, Nat.lt_of_lt_of_le (by decide) hM.1, (hM.2.2 (15, 18, 7, 16) (by decide)).2.1⟩, (hM.2.2 (15, 18, 7, 16) (by decide)).2.2⟩
theorem MOK.r16 {h : Hp} (hM : MOK h) : am_r h 10 16 = some 19 := (hM.2.2 (16, 19, 8, 16) (by decide)).1
theorem MOK.a19 {h : Hp} (hM : MOK h) : Ar h 19 8 16 := ⟨⟨by decide, Nat.lt_of_lt_of_le (by decide) hM.1, (hM.2.2 (16, 19, 8, 16) (by decide)).2.1⟩, (hM.2.2 (16, 19, 8, 16) (by decide)).2.2⟩
theorem MOK.r17 {h : Hp} (hM : MOK h) : am_r h 10 17 = some 20 := (hM.2.2 (17, 20, 8, 16) (by decide)).1
theorem MOK.a20 {h : Hp} (hM : MOK h) : Ar h 20 8 16 := ⟨⟨by decide, Nat.lt_of_lt_of_le (by decide) hM.1, (hM.2.2 (17, 20, 8, 16) (by decide)).2.1⟩, (hM.2.2 (17, 20, 8, 16) (by decide)).2.2⟩
theorem MOK.r18 {h : Hp} (hM : MOK h) : am_r h 10 18 = some 21 := (hM.2.2 (18, 21, 7, 120) (by decide)).1
theorem MOK.a21 {h : Hp} (hM : MOK h) : Ar h 21 7 120 := ⟨⟨by decide, Nat.lt_of_lt_of_le (by decide) hM.1, (hM.2.2 (18, 21, 7, 120) (by decide)).2.1⟩, (hM.2.2 (18, 21, 7, 120) (by decide)).2.2⟩
theorem MOK.r19 {h : Hp} (hM : MOK h) : am_r h 10 19 = some 22 := (hM.2.2 (19, 22, 7, 120) (by decide)).1
theorem MOK.a22 {h : Hp} (hM : MOK h) : Ar h 22 7 120 := ⟨⟨by decide, Nat.lt_of_lt_of_le (by decide) hM.1, (hM.2.2 (19, 22, 7, 120) (by decide)).2.1⟩, (hM.2.2 (19, 22, 7, 120) (by decide)).2.2⟩
theorem MOK.r20 {h : Hp} (hM : MOK h) : am_r h 10 20 = some 23 := (hM.2.2 (20, 23, 7, 120) (by decide)).1
theorem MOK.a23 {h : Hp} (hM : MOK h) : Ar h 23 7 120 := ⟨⟨by decide, Nat.lt_of_lt_of_le (by decide) hM.1, (hM.2.2 (20, 23, 7, 120) (by decide)).2.1⟩, (hM.2.2 (20, 23, 7, 120) (by decide)).2.2⟩
theorem MOK.r21 {h : Hp} (hM : MOK h) : am_r h 10 21 = some 24 := (hM.2.2 (21, 24, 7, 120) (by decide)).1
theorem MOK.a24 {h : Hp} (hM : MOK h) : Ar h 24 7 120 := ⟨⟨by decide, Nat.lt_of_lt_of_le (by decide) hM.1, (hM.2.2 (21, 24, 7, 120) (by decide)).2.1⟩, (hM.2.2 (21, 24, 7, 120) (by decide)).2.2⟩
theorem MOK.r22 {h : Hp} (hM : MOK h) : am_r h 10 22 = some 25 := (hM.2.2 (22, 25, 7, 120) (by decide)).1
theorem MOK.a25 {h : Hp} (hM : MOK h) : Ar h 25 7 120 := ⟨⟨by decide, Nat.lt_of_lt_of_le (by decide) hM.1, (hM.2.2 (22, 25, 7, 120) (by decide)).2.1⟩, (hM.2.2 (22, 25, 7, 120) (by decide)).2.2⟩
theorem MOK.r23 {h : Hp} (hM : MOK h) : am_r h 10 23 = some 26 := (hM.2.2 (23, 26, 7, 120) (by decide)).1
theorem MOK.a26 {h : Hp} (hM : MOK h) : Ar h 26 7 120 := ⟨⟨by decide, Nat.lt_of_lt_of_le (by decide) hM.1, (hM.2.2 (23, 26, 7, 120) (by decide)).2.1⟩, (hM.2.2 (23, 26, 7, 120) (by decide)).2.2⟩
theorem MOK.r24 {h : Hp} (hM : MOK h) : am_r h 10 24 = some 27 := (hM.2.2 (24, 27, 7, 120) (by decide)).1
theorem MOK.a27 {h : Hp} (hM : MOK h) : Ar h 27 7 120 := ⟨⟨by decide, Nat.lt_of_lt_of_le (by decide) hM.1, (hM.2.2 (24, 27, 7, 120) (by decide)).2.1⟩, (hM.2.2 (24, 27, 7, 120) (by decide)).2.2⟩
theorem MOK.r25 {h : Hp} (hM : MOK h) : am_r h 10 25 = some 28 := (hM.2.2 (25, 28, 7, 120) (by decide)).1
theorem MOK.a28 {h : Hp} (hM : MOK h) : Ar h 28 7 120 := ⟨⟨by decide, Nat.lt_of_lt_of_le (by decide) hM.1, (hM.2.2 (25, 28, 7, 120) (by decide)).2.1⟩, (hM.2.2 (25, 28, 7, 120) (by decide)).2.2⟩
theorem MOK.r26 {h : Hp} (hM : MOK h) : am_r h 10 26 = some 29 := (hM.2.2 (26, 29, 7, 120) (by decide)).1
theorem MOK.a29 {h : Hp} (hM : MOK h) : Ar h 29 7 120 := ⟨⟨by decide, Nat.lt_of_lt_of_le (by decide) hM.1, (hM.2.2 (26, 29, 7, 120) (by decide)).2.1⟩, (hM.2.2 (26, 29, 7, 120) (by decide)).2.2⟩
theorem MOK.r27 {h : Hp} (hM : MOK h) : am_r h 10 27 = some 30 := (hM.2.2 (27, 30, 8, 120) (by decide)).1
theorem MOK.a30 {h : Hp} (hM : MOK h) : Ar h 30 8 120 := ⟨⟨by decide, Nat.lt_of_lt_of_le (by decide) hM.1, (hM.2.2 (27, 30, 8, 120) (by decide)).2.1⟩, (hM.2.2 (27, 30, 8, 120) (by decide)).2.2⟩
theorem MOK.r28 {h : Hp} (hM : MOK h) : am_r h 10 28 = some 31 := (hM.2.2 (28, 31, 8, 120) (by decide)).1
theorem MOK.a31 {h : Hp} (hM : MOK h) : Ar h 31 8 120 := ⟨⟨by decide, Nat.lt_of_lt_of_le (by decide) hM.1, (hM.2.2 (28, 31, 8, 120) (by decide)).2.1⟩, (hM.2.2 (28, 31, 8, 120) (by decide)).2.2⟩
theorem MOK.r30 {h : Hp} (hM : MOK h) : am_r h 10 30 = some 32 := (hM.2.2 (30, 32, 7, 160) (by decide)).1
theorem MOK.a32 {h : Hp} (hM : MOK h) : Ar h 32 7 160 := ⟨⟨by decide, Nat.lt_of_lt_of_le (by decide) hM.1, (hM.2.2 (30, 32, 7, 160) (by decide)).2.1⟩, (hM.2.2 (30, 32, 7, 160) (by decide)).2.2⟩
theorem MOK.r31 {h : Hp} (hM : MOK h) : am_r h 10 31 = some 33 := (hM.2.2 (31, 33, 7, 40) (by decide)).1
theorem MOK.a33 {h : Hp} (hM : MOK h) : Ar h 33 7 40 := ⟨⟨by decide, Nat.lt_of_lt_of_le (by decide) hM.1, (hM.2.2 (31, 33, 7, 40) (by decide)).2.1⟩, (hM.2.2 (31, 33, 7, 40) (by decide)).2.2⟩
theorem MOK.r32 {h : Hp} (hM : MOK h) : am_r h 10 32 = some 34 := (hM.2.2 (32, 34, 8, 40) (by decide)).1
theorem MOK.a34 {h : Hp} (hM : MOK h) : Ar h 34 8 40 := ⟨⟨by decide, Nat.lt_of_lt_of_le (by decide) hM.1, (hM.2.2 (32, 34, 8, 40) (by decide)).2.1⟩, (hM.2.2 (32, 34, 8, 40) (by decide)).2.2⟩
theorem MOK.r33 {h : Hp} (hM : MOK h) : am_r h 10 33 = some 35 := (hM.2.2 (33, 35, 7, 6) (by decide)).1
theorem MOK.a35 {h : Hp} (hM : MOK h) : Ar h 35 7 6 := ⟨⟨by decide, Nat.lt_of_lt_of_le (by decide) hM.1, (hM.2.2 (33, 35, 7, 6) (by decide)).2.1⟩, (hM.2.2 (33, 35, 7, 6) (by decide)).2.2⟩
theorem MOK.r34 {h : Hp} (hM : MOK h) : am_r h 10 34 = some 36 := (hM.2.2 (34, 36, 7, 6) (by decide)).1
theorem MOK.a36 {h : Hp} (hM : MOK h) : Ar h 36 7 6 := ⟨⟨by decide, Nat.lt_of_lt_of_le (by decide) hM.1, (hM.2.2 (34, 36, 7, 6) (by decide)).2.1⟩, (hM.2.2 (34, 36, 7, 6) (by decide)).2.2⟩
theorem MOK.r35 {h : Hp} (hM : MOK h) : am_r h 10 35 = some 37 := (hM.2.2 (35, 37, 7, 16) (by decide)).1
theorem MOK.a37 {h : Hp} (hM : MOK h) : Ar h 37 7 16 := ⟨⟨by decide, Nat.lt_of_lt_of_le (by decide) hM.1, (hM.2.2 (35, 37, 7, 16) (by decide)).2.1⟩, (hM.2.2 (35, 37, 7, 16) (by decide)).2.2⟩
section WPS
variable {cod : List am_E} {Cal : am_Ct} {Q : Option Value → Hp → Prop} {pc : Nat} {ls ls' : am_Ls} {st : List Value} {h : Hp} {len r1 r2 r3 : Nat}
theorem am_lt31 {N : Nat} (hN : Nat.ble N 1000 = true) : N < 2 ^ 31 := Nat.lt_of_le_of_lt (Nat.le_of_ble_eq_true hN) (by decide)
theorem wp_top {x y : Int32} (e : x = y) (k : WP cod Cal Q pc ls (.int y :: st) h) : WP cod Cal Q pc ls (.int x :: st) h := by rw [e]; exact k
theorem wp_ial (hm : (pc, Instr.iaload, len, r1, r2, r3) ∈ cod) {a N t : Nat} {v : Int32} (hA : Ar h a 7 N) (ht : t < N) (hN : Nat.ble N 1000 = true) (hv : am_i h a t = v) (kk : WP cod Cal Q (pc + 1) ls (.int v :: st) h) : WP cod Cal Q pc ls (.int (nI t) :: .ref a :: st) h :=
  wp_iaload hm hA.1.2.1 hA.1.2.2 (by rw [hA.2]; exact vp_in_nI ht (am_lt31 hN)) (by rw [nI_clamp (Nat.lt_trans ht (am_lt31 hN))]; exact hv) kk
theorem wp_zal (hm : (pc, Instr.baload, len, r1, r2, r3) ∈ cod) {a N t : Nat} {v : Int32} (hA : Ar h a 8 N) (ht : t < N) (hN : Nat.ble N 1000 = true) (hv : am_i h a t = v) (kk : WP cod Cal Q (pc + 1) ls (.int v :: st) h) : WP cod Cal Q pc ls (.int (nI t) :: .ref a :: st) h :=
  wp_baload hm hA.1 (by rw [hA.2]; exact vp_in_nI ht (am_lt31 hN)) (by rw [nI_clamp (Nat.lt_trans ht (am_lt31 hN))]; exact hv) kk
theorem wp_ias (hm : (pc, Instr.iastore, len, r1, r2, r3) ∈ cod) {a N t : Nat} {x : Int32} {h' : Hp} (hA : Ar h a 7 N) (ht : t < N) (hN : Nat.ble N 1000 = true) (hh : am_setI h a t x = h') (kk : WP cod Cal Q (pc + 1) ls st h') : WP cod Cal Q pc ls (.int x :: .int (nI t) :: .ref a :: st) h :=
  wp_iastore hm hA.1 (by rw [hA.2]; exact vp_in_nI ht (am_lt31 hN)) (by rw [nI_clamp (Nat.lt_trans ht (am_lt31 hN))]; exact hh) kk
theorem wp_zas (hm : (pc, Instr.bastore, len, r1, r2, r3) ∈ cod) {a N t : Nat} {x : Int32} {h' : Hp} (hA : Ar h a 8 N) (ht : t < N) (hN : Nat.ble N 1000 = true) (hx : x = 0 ∨ x = 1) (hh : am_setI h a t x = h') (kk : WP cod Cal Q (pc + 1) ls st h') : WP cod Cal Q pc ls (.int x :: .int (nI t) :: .ref a :: st) h :=
  wp_bastore hm hA.1 (by rw [hA.2]; exact vp_in_nI ht (am_lt31 hN)) hx (by rw [nI_clamp (Nat.lt_trans ht (am_lt31 hN))]; exact hh) kk
theorem wp_aalO (hm : (pc, Instr.aaload, len, r1, r2, r3) ∈ cod) {a K N t : Nat} {v : Option Nat} (hA : Ar h a K N) (h9 : Nat.ble 9 K = true) (h12 : Nat.ble K 12 = true) (ht : t < N) (hN : Nat.ble N 1000 = true) (hv : am_r h a t = v) (kk : WP cod Cal Q (pc + 1) ls (va_rf v :: st) h) : WP cod Cal Q pc ls (.int (nI t) :: .ref a :: st) h :=
  wp_aaloadO hm hA.1 h9 h12 (by rw [hA.2]; exact vp_in_nI ht (am_lt31 hN)) (by rw [nI_clamp (Nat.lt_trans ht (am_lt31 hN))]; exact hv) kk
theorem wp_aal (hm : (pc, Instr.aaload, len, r1, r2, r3) ∈ cod) {a K N t v : Nat} (hA : Ar h a K N) (h9 : Nat.ble 9 K = true) (h12 : Nat.ble K 12 = true) (ht : t < N) (hN : Nat.ble N 1000 = true) (hv : am_r h a t = some v) (kk : WP cod Cal Q (pc + 1) ls (.ref v :: st) h) : WP cod Cal Q pc ls (.int (nI t) :: .ref a :: st) h := wp_aalO hm hA h9 h12 ht hN hv kk
theorem wp_aas (hm : (pc, Instr.aastore, len, r1, r2, r3) ∈ cod) {a K N t v : Nat} {h' : Hp} (hA : Ar h a K N) (h9 : Nat.ble 9 K = true) (h12 : Nat.ble K 12 = true) (hV : Ob h v (am_el K)) (ht : t < N) (hN : Nat.ble N 1000 = true) (hh : am_setR h a t (some v) = h') (kk : WP cod Cal Q (pc + 1) ls st h') : WP cod Cal Q pc ls (.ref v :: .int (nI t) :: .ref a :: st) h :=
  wp_aastore hm hA.1 h9 h12 hV (by rw [hA.2]; exact vp_in_nI ht (am_lt31 hN)) (by rw [nI_clamp (Nat.lt_trans ht (am_lt31 hN))]; exact hh) kk
end WPS
theorem am_swI {pc : Nat} {d lo hi off : Int} {offs : Array Int} {x : Int32} {t : Nat} (h1 : ¬ x.toInt < lo) (h2 : ¬ hi < x.toInt) (h3 : offs[(x.toInt - lo).toNat]? = some off) (h4 : (pc : Int) + off = (t : Int)) : am_sw pc d lo hi offs x t := Or.inr ⟨h1, h2, off, h3, h4⟩
theorem am_swO {pc : Nat} {d lo hi : Int} {offs : Array Int} {x : Int32} {t : Nat} (h1 : x.toInt < lo ∨ hi < x.toInt) (h4 : (pc : Int) + d = (t : Int)) : am_sw pc d lo hi offs x t := Or.inl ⟨h1, h4⟩
theorem am_neT {x k : Int32} {i : Int} (h : ¬ x = k) (hk : k.toInt = i) : ¬ x.toInt = i := fun q => h (Int32.toInt_inj.mp (q.trans hk.symm))
theorem am_out2 {x : Int32} (c0 : ¬ x = 0) (c1 : ¬ x = 1) (c2 : ¬ x = 2) : x.toInt < 0 ∨ 2 < x.toInt := by
  have d0 := am_neT (i := 0) c0 (by decide)
  have d1 := am_neT (i := 1) c1 (by decide)
  have d2 := am_neT (i := 2) c2 (by decide)
  omega
theorem am_out6 {x : Int32} (c0 : ¬ x = 0) (c1 : ¬ x = 1) (c2 : ¬ x = 2) (c3 : ¬ x = 3) (c4 : ¬ x = 4) (c5 : ¬ x = 5) (c6 : ¬ x = 6) : x.toInt < 0 ∨ 6 < x.toInt := by
  have d0 := am_neT (i := 0) c0 (by decide)
  have d1 := am_neT (i := 1) c1 (by decide)
  have d2 := am_neT (i := 2) c2 (by decide)
  have d3 := am_neT (i := 3) c3 (by decide)
  have d4 := am_neT (i := 4) c4 (by decide)
  have d5 := am_neT (i := 5) c5 (by decide)
  have d6 := am_neT (i := 6) c6 (by decide)
  omega
theorem am_out10 {x : Int32} (c0 : ¬ x = 0) (c1 : ¬ x = 1) (c2 : ¬ x = 2) (c3 : ¬ x = 3) (c4 : ¬ x = 4) (c5 : ¬ x = 5) (c6 : ¬ x = 6) (c7 : ¬ x = 7) (c8 : ¬ x = 8) (c9 : ¬ x = 9) (c10 : ¬ x = 10) : x.toInt < 0 ∨ 10 < x.toInt := by
  have d0 := am_neT (i := 0) c0 (by decide)
  have d1 := am_neT (i := 1) c1 (by decide)
  have d2 := am_neT (i := 2) c2 (by decide)
  have d3 := am_neT (i := 3) c3 (by decide)
  have d4 := am_neT (i := 4) c4 (by decide)
  have d5 := am_neT (i := 5) c5 (by decide)
  have d6 := am_neT (i := 6) c6 (by decide)
  have d7 := am_neT (i := 7) c7 (by decide)
  have d8 := am_neT (i := 8) c8 (by decide)
  have d9 := am_neT (i := 9) c9 (by decide)
  have d10 := am_neT (i := 10) c10 (by decide)
  omega
theorem am_out12 {x : Int32} (c0 : ¬ x = 0) (c1 : ¬ x = 1) (c2 : ¬ x = 2) (c3 : ¬ x = 3) (c4 : ¬ x = 4) (c5 : ¬ x = 5) (c6 : ¬ x = 6) (c7 : ¬ x = 7) (c8 : ¬ x = 8) (c9 : ¬ x = 9) (c10 : ¬ x = 10) (c11 : ¬ x = 11) (c12 : ¬ x = 12) : x.toInt < 0 ∨ 12 < x.toInt := by
  have d0 := am_neT (i := 0) c0 (by decide)
  have d1 := am_neT (i := 1) c1 (by decide)
  have d2 := am_neT (i := 2) c2 (by decide)
  have d3 := am_neT (i := 3) c3 (by decide)
  have d4 := am_neT (i := 4) c4 (by decide)
  have d5 := am_neT (i := 5) c5 (by decide)
  have d6 := am_neT (i := 6) c6 (by decide)
  have d7 := am_neT (i := 7) c7 (by decide)
  have d8 := am_neT (i := 8) c8 (by decide)
  have d9 := am_neT (i := 9) c9 (by decide)
  have d10 := am_neT (i := 10) c10 (by decide)
  have d11 := am_neT (i := 11) c11 (by decide)
  have d12 := am_neT (i := 12) c12 (by decide)
  omega
theorem am_out22 {x : Int32} (c0 : ¬ x = 0) (c1 : ¬ x = 1) (c2 : ¬ x = 2) (c3 : ¬ x = 3) (c4 : ¬ x = 4) (c5 : ¬ x = 5) (c6 : ¬ x = 6) (c7 : ¬ x = 7) (c8 : ¬ x = 8) (c9 : ¬ x = 9) (c10 : ¬ x = 10) (c11 : ¬ x = 11) (c12 : ¬ x = 12) (c13 : ¬ x = 13) (c14 : ¬ x = 14) (c15 : ¬ x = 15) (c16 : ¬ x = 16) (c17 : ¬ x = 17) (c18 : ¬ x = 18) (c19 : ¬ x = 19) (c20 : ¬ x = 20) (c21 : ¬ x = 21) (c22 : ¬ x = 22) : x.toInt < 0 ∨ 22 < x.toInt := by
  have d0 := am_neT (i := 0) c0 (by decide)
  have d1 := am_neT (i := 1) c1 (by decide)
  have d2 := am_neT (i := 2) c2 (by decide)
  have d3 := am_neT (i := 3) c3 (by decide)
  have d4 := am_neT (i := 4) c4 (by decide)
  have d5 := am_neT (i := 5) c5 (by decide)
  have d6 := am_neT (i := 6) c6 (by decide)
  have d7 := am_neT (i := 7) c7 (by decide)
  have d8 := am_neT (i := 8) c8 (by decide)
  have d9 := am_neT (i := 9) c9 (by decide)
  have d10 := am_neT (i := 10) c10 (by decide)
  have d11 := am_neT (i := 11) c11 (by decide)
  have d12 := am_neT (i := 12) c12 (by decide)
  have d13 := am_neT (i := 13) c13 (by decide)
  have d14 := am_neT (i := 14) c14 (by decide)
  have d15 := am_neT (i := 15) c15 (by decide)
  have d16 := am_neT (i := 16) c16 (by decide)
  have d17 := am_neT (i := 17) c17 (by decide)
  have d18 := am_neT (i := 18) c18 (by decide)
  have d19 := am_neT (i := 19) c19 (by decide)
  have d20 := am_neT (i := 20) c20 (by decide)
  have d21 := am_neT (i := 21) c21 (by decide)
  have d22 := am_neT (i := 22) c22 (by decide)
  omega
/-! what the reference's private methods answer, of S -/
def cR (S : St) : Nat := (S 10 5).toNatClampNeg
def cS (S : St) : Nat := (S 10 11).toNatClampNeg
def cT (S : St) : Nat := (S 10 12).toNatClampNeg
def cC (S : St) : Nat := (S 10 29).toNatClampNeg
/-- the counts are within their limits -/
def MW (S : St) : Prop := (S 10 5 = nI (cR S) ∧ cR S ≤ 12) ∧ (S 10 11 = nI (cS S) ∧ cS S ≤ 16) ∧ (S 10 12 = nI (cT S) ∧ cT S ≤ 120) ∧ (S 10 29 = nI (cC S) ∧ cC S ≤ 40)
def sIn (v l m : Int32) : Int32 := if l ≤ v ∧ v ≤ m then 1 else 0
def sGap (a b : Int32) : Int32 := if b < a then a - b else b - a
def sOpen (S : St) : Int32 := if S 10 1 ≤ md (S 10 0) 1440 ∧ md (S 10 0) 1440 < S 10 2 then 1 else 0
def sRow (S : St) (day : Int32) : Nat → Int32
  | 0 => -1
  | n + 1 => if S 11 n ≤ day then nI n else sRow S day n
def sFree (S : St) (s : Nat) : Nat → Int32
  | 0 => S 16 s
  | n + 1 => if S 26 n = 0 ∧ S 27 n = nI s then sFree S s n - S 21 n else sFree S s n
def sSuit (S : St) (t s : Nat) : Int32 := if S 20 s = 0 ∧ S 22 t ≤ S 17 s ∧ S 19 s = S 30 t then 1 else 0
def sFits (S : St) (t s : Nat) : Int32 := if sSuit S t s = 1 ∧ S 21 t ≤ sFree S s (cT S) then 1 else 0
def sHrs (S : St) (t : Nat) : Int32 := if S 10 0 < S 24 t then (S 24 t - S 10 0) / 60 else 0
def sWant (S : St) (t : Nat) : Int32 := if 98 < sHrs S t then 99 else 1 + sHrs S t
def sMis (S : St) (t s : Nat) : Int32 := sGap (S 18 s) (sWant S t)
def sTick (x : Int32) : Int32 := 100 * x + md (37 * x + 11) 97
def sThOf (S : St) (x : Int32) : Int32 := if x < 0 ∨ ¬ md x 100 = md (37 * (x / 100) + 11) 97 then -2 else if x / 100 < S 10 12 then x / 100 else -3
def sMk (m k : Int32) : Int32 := (m >>> ((4 * k) &&& 31)) &&& 15
theorem sIn_01 (v l m : Int32) : sIn v l m = 0 ∨ sIn v l m = 1 := by unfold sIn; split <;> simp
theorem sOpen_01 (S : St) : sOpen S = 0 ∨ sOpen S = 1 := by unfold sOpen; split <;> simp
theorem sSuit_01 (S : St) (t s : Nat) : sSuit S t s = 0 ∨ sSuit S t s = 1 := by unfold sSuit; split <;> simp
theorem sFits_01 (S : St) (t s : Nat) : sFits S t s = 0 ∨ sFits S t s = 1 := by unfold sFits; split <;> simp
