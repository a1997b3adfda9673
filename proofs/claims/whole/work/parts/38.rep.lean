/-! THE CLASS: what single writes do to what its cells show -/
theorem am_ix_ne {h : Hp} {a k x : Nat} {v : Int32} (e : ¬ x = a) : am_i (am_setI h a k v) x = am_i h x := by funext j; rw [am_i_setI, if_neg (fun z => e z.1)]
theorem am_ij_ne {h : Hp} {a k x j : Nat} {v : Int32} (e : ¬ j = k) : am_i (am_setI h a k v) x j = am_i h x j := by rw [am_i_setI, if_neg (fun z => e z.2)]
theorem am_ij_eq {h : Hp} {a k : Nat} {v : Int32} : am_i (am_setI h a k v) a k = v := by rw [am_i_setI, if_pos ⟨rfl, rfl⟩]
theorem up2_ne {S : St} {a k x j : Nat} {v : Int32} (e : ¬ (x = a ∧ j = k)) : up2 S a k v x j = S x j := by unfold up2; rw [if_neg e]
theorem up2_eq {S : St} {a k : Nat} {v : Int32} : up2 S a k v a k = v := by unfold up2; rw [if_pos ⟨rfl, rfl⟩]
section TR
variable {S S' : St} {h h' : Hp}
theorem CR.shn1 (hR : CR S h) {k : Nat} (hk : k < cS S) : ¬ shA h k = 1 := by have := hR.sh_38 k hk; omega
theorem CR.th1' (hR : CR S h) {k : Nat} (hk : k < cT S) : ¬ thA h k = 1 := by have := hR.th_38 k hk; omega
theorem CR.cl1' (hR : CR S h) {k : Nat} (hk : k < cC S) : ¬ clA h k = 1 := by have := hR.cl_38 k hk; omega
theorem CR.to1 (hR : CR S h) {k : Nat} (hk : k < cC S) : ¬ toA h k = 1 := by have := hR.cl_t38 k hk; omega
theorem CR.ro1' (hR : CR S h) {k : Nat} (hk : k < cR S) : ¬ roA h k = 1 := by have := hR.ro_38 k hk; omega
/-- only the counter's own numbers change -/
theorem CR.scal (hR : CR S h) (x : Qt h h') (hi : ∀ a, ¬ a = 1 → am_i h' a = am_i h a) (hr : am_r h' = am_r h) (hS : ∀ a, ¬ a = 10 → S' a = S a) (hc : S' 10 5 = S 10 5 ∧ S' 10 11 = S 10 11 ∧ S' 10 12 = S 10 12 ∧ S' 10 29 = S 10 29) (hsc : CSc S' h') : CR S' h' := by
  obtain ⟨c5, c11, c12, c29⟩ := hc
  have r11 := hS 11 (by decide)
  have r12 := hS 12 (by decide)
  have r13 := hS 13 (by decide)
  have r14 := hS 14 (by decide)
  have r15 := hS 15 (by decide)
  have r16 := hS 16 (by decide)
  have r17 := hS 17 (by decide)
  have r18 := hS 18 (by decide)
  have r19 := hS 19 (by decide)
  have r20 := hS 20 (by decide)
  have r21 := hS 21 (by decide)
  have r22 := hS 22 (by decide)
  have r23 := hS 23 (by decide)
  have r24 := hS 24 (by decide)
  have r25 := hS 25 (by decide)
  have r26 := hS 26 (by decide)
  have r27 := hS 27 (by decide)
  have r28 := hS 28 (by decide)
  have r29 := hS 29 (by decide)
  have r30 := hS 30 (by decide)
  have r31 := hS 31 (by decide)
  have r32 := hS 32 (by decide)
  have r33 := hS 33 (by decide)
  have r34 := hS 34 (by decide)
  refine hR.quiet x ⟨by unfold cS; rw [c11], by unfold cT; rw [c12], by unfold cC; rw [c29], by unfold cR; rw [c5]⟩ hsc (fun k hk => ?_) (fun k hk => ?_) (fun k hk => ?_) (fun k hk => ?_)
  · rw [hi _ (hR.shn1 hk), sFree_congr (S := S) (S' := S') (s := k) (cT S) (by rw [r16]) (fun t _ => ⟨by rw [r26], by rw [r27], by rw [r21]⟩), sLoad_congr (S := S) (S' := S') (s := k) (cT S) (fun t _ => ⟨by rw [r26], by rw [r27]⟩), r16, r17, r18, r19, r20]
    exact ⟨hR.sh0 k hk, hR.sh1 k hk, hR.sh2 k hk, hR.sh3 k hk, hR.sh4 k hk, hR.sh5 k hk, hR.sh6 k hk, hR.sh7 k hk⟩
  · unfold onN
    rw [hi _ (hR.th1' hk), hr, r21, r22, r23, r24, r25, r26, r27, r28, r29, r30, r31]
    exact ⟨hR.th0 k hk, hR.th1 k hk, hR.th2 k hk, hR.th3 k hk, hR.th4 k hk, hR.th5 k hk, hR.th6 k hk, hR.th7 k hk, hR.th9 k hk, hR.th10 k hk, hR.th_p k hk⟩
  · rw [hi _ (hR.cl1' hk), hi _ (hR.to1 hk), r32, r33, r34]
    exact ⟨hR.cl1 k hk, hR.cl2 k hk, hR.cl_tv k hk⟩
  · rw [hi _ (hR.ro1' hk), r11, r12, r13, r14, r15]
    exact ⟨hR.ro0 k hk, hR.ro1 k hk, hR.ro2 k hk, hR.ro3 k hk, hR.ro4 k hk⟩
end TR
section TR2
variable {S : St} {h : Hp}
theorem CR.hours (hR : CR S h) (p q : Int32) : CR (up2 (up2 S 10 1 p) 10 2 q) (am_setI (am_setI h 1 11 p) 1 12 q) := by
  refine hR.scal ((Qt.setI _ _ _ _).trans (Qt.setI _ _ _ _)) (fun a e => by rw [am_ix_ne e, am_ix_ne e]) rfl (fun a e => by funext j; rw [up2_ne (fun z => e z.1), up2_ne (fun z => e z.1)]) ⟨rfl, rfl, rfl, rfl⟩ ?_
  exact ⟨hR.c1, hR.c3, hR.c5, hR.c7, hR.c10, rfl, rfl, hR.c13, hR.c14⟩
theorem CR.till (hR : CR S h) (v : Int32) : CR (up2 S 10 3 v) (am_setI h 1 13 v) := by
  refine hR.scal (Qt.setI _ _ _ _) (fun a e => by rw [am_ix_ne e]) rfl (fun a e => by funext j; rw [up2_ne (fun z => e z.1)]) ⟨rfl, rfl, rfl, rfl⟩ ?_
  exact ⟨hR.c1, hR.c3, hR.c5, hR.c7, hR.c10, hR.c11, hR.c12, rfl, hR.c14⟩
theorem CR.minute (hR : CR S h) (v : Int32) : CR (up2 S 10 0 v) (am_setI h 1 10 v) := by
  refine hR.scal (Qt.setI _ _ _ _) (fun a e => by rw [am_ix_ne e]) rfl (fun a e => by funext j; rw [up2_ne (fun z => e z.1)]) ⟨rfl, rfl, rfl, rfl⟩ ?_
  exact ⟨hR.c1, hR.c3, hR.c5, hR.c7, rfl, hR.c11, hR.c12, hR.c13, hR.c14⟩
theorem CR.steps (hR : CR S h) (v : Int32) : CR (up2 S 10 4 v) (am_setI h 1 14 v) := by
  refine hR.scal (Qt.setI _ _ _ _) (fun a e => by rw [am_ix_ne e]) rfl (fun a e => by funext j; rw [up2_ne (fun z => e z.1)]) ⟨rfl, rfl, rfl, rfl⟩ ?_
  exact ⟨hR.c1, hR.c3, hR.c5, hR.c7, hR.c10, hR.c11, hR.c12, hR.c13, rfl⟩
end TR2
