section
-- ===== PART A: goes FIRST, ahead of the names: the tables' words, and 'selects' of the private methods out of them =====
/-- a private method of a class that the tables say can be made, by its rows of tables_1 -/
def lw_okq (q : MethodName × Nat) : Prop := (q.1.cls ≠ "java/lang/invoke/MethodHandle" ∧ q.1.cls ≠ "java/lang/invoke/VarHandle") ∧ Cond.instantiable q.1.cls q.2 ∈ tables_1 ∧ Cond.privateMethod q.1 ∈ tables_1 ∧ Cond.instanceMethod q.1 ∈ tables_1
theorem lw_p0 : lw_okq (⟨"LuggageCounter", "letOldCoinsFall", "()V"⟩, 15) := ⟨⟨by decide +kernel, by decide +kernel⟩, List.mem_of_getElem? (i := 10) (by decide +kernel), List.mem_of_getElem? (i := 95) (by decide +kernel), List.mem_of_getElem? (i := 96) (by decide +kernel)⟩
theorem lw_p1 : lw_okq (⟨"LuggageCounter", "today", "()I"⟩, 15) := ⟨⟨by decide +kernel, by decide +kernel⟩, List.mem_of_getElem? (i := 10) (by decide +kernel), List.mem_of_getElem? (i := 99) (by decide +kernel), List.mem_of_getElem? (i := 100) (by decide +kernel)⟩
theorem lw_p2 : lw_okq (⟨"LuggageCounter", "lastRowDay", "()I"⟩, 15) := ⟨⟨by decide +kernel, by decide +kernel⟩, List.mem_of_getElem? (i := 10) (by decide +kernel), List.mem_of_getElem? (i := 120) (by decide +kernel), List.mem_of_getElem? (i := 121) (by decide +kernel)⟩
theorem lw_p3 : lw_okq (⟨"LuggageCounter", "isOpen", "()Z"⟩, 15) := ⟨⟨by decide +kernel, by decide +kernel⟩, List.mem_of_getElem? (i := 10) (by decide +kernel), List.mem_of_getElem? (i := 197) (by decide +kernel), List.mem_of_getElem? (i := 198) (by decide +kernel)⟩
theorem lw_p4 : lw_okq (⟨"LuggageCounter", "shelfForNew", "(LLuggageCounter$Thing;)LLuggageCounter$Shelf;"⟩, 15) := ⟨⟨by decide +kernel, by decide +kernel⟩, List.mem_of_getElem? (i := 10) (by decide +kernel), List.mem_of_getElem? (i := 258) (by decide +kernel), List.mem_of_getElem? (i := 259) (by decide +kernel)⟩
theorem lw_p5 : lw_okq (⟨"LuggageCounter", "isNearer", "(LLuggageCounter$Shelf;LLuggageCounter$Shelf;LLuggageCounter$Thing;)Z"⟩, 15) := ⟨⟨by decide +kernel, by decide +kernel⟩, List.mem_of_getElem? (i := 10) (by decide +kernel), List.mem_of_getElem? (i := 270) (by decide +kernel), List.mem_of_getElem? (i := 271) (by decide +kernel)⟩
theorem lw_p6 : lw_okq (⟨"LuggageCounter", "thingAt", "(I)LLuggageCounter$Thing;"⟩, 15) := ⟨⟨by decide +kernel, by decide +kernel⟩, List.mem_of_getElem? (i := 10) (by decide +kernel), List.mem_of_getElem? (i := 308) (by decide +kernel), List.mem_of_getElem? (i := 309) (by decide +kernel)⟩
theorem lw_p7 : lw_okq (⟨"LuggageCounter", "feeOf", "(LLuggageCounter$Thing;)I"⟩, 15) := ⟨⟨by decide +kernel, by decide +kernel⟩, List.mem_of_getElem? (i := 10) (by decide +kernel), List.mem_of_getElem? (i := 312) (by decide +kernel), List.mem_of_getElem? (i := 313) (by decide +kernel)⟩
theorem lw_p8 : lw_okq (⟨"LuggageCounter", "rowOn", "(I)LLuggageCounter$PriceRow;"⟩, 15) := ⟨⟨by decide +kernel, by decide +kernel⟩, List.mem_of_getElem? (i := 10) (by decide +kernel), List.mem_of_getElem? (i := 316) (by decide +kernel), List.mem_of_getElem? (i := 317) (by decide +kernel)⟩
theorem lw_p9 : lw_okq (⟨"LuggageCounter", "takeAway", "(LLuggageCounter$Thing;I)V"⟩, 15) := ⟨⟨by decide +kernel, by decide +kernel⟩, List.mem_of_getElem? (i := 10) (by decide +kernel), List.mem_of_getElem? (i := 338) (by decide +kernel), List.mem_of_getElem? (i := 339) (by decide +kernel)⟩
theorem lw_p10 : lw_okq (⟨"LuggageCounter", "claimAt", "(I)LLuggageCounter$Claim;"⟩, 15) := ⟨⟨by decide +kernel, by decide +kernel⟩, List.mem_of_getElem? (i := 10) (by decide +kernel), List.mem_of_getElem? (i := 371) (by decide +kernel), List.mem_of_getElem? (i := 372) (by decide +kernel)⟩
theorem lw_p11 : lw_okq (⟨"LuggageCounter", "meantBy", "(LLuggageCounter$Claim;)I"⟩, 15) := ⟨⟨by decide +kernel, by decide +kernel⟩, List.mem_of_getElem? (i := 10) (by decide +kernel), List.mem_of_getElem? (i := 375) (by decide +kernel), List.mem_of_getElem? (i := 376) (by decide +kernel)⟩
theorem lw_p12 : lw_okq (⟨"LuggageCounter", "greatestHeap", "(LLuggageCounter$Claim;I)I"⟩, 15) := ⟨⟨by decide +kernel, by decide +kernel⟩, List.mem_of_getElem? (i := 10) (by decide +kernel), List.mem_of_getElem? (i := 395) (by decide +kernel), List.mem_of_getElem? (i := 396) (by decide +kernel)⟩
theorem lw_p13 : lw_okq (⟨"LuggageCounter", "firstMeantBy", "(LLuggageCounter$Claim;)I"⟩, 15) := ⟨⟨by decide +kernel, by decide +kernel⟩, List.mem_of_getElem? (i := 10) (by decide +kernel), List.mem_of_getElem? (i := 409) (by decide +kernel), List.mem_of_getElem? (i := 410) (by decide +kernel)⟩
theorem lw_p14 : lw_okq (⟨"LuggageCounter", "isContested", "(LLuggageCounter$Claim;LLuggageCounter$Thing;)Z"⟩, 15) := ⟨⟨by decide +kernel, by decide +kernel⟩, List.mem_of_getElem? (i := 10) (by decide +kernel), List.mem_of_getElem? (i := 413) (by decide +kernel), List.mem_of_getElem? (i := 414) (by decide +kernel)⟩
theorem lw_p15 : lw_okq (⟨"LuggageCounter", "makeBestMove", "()Z"⟩, 15) := ⟨⟨by decide +kernel, by decide +kernel⟩, List.mem_of_getElem? (i := 10) (by decide +kernel), List.mem_of_getElem? (i := 430) (by decide +kernel), List.mem_of_getElem? (i := 431) (by decide +kernel)⟩
def lw_privs_1 : List (MethodName × Nat) := [(⟨"LuggageCounter", "letOldCoinsFall", "()V"⟩, 15), (⟨"LuggageCounter", "today", "()I"⟩, 15), (⟨"LuggageCounter", "lastRowDay", "()I"⟩, 15), (⟨"LuggageCounter", "isOpen", "()Z"⟩, 15), (⟨"LuggageCounter", "shelfForNew", "(LLuggageCounter$Thing;)LLuggageCounter$Shelf;"⟩, 15), (⟨"LuggageCounter", "isNearer", "(LLuggageCounter$Shelf;LLuggageCounter$Shelf;LLuggageCounter$Thing;)Z"⟩, 15), (⟨"LuggageCounter", "thingAt", "(I)LLuggageCounter$Thing;"⟩, 15), (⟨"LuggageCounter", "feeOf", "(LLuggageCounter$Thing;)I"⟩, 15), (⟨"LuggageCounter", "rowOn", "(I)LLuggageCounter$PriceRow;"⟩, 15), (⟨"LuggageCounter", "takeAway", "(LLuggageCounter$Thing;I)V"⟩, 15), (⟨"LuggageCounter", "claimAt", "(I)LLuggageCounter$Claim;"⟩, 15), (⟨"LuggageCounter", "meantBy", "(LLuggageCounter$Claim;)I"⟩, 15), (⟨"LuggageCounter", "greatestHeap", "(LLuggageCounter$Claim;I)I"⟩, 15), (⟨"LuggageCounter", "firstMeantBy", "(LLuggageCounter$Claim;)I"⟩, 15), (⟨"LuggageCounter", "isContested", "(LLuggageCounter$Claim;LLuggageCounter$Thing;)Z"⟩, 15), (⟨"LuggageCounter", "makeBestMove", "()Z"⟩, 15)]
theorem lw_r1 : ∀ q ∈ lw_privs_1, lw_okq q := List.forall_mem_cons.mpr ⟨lw_p0, List.forall_mem_cons.mpr ⟨lw_p1, List.forall_mem_cons.mpr ⟨lw_p2, List.forall_mem_cons.mpr ⟨lw_p3, List.forall_mem_cons.mpr ⟨lw_p4, List.forall_mem_cons.mpr ⟨lw_p5, List.forall_mem_cons.mpr ⟨lw_p6, List.forall_mem_cons.mpr ⟨lw_p7, List.forall_mem_cons.mpr ⟨lw_p8, List.forall_mem_cons.mpr ⟨lw_p9, List.forall_mem_cons.mpr ⟨lw_p10, List.forall_mem_cons.mpr ⟨lw_p11, List.forall_mem_cons.mpr ⟨lw_p12, List.forall_mem_cons.mpr ⟨lw_p13, List.forall_mem_cons.mpr ⟨lw_p14, List.forall_mem_cons.mpr ⟨lw_p15, fun _ h => absurd h List.not_mem_nil⟩⟩⟩⟩⟩⟩⟩⟩⟩⟩⟩⟩⟩⟩⟩⟩
theorem lw_p16 : lw_okq (⟨"LuggageCounter", "shelfForMove", "(LLuggageCounter$Thing;)LLuggageCounter$Shelf;"⟩, 15) := ⟨⟨by decide +kernel, by decide +kernel⟩, List.mem_of_getElem? (i := 10) (by decide +kernel), List.mem_of_getElem? (i := 434) (by decide +kernel), List.mem_of_getElem? (i := 435) (by decide +kernel)⟩
theorem lw_p17 : lw_okq (⟨"LuggageCounter", "move", "(LLuggageCounter$Thing;LLuggageCounter$Shelf;)V"⟩, 15) := ⟨⟨by decide +kernel, by decide +kernel⟩, List.mem_of_getElem? (i := 10) (by decide +kernel), List.mem_of_getElem? (i := 438) (by decide +kernel), List.mem_of_getElem? (i := 439) (by decide +kernel)⟩
theorem lw_p18 : lw_okq (⟨"LuggageCounter$Arranger", "fullSet", "()I"⟩, 3) := ⟨⟨by decide +kernel, by decide +kernel⟩, List.mem_of_getElem? (i := 26) (by decide +kernel), List.mem_of_getElem? (i := 459) (by decide +kernel), List.mem_of_getElem? (i := 460) (by decide +kernel)⟩
theorem lw_p19 : lw_okq (⟨"LuggageCounter$Arranger", "partSum", "(ILLuggageCounter$Shelf;I)I"⟩, 3) := ⟨⟨by decide +kernel, by decide +kernel⟩, List.mem_of_getElem? (i := 26) (by decide +kernel), List.mem_of_getElem? (i := 463) (by decide +kernel), List.mem_of_getElem? (i := 464) (by decide +kernel)⟩
theorem lw_p20 : lw_okq (⟨"LuggageCounter", "shelfAt", "(I)LLuggageCounter$Shelf;"⟩, 15) := ⟨⟨by decide +kernel, by decide +kernel⟩, List.mem_of_getElem? (i := 10) (by decide +kernel), List.mem_of_getElem? (i := 487) (by decide +kernel), List.mem_of_getElem? (i := 488) (by decide +kernel)⟩
theorem lw_p21 : lw_okq (⟨"LuggageCounter", "thingsIn", "()I"⟩, 15) := ⟨⟨by decide +kernel, by decide +kernel⟩, List.mem_of_getElem? (i := 10) (by decide +kernel), List.mem_of_getElem? (i := 519) (by decide +kernel), List.mem_of_getElem? (i := 520) (by decide +kernel)⟩
theorem lw_p22 : lw_okq (⟨"LuggageCounter", "coinsKept", "()I"⟩, 15) := ⟨⟨by decide +kernel, by decide +kernel⟩, List.mem_of_getElem? (i := 10) (by decide +kernel), List.mem_of_getElem? (i := 523) (by decide +kernel), List.mem_of_getElem? (i := 524) (by decide +kernel)⟩
theorem lw_p23 : lw_okq (⟨"LuggageCounterModel", "isOpen", "()Z"⟩, 36) := ⟨⟨by decide +kernel, by decide +kernel⟩, List.mem_of_getElem? (i := 527) (by decide +kernel), List.mem_of_getElem? (i := 668) (by decide +kernel), List.mem_of_getElem? (i := 669) (by decide +kernel)⟩
theorem lw_p24 : lw_okq (⟨"LuggageCounterModel", "fits", "(II)Z"⟩, 36) := ⟨⟨by decide +kernel, by decide +kernel⟩, List.mem_of_getElem? (i := 527) (by decide +kernel), List.mem_of_getElem? (i := 672) (by decide +kernel), List.mem_of_getElem? (i := 673) (by decide +kernel)⟩
theorem lw_p25 : lw_okq (⟨"LuggageCounterModel", "suits", "(II)Z"⟩, 36) := ⟨⟨by decide +kernel, by decide +kernel⟩, List.mem_of_getElem? (i := 527) (by decide +kernel), List.mem_of_getElem? (i := 676) (by decide +kernel), List.mem_of_getElem? (i := 677) (by decide +kernel)⟩
theorem lw_p26 : lw_okq (⟨"LuggageCounterModel", "free", "(I)I"⟩, 36) := ⟨⟨by decide +kernel, by decide +kernel⟩, List.mem_of_getElem? (i := 527) (by decide +kernel), List.mem_of_getElem? (i := 680) (by decide +kernel), List.mem_of_getElem? (i := 681) (by decide +kernel)⟩
theorem lw_p27 : lw_okq (⟨"LuggageCounterModel", "misfitOn", "(II)I"⟩, 36) := ⟨⟨by decide +kernel, by decide +kernel⟩, List.mem_of_getElem? (i := 527) (by decide +kernel), List.mem_of_getElem? (i := 684) (by decide +kernel), List.mem_of_getElem? (i := 685) (by decide +kernel)⟩
theorem lw_p28 : lw_okq (⟨"LuggageCounterModel", "wanted", "(I)I"⟩, 36) := ⟨⟨by decide +kernel, by decide +kernel⟩, List.mem_of_getElem? (i := 527) (by decide +kernel), List.mem_of_getElem? (i := 688) (by decide +kernel), List.mem_of_getElem? (i := 689) (by decide +kernel)⟩
theorem lw_p29 : lw_okq (⟨"LuggageCounterModel", "thingOf", "(I)I"⟩, 36) := ⟨⟨by decide +kernel, by decide +kernel⟩, List.mem_of_getElem? (i := 527) (by decide +kernel), List.mem_of_getElem? (i := 702) (by decide +kernel), List.mem_of_getElem? (i := 703) (by decide +kernel)⟩
theorem lw_p30 : lw_okq (⟨"LuggageCounterModel", "feeOf", "(I)I"⟩, 36) := ⟨⟨by decide +kernel, by decide +kernel⟩, List.mem_of_getElem? (i := 527) (by decide +kernel), List.mem_of_getElem? (i := 706) (by decide +kernel), List.mem_of_getElem? (i := 707) (by decide +kernel)⟩
theorem lw_p31 : lw_okq (⟨"LuggageCounterModel", "rowOf", "(I)I"⟩, 36) := ⟨⟨by decide +kernel, by decide +kernel⟩, List.mem_of_getElem? (i := 527) (by decide +kernel), List.mem_of_getElem? (i := 710) (by decide +kernel), List.mem_of_getElem? (i := 711) (by decide +kernel)⟩
def lw_privs_2 : List (MethodName × Nat) := [(⟨"LuggageCounter", "shelfForMove", "(LLuggageCounter$Thing;)LLuggageCounter$Shelf;"⟩, 15), (⟨"LuggageCounter", "move", "(LLuggageCounter$Thing;LLuggageCounter$Shelf;)V"⟩, 15), (⟨"LuggageCounter$Arranger", "fullSet", "()I"⟩, 3), (⟨"LuggageCounter$Arranger", "partSum", "(ILLuggageCounter$Shelf;I)I"⟩, 3), (⟨"LuggageCounter", "shelfAt", "(I)LLuggageCounter$Shelf;"⟩, 15), (⟨"LuggageCounter", "thingsIn", "()I"⟩, 15), (⟨"LuggageCounter", "coinsKept", "()I"⟩, 15), (⟨"LuggageCounterModel", "isOpen", "()Z"⟩, 36), (⟨"LuggageCounterModel", "fits", "(II)Z"⟩, 36), (⟨"LuggageCounterModel", "suits", "(II)Z"⟩, 36), (⟨"LuggageCounterModel", "free", "(I)I"⟩, 36), (⟨"LuggageCounterModel", "misfitOn", "(II)I"⟩, 36), (⟨"LuggageCounterModel", "wanted", "(I)I"⟩, 36), (⟨"LuggageCounterModel", "thingOf", "(I)I"⟩, 36), (⟨"LuggageCounterModel", "feeOf", "(I)I"⟩, 36), (⟨"LuggageCounterModel", "rowOf", "(I)I"⟩, 36)]
theorem lw_r2 : ∀ q ∈ lw_privs_2, lw_okq q := List.forall_mem_cons.mpr ⟨lw_p16, List.forall_mem_cons.mpr ⟨lw_p17, List.forall_mem_cons.mpr ⟨lw_p18, List.forall_mem_cons.mpr ⟨lw_p19, List.forall_mem_cons.mpr ⟨lw_p20, List.forall_mem_cons.mpr ⟨lw_p21, List.forall_mem_cons.mpr ⟨lw_p22, List.forall_mem_cons.mpr ⟨lw_p23, List.forall_mem_cons.mpr ⟨lw_p24, List.forall_mem_cons.mpr ⟨lw_p25, List.forall_mem_cons.mpr ⟨lw_p26, List.forall_mem_cons.mpr ⟨lw_p27, List.forall_mem_cons.mpr ⟨lw_p28, List.forall_mem_cons.mpr ⟨lw_p29, List.forall_mem_cons.mpr ⟨lw_p30, List.forall_mem_cons.mpr ⟨lw_p31, fun _ h => absurd h List.not_mem_nil⟩⟩⟩⟩⟩⟩⟩⟩⟩⟩⟩⟩⟩⟩⟩⟩
theorem lw_p32 : lw_okq (⟨"LuggageCounterModel", "leaves", "(II)V"⟩, 36) := ⟨⟨by decide +kernel, by decide +kernel⟩, List.mem_of_getElem? (i := 527) (by decide +kernel), List.mem_of_getElem? (i := 719) (by decide +kernel), List.mem_of_getElem? (i := 720) (by decide +kernel)⟩
theorem lw_p33 : lw_okq (⟨"LuggageCounterModel", "isClaim", "(I)Z"⟩, 36) := ⟨⟨by decide +kernel, by decide +kernel⟩, List.mem_of_getElem? (i := 527) (by decide +kernel), List.mem_of_getElem? (i := 731) (by decide +kernel), List.mem_of_getElem? (i := 732) (by decide +kernel)⟩
theorem lw_p34 : lw_okq (⟨"LuggageCounterModel", "isMeant", "(II)Z"⟩, 36) := ⟨⟨by decide +kernel, by decide +kernel⟩, List.mem_of_getElem? (i := 527) (by decide +kernel), List.mem_of_getElem? (i := 735) (by decide +kernel), List.mem_of_getElem? (i := 736) (by decide +kernel)⟩
theorem lw_p35 : lw_okq (⟨"LuggageCounterModel", "manyTold", "(I)I"⟩, 36) := ⟨⟨by decide +kernel, by decide +kernel⟩, List.mem_of_getElem? (i := 527) (by decide +kernel), List.mem_of_getElem? (i := 755) (by decide +kernel), List.mem_of_getElem? (i := 756) (by decide +kernel)⟩
theorem lw_p36 : lw_okq (⟨"LuggageCounterModel", "meant", "(I)I"⟩, 36) := ⟨⟨by decide +kernel, by decide +kernel⟩, List.mem_of_getElem? (i := 527) (by decide +kernel), List.mem_of_getElem? (i := 759) (by decide +kernel), List.mem_of_getElem? (i := 760) (by decide +kernel)⟩
def lw_privs_3 : List (MethodName × Nat) := [(⟨"LuggageCounterModel", "leaves", "(II)V"⟩, 36), (⟨"LuggageCounterModel", "isClaim", "(I)Z"⟩, 36), (⟨"LuggageCounterModel", "isMeant", "(II)Z"⟩, 36), (⟨"LuggageCounterModel", "manyTold", "(I)I"⟩, 36), (⟨"LuggageCounterModel", "meant", "(I)I"⟩, 36)]
theorem lw_r3 : ∀ q ∈ lw_privs_3, lw_okq q := List.forall_mem_cons.mpr ⟨lw_p32, List.forall_mem_cons.mpr ⟨lw_p33, List.forall_mem_cons.mpr ⟨lw_p34, List.forall_mem_cons.mpr ⟨lw_p35, List.forall_mem_cons.mpr ⟨lw_p36, fun _ h => absurd h List.not_mem_nil⟩⟩⟩⟩⟩
def lw_privs : List (MethodName × Nat) := lw_privs_1 ++ (lw_privs_2 ++ (lw_privs_3))
def lw_tbl : List Cond := k2_sels lw_privs ++ tables_1
theorem lw_privs_ok : ∀ q ∈ lw_privs, lw_okq q := by
  show ∀ q ∈ lw_privs_1 ++ (lw_privs_2 ++ (lw_privs_3)), lw_okq q
  exact List.forall_mem_append.mpr ⟨lw_r1, List.forall_mem_append.mpr ⟨lw_r2, lw_r3⟩⟩
-- ===== the printed names (kit: claim/NAMES.whole.lean.txt, its head) =====
/-! ===== BEGIN words of one list among another's, by their places ===== -/
theorem goodIn_r {big : List Cond} (ws : List Cond) (ps : List Nat) (hp : ws = ps.filterMap (fun i => big[i]?)) (h : ws.all goodWord = true) : GoodIn big ws := by
  intro w hw
  have h1 := List.all_eq_true.mp h w hw
  rw [hp] at hw
  obtain ⟨i, -, hi⟩ := List.mem_filterMap.mp hw
  have hm : w ∈ big := by first | exact List.mem_of_getElem? hi | exact List.getElem?_mem hi
  exact ⟨hm, good_of_word h1⟩
theorem goodIn_app {big a b : List Cond} (ha : GoodIn big a) (hb : GoodIn big b) : GoodIn big (a ++ b) := fun w h => (List.mem_append.mp h).elim (ha w) (hb w)
theorem goodIn_ca {big a b : List Cond} {c : Cond} (ha : GoodIn big (c :: a)) (hb : GoodIn big b) : GoodIn big (c :: (a ++ b)) := fun w h => (List.mem_cons.mp h).elim (fun e => ha w (List.mem_cons.mpr (Or.inl e))) (fun h => (List.mem_append.mp h).elim (fun h => ha w (List.mem_cons.mpr (Or.inr h))) (hb w))
theorem goodIn_sub {big ws : List Cond} (hm : ∀ w ∈ ws, w ∈ big) (h : ws.all goodWord = true) : GoodIn big ws := fun w hw => ⟨hm w hw, good_of_word (List.all_eq_true.mp h w hw)⟩
/-! ===== END ===== -/

/-! ===== BEGIN printed: names, fields, word lists, decode rows ===== -/
def RX0 : String := "LuggageCounter$Arranger"
def TX0 : u_T := fun k => match k with
  | 0 => ("LuggageCounter$Arranger", "loose", "[LLuggageCounter$Thing;", true)
  | 1 => ("LuggageCounter$Arranger", "sums", "[I", true)
  | _ => ("LuggageCounter$Arranger", "size", "I", false)
def tyX0 : Nat → FieldType := fun k => match k with
  | 0 => .array (.object "LuggageCounter$Thing")
  | 1 => .array .int
  | _ => .int
abbrev wsX00 : List Cond := u_ws RX0 TX0 3
theorem nmX0 : ∀ a, a < 3 → ∀ b, b < 3 → a ≠ b → (TX0 a).2.1 ≠ (TX0 b).2.1 := by decide +kernel
theorem tyX0_ok : ∀ k, k < 3 → parseFieldDescriptor (TX0 k).2.2.1 = some (tyX0 k) := by decide +kernel
abbrev cX0_init : ByteArray := prog_2_method_1_code
def yX0_init : MethodName := ⟨RX0, "<init>", "()V"⟩
abbrev cX0_clear : ByteArray := prog_2_method_2_code
def yX0_clear : MethodName := ⟨RX0, "clear", "()V"⟩
abbrev cX0_add : ByteArray := prog_2_method_3_code
def yX0_add : MethodName := ⟨RX0, "add", "(LLuggageCounter$Thing;)Z"⟩
abbrev cX0_offer : ByteArray := prog_2_method_4_code
def yX0_offer : MethodName := ⟨RX0, "offer", "(LLuggageCounter$Shelf;I)V"⟩
abbrev cX0_leastSum : ByteArray := prog_2_method_5_code
def yX0_leastSum : MethodName := ⟨RX0, "leastSum", "()I"⟩
abbrev cX0_fullSet : ByteArray := prog_2_method_6_code
def yX0_fullSet : MethodName := ⟨RX0, "fullSet", "()I"⟩
abbrev cX0_partSum : ByteArray := prog_2_method_7_code
def yX0_partSum : MethodName := ⟨RX0, "partSum", "(ILLuggageCounter$Shelf;I)I"⟩
def RX1 : String := "LuggageCounter$Claim"
def TX1 : u_T := fun k => match k with
  | 0 => ("LuggageCounter$Claim", "told", "[I", true)
  | 1 => ("LuggageCounter$Claim", "done", "Z", false)
  | _ => ("LuggageCounter$Claim", "got", "I", false)
def tyX1 : Nat → FieldType := fun k => match k with
  | 0 => .array .int
  | 1 => .boolean
  | _ => .int
abbrev wsX10 : List Cond := u_ws RX1 TX1 3
theorem nmX1 : ∀ a, a < 3 → ∀ b, b < 3 → a ≠ b → (TX1 a).2.1 ≠ (TX1 b).2.1 := by decide +kernel
theorem tyX1_ok : ∀ k, k < 3 → parseFieldDescriptor (TX1 k).2.2.1 = some (tyX1 k) := by decide +kernel
abbrev cX1_init : ByteArray := prog_3_method_1_code
def yX1_init : MethodName := ⟨RX1, "<init>", "()V"⟩
abbrev cX1_toldCount : ByteArray := prog_3_method_2_code
def yX1_toldCount : MethodName := ⟨RX1, "toldCount", "()I"⟩
abbrev cX1_isAbout : ByteArray := prog_3_method_3_code
def yX1_isAbout : MethodName := ⟨RX1, "isAbout", "(LLuggageCounter$Thing;)Z"⟩
def RX2 : String := "LuggageCounter$PriceRow"
def TX2 : u_T := fun k => match k with
  | 0 => ("LuggageCounter$PriceRow", "from", "I", true)
  | 1 => ("LuggageCounter$PriceRow", "base", "I", true)
  | 2 => ("LuggageCounter$PriceRow", "aDay", "I", true)
  | 3 => ("LuggageCounter$PriceRow", "aSize", "I", true)
  | _ => ("LuggageCounter$PriceRow", "cold", "I", true)
def tyX2 : Nat → FieldType := fun k => match k with
  | 0 => .int
  | 1 => .int
  | 2 => .int
  | 3 => .int
  | _ => .int
abbrev wsX20 : List Cond := u_ws RX2 TX2 5
theorem nmX2 : ∀ a, a < 5 → ∀ b, b < 5 → a ≠ b → (TX2 a).2.1 ≠ (TX2 b).2.1 := by decide +kernel
theorem tyX2_ok : ∀ k, k < 5 → parseFieldDescriptor (TX2 k).2.2.1 = some (tyX2 k) := by decide +kernel
abbrev cX2_init : ByteArray := prog_4_method_1_code
def yX2_init : MethodName := ⟨RX2, "<init>", "(IIIII)V"⟩
abbrev cX2_dayPrice : ByteArray := prog_4_method_2_code
def yX2_dayPrice : MethodName := ⟨RX2, "dayPrice", "(LLuggageCounter$Thing;)I"⟩
def RX3 : String := "LuggageCounter$Shelf"
def TX3 : u_T := fun k => match k with
  | 0 => ("LuggageCounter$Shelf", "number", "I", true)
  | 1 => ("LuggageCounter$Shelf", "room", "I", true)
  | 2 => ("LuggageCounter$Shelf", "height", "I", true)
  | 3 => ("LuggageCounter$Shelf", "cold", "Z", true)
  | 4 => ("LuggageCounter$Shelf", "distance", "I", true)
  | 5 => ("LuggageCounter$Shelf", "free", "I", false)
  | 6 => ("LuggageCounter$Shelf", "load", "I", false)
  | _ => ("LuggageCounter$Shelf", "torn", "Z", false)
def tyX3 : Nat → FieldType := fun k => match k with
  | 0 => .int
  | 1 => .int
  | 2 => .int
  | 3 => .boolean
  | 4 => .int
  | 5 => .int
  | 6 => .int
  | _ => .boolean
abbrev wsX30 : List Cond := u_ws RX3 TX3 8
theorem nmX3 : ∀ a, a < 8 → ∀ b, b < 8 → a ≠ b → (TX3 a).2.1 ≠ (TX3 b).2.1 := by decide +kernel
theorem tyX3_ok : ∀ k, k < 8 → parseFieldDescriptor (TX3 k).2.2.1 = some (tyX3 k) := by decide +kernel
abbrev cX3_init : ByteArray := prog_5_method_1_code
def yX3_init : MethodName := ⟨RX3, "<init>", "(IIIZI)V"⟩
abbrev cX3_suits : ByteArray := prog_5_method_2_code
def yX3_suits : MethodName := ⟨RX3, "suits", "(LLuggageCounter$Thing;)Z"⟩
abbrev cX3_fits : ByteArray := prog_5_method_3_code
def yX3_fits : MethodName := ⟨RX3, "fits", "(LLuggageCounter$Thing;)Z"⟩
abbrev cX3_take : ByteArray := prog_5_method_4_code
def yX3_take : MethodName := ⟨RX3, "take", "(LLuggageCounter$Thing;)V"⟩
abbrev cX3_release : ByteArray := prog_5_method_5_code
def yX3_release : MethodName := ⟨RX3, "release", "(LLuggageCounter$Thing;)V"⟩
def RX4 : String := "LuggageCounter$Thing"
def TX4 : u_T := fun k => match k with
  | 0 => ("LuggageCounter$Thing", "size", "I", true)
  | 1 => ("LuggageCounter$Thing", "height", "I", true)
  | 2 => ("LuggageCounter$Thing", "cold", "Z", true)
  | 3 => ("LuggageCounter$Thing", "locked", "Z", true)
  | 4 => ("LuggageCounter$Thing", "marks", "I", true)
  | 5 => ("LuggageCounter$Thing", "due", "I", true)
  | 6 => ("LuggageCounter$Thing", "came", "I", true)
  | 7 => ("LuggageCounter$Thing", "how", "I", false)
  | 8 => ("LuggageCounter$Thing", "place", "LLuggageCounter$Shelf;", false)
  | 9 => ("LuggageCounter$Thing", "coins", "I", false)
  | _ => ("LuggageCounter$Thing", "soldDay", "I", false)
def tyX4 : Nat → FieldType := fun k => match k with
  | 0 => .int
  | 1 => .int
  | 2 => .boolean
  | 3 => .boolean
  | 4 => .int
  | 5 => .int
  | 6 => .int
  | 7 => .int
  | 8 => .object "LuggageCounter$Shelf"
  | 9 => .int
  | _ => .int
abbrev wsX40 : List Cond := u_ws RX4 TX4 11
theorem nmX4 : ∀ a, a < 11 → ∀ b, b < 11 → a ≠ b → (TX4 a).2.1 ≠ (TX4 b).2.1 := by decide +kernel
theorem tyX4_ok : ∀ k, k < 11 → parseFieldDescriptor (TX4 k).2.2.1 = some (tyX4 k) := by decide +kernel
abbrev cX4_init : ByteArray := prog_6_method_1_code
def yX4_init : MethodName := ⟨RX4, "<init>", "(IIZZIII)V"⟩
abbrev cX4_dueDay : ByteArray := prog_6_method_2_code
def yX4_dueDay : MethodName := ⟨RX4, "dueDay", "()I"⟩
abbrev cX4_markAt : ByteArray := prog_6_method_3_code
def yX4_markAt : MethodName := ⟨RX4, "markAt", "(I)I"⟩
abbrev cX4_wanted : ByteArray := prog_6_method_4_code
def yX4_wanted : MethodName := ⟨RX4, "wanted", "(I)I"⟩
abbrev cX4_misfitOn : ByteArray := prog_6_method_5_code
def yX4_misfitOn : MethodName := ⟨RX4, "misfitOn", "(LLuggageCounter$Shelf;I)I"⟩
abbrev cX4_misfitHere : ByteArray := prog_6_method_6_code
def yX4_misfitHere : MethodName := ⟨RX4, "misfitHere", "(I)I"⟩
abbrev cX4_placeNumber : ByteArray := prog_6_method_7_code
def yX4_placeNumber : MethodName := ⟨RX4, "placeNumber", "()I"⟩
abbrev cX4_isStuck : ByteArray := prog_6_method_8_code
def yX4_isStuck : MethodName := ⟨RX4, "isStuck", "()Z"⟩
def RX5 : String := "LuggageCounter"
def TX5 : u_T := fun k => match k with
  | 0 => ("LuggageCounter", "shelves", "[LLuggageCounter$Shelf;", true)
  | 1 => ("LuggageCounter", "shelfCount", "I", false)
  | 2 => ("LuggageCounter", "things", "[LLuggageCounter$Thing;", true)
  | 3 => ("LuggageCounter", "thingCount", "I", false)
  | 4 => ("LuggageCounter", "claims", "[LLuggageCounter$Claim;", true)
  | 5 => ("LuggageCounter", "claimCount", "I", false)
  | 6 => ("LuggageCounter", "rows", "[LLuggageCounter$PriceRow;", true)
  | 7 => ("LuggageCounter", "rowCount", "I", false)
  | 8 => ("LuggageCounter", "heaps", "[I", true)
  | 9 => ("LuggageCounter", "arranger", "LLuggageCounter$Arranger;", true)
  | 10 => ("LuggageCounter", "minute", "I", false)
  | 11 => ("LuggageCounter", "opens", "I", false)
  | 12 => ("LuggageCounter", "shuts", "I", false)
  | 13 => ("LuggageCounter", "till", "I", false)
  | _ => ("LuggageCounter", "steps", "I", false)
def tyX5 : Nat → FieldType := fun k => match k with
  | 0 => .array (.object "LuggageCounter$Shelf")
  | 1 => .int
  | 2 => .array (.object "LuggageCounter$Thing")
  | 3 => .int
  | 4 => .array (.object "LuggageCounter$Claim")
  | 5 => .int
  | 6 => .array (.object "LuggageCounter$PriceRow")
  | 7 => .int
  | 8 => .array .int
  | 9 => .object "LuggageCounter$Arranger"
  | 10 => .int
  | 11 => .int
  | 12 => .int
  | 13 => .int
  | _ => .int
abbrev wsX50 : List Cond := u_ws RX5 TX5 15
theorem nmX5 : ∀ a, a < 15 → ∀ b, b < 15 → a ≠ b → (TX5 a).2.1 ≠ (TX5 b).2.1 := by decide +kernel
theorem tyX5_ok : ∀ k, k < 15 → parseFieldDescriptor (TX5 k).2.2.1 = some (tyX5 k) := by decide +kernel
abbrev cX5_init : ByteArray := prog_1_method_1_code
def yX5_init : MethodName := ⟨RX5, "<init>", "()V"⟩
abbrev cX5_clock : ByteArray := prog_1_method_2_code
def yX5_clock : MethodName := ⟨RX5, "clock", "(I)I"⟩
abbrev cX5_hours : ByteArray := prog_1_method_3_code
def yX5_hours : MethodName := ⟨RX5, "hours", "(II)Z"⟩
abbrev cX5_prices : ByteArray := prog_1_method_4_code
def yX5_prices : MethodName := ⟨RX5, "prices", "(IIIII)Z"⟩
abbrev cX5_shelf : ByteArray := prog_1_method_5_code
def yX5_shelf : MethodName := ⟨RX5, "shelf", "(IIZI)I"⟩
abbrev cX5_put : ByteArray := prog_1_method_6_code
def yX5_put : MethodName := ⟨RX5, "put", "(IIZZII)I"⟩
abbrev cX5_fee : ByteArray := prog_1_method_7_code
def yX5_fee : MethodName := ⟨RX5, "fee", "(I)I"⟩
abbrev cX5_give : ByteArray := prog_1_method_8_code
def yX5_give : MethodName := ⟨RX5, "give", "(I)I"⟩
abbrev cX5_claim : ByteArray := prog_1_method_9_code
def yX5_claim : MethodName := ⟨RX5, "claim", "()I"⟩
abbrev cX5_mark : ByteArray := prog_1_method_10_code
def yX5_mark : MethodName := ⟨RX5, "mark", "(III)I"⟩
abbrev cX5_means : ByteArray := prog_1_method_11_code
def yX5_means : MethodName := ⟨RX5, "means", "(I)I"⟩
abbrev cX5_ask : ByteArray := prog_1_method_12_code
def yX5_ask : MethodName := ⟨RX5, "ask", "(I)I"⟩
abbrev cX5_settle : ByteArray := prog_1_method_13_code
def yX5_settle : MethodName := ⟨RX5, "settle", "(I)I"⟩
abbrev cX5_misfit : ByteArray := prog_1_method_14_code
def yX5_misfit : MethodName := ⟨RX5, "misfit", "()I"⟩
abbrev cX5_tidy : ByteArray := prog_1_method_15_code
def yX5_tidy : MethodName := ⟨RX5, "tidy", "(I)I"⟩
abbrev cX5_least : ByteArray := prog_1_method_16_code
def yX5_least : MethodName := ⟨RX5, "least", "()I"⟩
abbrev cX5_sell : ByteArray := prog_1_method_17_code
def yX5_sell : MethodName := ⟨RX5, "sell", "(II)I"⟩
abbrev cX5_pay : ByteArray := prog_1_method_18_code
def yX5_pay : MethodName := ⟨RX5, "pay", "(I)I"⟩
abbrev cX5_tear : ByteArray := prog_1_method_19_code
def yX5_tear : MethodName := ⟨RX5, "tear", "(I)Z"⟩
abbrev cX5_mend : ByteArray := prog_1_method_20_code
def yX5_mend : MethodName := ⟨RX5, "mend", "(I)Z"⟩
abbrev cX5_shelfOf : ByteArray := prog_1_method_21_code
def yX5_shelfOf : MethodName := ⟨RX5, "shelfOf", "(II)I"⟩
abbrev cX5_thing : ByteArray := prog_1_method_22_code
def yX5_thing : MethodName := ⟨RX5, "thing", "(II)I"⟩
abbrev cX5_claimOf : ByteArray := prog_1_method_23_code
def yX5_claimOf : MethodName := ⟨RX5, "claimOf", "(II)I"⟩
abbrev cX5_count : ByteArray := prog_1_method_24_code
def yX5_count : MethodName := ⟨RX5, "count", "(I)I"⟩
abbrev cX5_isWithin : ByteArray := prog_1_method_25_code
def yX5_isWithin : MethodName := ⟨RX5, "isWithin", "(III)Z"⟩
abbrev cX5_isPrice : ByteArray := prog_1_method_26_code
def yX5_isPrice : MethodName := ⟨RX5, "isPrice", "(I)Z"⟩
abbrev cX5_asNumber : ByteArray := prog_1_method_27_code
def yX5_asNumber : MethodName := ⟨RX5, "asNumber", "(Z)I"⟩
abbrev cX5_dayOf : ByteArray := prog_1_method_28_code
def yX5_dayOf : MethodName := ⟨RX5, "dayOf", "(I)I"⟩
abbrev cX5_today : ByteArray := prog_1_method_29_code
def yX5_today : MethodName := ⟨RX5, "today", "()I"⟩
abbrev cX5_isOpen : ByteArray := prog_1_method_30_code
def yX5_isOpen : MethodName := ⟨RX5, "isOpen", "()Z"⟩
abbrev cX5_shelfAt : ByteArray := prog_1_method_31_code
def yX5_shelfAt : MethodName := ⟨RX5, "shelfAt", "(I)LLuggageCounter$Shelf;"⟩
abbrev cX5_thingAt : ByteArray := prog_1_method_32_code
def yX5_thingAt : MethodName := ⟨RX5, "thingAt", "(I)LLuggageCounter$Thing;"⟩
abbrev cX5_claimAt : ByteArray := prog_1_method_33_code
def yX5_claimAt : MethodName := ⟨RX5, "claimAt", "(I)LLuggageCounter$Claim;"⟩
abbrev cX5_ticketOf : ByteArray := prog_1_method_34_code
def yX5_ticketOf : MethodName := ⟨RX5, "ticketOf", "(I)I"⟩
abbrev cX5_checkOf : ByteArray := prog_1_method_35_code
def yX5_checkOf : MethodName := ⟨RX5, "checkOf", "(I)I"⟩
abbrev cX5_isTicket : ByteArray := prog_1_method_36_code
def yX5_isTicket : MethodName := ⟨RX5, "isTicket", "(I)Z"⟩
abbrev cX5_lastRowDay : ByteArray := prog_1_method_37_code
def yX5_lastRowDay : MethodName := ⟨RX5, "lastRowDay", "()I"⟩
abbrev cX5_rowOn : ByteArray := prog_1_method_38_code
def yX5_rowOn : MethodName := ⟨RX5, "rowOn", "(I)LLuggageCounter$PriceRow;"⟩
abbrev cX5_feeOf : ByteArray := prog_1_method_39_code
def yX5_feeOf : MethodName := ⟨RX5, "feeOf", "(LLuggageCounter$Thing;)I"⟩
abbrev cX5_letOldCoinsFall : ByteArray := prog_1_method_40_code
def yX5_letOldCoinsFall : MethodName := ⟨RX5, "letOldCoinsFall", "()V"⟩
abbrev cX5_shelfForNew : ByteArray := prog_1_method_41_code
def yX5_shelfForNew : MethodName := ⟨RX5, "shelfForNew", "(LLuggageCounter$Thing;)LLuggageCounter$Shelf;"⟩
abbrev cX5_isNearer : ByteArray := prog_1_method_42_code
def yX5_isNearer : MethodName := ⟨RX5, "isNearer", "(LLuggageCounter$Shelf;LLuggageCounter$Shelf;LLuggageCounter$Thing;)Z"⟩
abbrev cX5_takeAway : ByteArray := prog_1_method_43_code
def yX5_takeAway : MethodName := ⟨RX5, "takeAway", "(LLuggageCounter$Thing;I)V"⟩
abbrev cX5_meantBy : ByteArray := prog_1_method_44_code
def yX5_meantBy : MethodName := ⟨RX5, "meantBy", "(LLuggageCounter$Claim;)I"⟩
abbrev cX5_firstMeantBy : ByteArray := prog_1_method_45_code
def yX5_firstMeantBy : MethodName := ⟨RX5, "firstMeantBy", "(LLuggageCounter$Claim;)I"⟩
abbrev cX5_greatestHeap : ByteArray := prog_1_method_46_code
def yX5_greatestHeap : MethodName := ⟨RX5, "greatestHeap", "(LLuggageCounter$Claim;I)I"⟩
abbrev cX5_isContested : ByteArray := prog_1_method_47_code
def yX5_isContested : MethodName := ⟨RX5, "isContested", "(LLuggageCounter$Claim;LLuggageCounter$Thing;)Z"⟩
abbrev cX5_makeBestMove : ByteArray := prog_1_method_48_code
def yX5_makeBestMove : MethodName := ⟨RX5, "makeBestMove", "()Z"⟩
abbrev cX5_shelfForMove : ByteArray := prog_1_method_49_code
def yX5_shelfForMove : MethodName := ⟨RX5, "shelfForMove", "(LLuggageCounter$Thing;)LLuggageCounter$Shelf;"⟩
abbrev cX5_move : ByteArray := prog_1_method_50_code
def yX5_move : MethodName := ⟨RX5, "move", "(LLuggageCounter$Thing;LLuggageCounter$Shelf;)V"⟩
abbrev cX5_thingsIn : ByteArray := prog_1_method_51_code
def yX5_thingsIn : MethodName := ⟨RX5, "thingsIn", "()I"⟩
abbrev cX5_coinsKept : ByteArray := prog_1_method_52_code
def yX5_coinsKept : MethodName := ⟨RX5, "coinsKept", "()I"⟩
def RX6 : String := "LuggageCounterModel"
def TX6 : u_T := fun k => match k with
  | 0 => ("LuggageCounterModel", "now", "I", false)
  | 1 => ("LuggageCounterModel", "opens", "I", false)
  | 2 => ("LuggageCounterModel", "shuts", "I", false)
  | 3 => ("LuggageCounterModel", "till", "I", false)
  | 4 => ("LuggageCounterModel", "walked", "I", false)
  | 5 => ("LuggageCounterModel", "rows", "I", false)
  | 6 => ("LuggageCounterModel", "rowDay", "[I", true)
  | 7 => ("LuggageCounterModel", "rowBase", "[I", true)
  | 8 => ("LuggageCounterModel", "rowADay", "[I", true)
  | 9 => ("LuggageCounterModel", "rowSize", "[I", true)
  | 10 => ("LuggageCounterModel", "rowCold", "[I", true)
  | 11 => ("LuggageCounterModel", "shelves", "I", false)
  | 12 => ("LuggageCounterModel", "things", "I", false)
  | 13 => ("LuggageCounterModel", "room", "[I", true)
  | 14 => ("LuggageCounterModel", "shelfHeight", "[I", true)
  | 15 => ("LuggageCounterModel", "distance", "[I", true)
  | 16 => ("LuggageCounterModel", "shelfCold", "[Z", true)
  | 17 => ("LuggageCounterModel", "isTorn", "[Z", true)
  | 18 => ("LuggageCounterModel", "size", "[I", true)
  | 19 => ("LuggageCounterModel", "height", "[I", true)
  | 20 => ("LuggageCounterModel", "marks", "[I", true)
  | 21 => ("LuggageCounterModel", "due", "[I", true)
  | 22 => ("LuggageCounterModel", "came", "[I", true)
  | 23 => ("LuggageCounterModel", "how", "[I", true)
  | 24 => ("LuggageCounterModel", "on", "[I", true)
  | 25 => ("LuggageCounterModel", "coins", "[I", true)
  | 26 => ("LuggageCounterModel", "soldDay", "[I", true)
  | 27 => ("LuggageCounterModel", "cold", "[Z", true)
  | 28 => ("LuggageCounterModel", "isSealed", "[Z", true)
  | 29 => ("LuggageCounterModel", "claims", "I", false)
  | 30 => ("LuggageCounterModel", "told", "[I", true)
  | 31 => ("LuggageCounterModel", "got", "[I", true)
  | 32 => ("LuggageCounterModel", "isDone", "[Z", true)
  | 33 => ("LuggageCounterModel", "anew", "[I", true)
  | 34 => ("LuggageCounterModel", "tried", "[I", true)
  | _ => ("LuggageCounterModel", "left", "[I", true)
def tyX6 : Nat → FieldType := fun k => match k with
  | 0 => .int
  | 1 => .int
  | 2 => .int
  | 3 => .int
  | 4 => .int
  | 5 => .int
  | 6 => .array .int
  | 7 => .array .int
  | 8 => .array .int
  | 9 => .array .int
  | 10 => .array .int
  | 11 => .int
  | 12 => .int
  | 13 => .array .int
  | 14 => .array .int
  | 15 => .array .int
  | 16 => .array .boolean
  | 17 => .array .boolean
  | 18 => .array .int
  | 19 => .array .int
  | 20 => .array .int
  | 21 => .array .int
  | 22 => .array .int
  | 23 => .array .int
  | 24 => .array .int
  | 25 => .array .int
  | 26 => .array .int
  | 27 => .array .boolean
  | 28 => .array .boolean
  | 29 => .int
  | 30 => .array .int
  | 31 => .array .int
  | 32 => .array .boolean
  | 33 => .array .int
  | 34 => .array .int
  | _ => .array .int
abbrev wsX60 : List Cond := u_ws RX6 TX6 36
theorem nmX6 : ∀ a, a < 36 → ∀ b, b < 36 → a ≠ b → (TX6 a).2.1 ≠ (TX6 b).2.1 := by decide +kernel
theorem tyX6_ok : ∀ k, k < 36 → parseFieldDescriptor (TX6 k).2.2.1 = some (tyX6 k) := by decide +kernel
abbrev cX6_init : ByteArray := prog_8_method_1_code
def yX6_init : MethodName := ⟨RX6, "<init>", "()V"⟩
abbrev cX6_in : ByteArray := prog_8_method_2_code
def yX6_in : MethodName := ⟨RX6, "in", "(III)Z"⟩
abbrev cX6_gap : ByteArray := prog_8_method_3_code
def yX6_gap : MethodName := ⟨RX6, "gap", "(II)I"⟩
abbrev cX6_isOpen : ByteArray := prog_8_method_4_code
def yX6_isOpen : MethodName := ⟨RX6, "isOpen", "()Z"⟩
abbrev cX6_hours : ByteArray := prog_8_method_5_code
def yX6_hours : MethodName := ⟨RX6, "hours", "(II)Z"⟩
abbrev cX6_clock : ByteArray := prog_8_method_6_code
def yX6_clock : MethodName := ⟨RX6, "clock", "(I)I"⟩
abbrev cX6_prices : ByteArray := prog_8_method_7_code
def yX6_prices : MethodName := ⟨RX6, "prices", "(IIIII)Z"⟩
abbrev cX6_rowOf : ByteArray := prog_8_method_8_code
def yX6_rowOf : MethodName := ⟨RX6, "rowOf", "(I)I"⟩
abbrev cX6_shelf : ByteArray := prog_8_method_9_code
def yX6_shelf : MethodName := ⟨RX6, "shelf", "(IIZI)I"⟩
abbrev cX6_free : ByteArray := prog_8_method_10_code
def yX6_free : MethodName := ⟨RX6, "free", "(I)I"⟩
abbrev cX6_suits : ByteArray := prog_8_method_11_code
def yX6_suits : MethodName := ⟨RX6, "suits", "(II)Z"⟩
abbrev cX6_fits : ByteArray := prog_8_method_12_code
def yX6_fits : MethodName := ⟨RX6, "fits", "(II)Z"⟩
abbrev cX6_wanted : ByteArray := prog_8_method_13_code
def yX6_wanted : MethodName := ⟨RX6, "wanted", "(I)I"⟩
abbrev cX6_misfitOn : ByteArray := prog_8_method_14_code
def yX6_misfitOn : MethodName := ⟨RX6, "misfitOn", "(II)I"⟩
abbrev cX6_ticketOf : ByteArray := prog_8_method_15_code
def yX6_ticketOf : MethodName := ⟨RX6, "ticketOf", "(I)I"⟩
abbrev cX6_put : ByteArray := prog_8_method_16_code
def yX6_put : MethodName := ⟨RX6, "put", "(IIZZII)I"⟩
abbrev cX6_feeOf : ByteArray := prog_8_method_17_code
def yX6_feeOf : MethodName := ⟨RX6, "feeOf", "(I)I"⟩
abbrev cX6_thingOf : ByteArray := prog_8_method_18_code
def yX6_thingOf : MethodName := ⟨RX6, "thingOf", "(I)I"⟩
abbrev cX6_fee : ByteArray := prog_8_method_19_code
def yX6_fee : MethodName := ⟨RX6, "fee", "(I)I"⟩
abbrev cX6_leaves : ByteArray := prog_8_method_20_code
def yX6_leaves : MethodName := ⟨RX6, "leaves", "(II)V"⟩
abbrev cX6_give : ByteArray := prog_8_method_21_code
def yX6_give : MethodName := ⟨RX6, "give", "(I)I"⟩
abbrev cX6_claim : ByteArray := prog_8_method_22_code
def yX6_claim : MethodName := ⟨RX6, "claim", "()I"⟩
abbrev cX6_isClaim : ByteArray := prog_8_method_23_code
def yX6_isClaim : MethodName := ⟨RX6, "isClaim", "(I)Z"⟩
abbrev cX6_markOf : ByteArray := prog_8_method_24_code
def yX6_markOf : MethodName := ⟨RX6, "markOf", "(II)I"⟩
abbrev cX6_isMeant : ByteArray := prog_8_method_25_code
def yX6_isMeant : MethodName := ⟨RX6, "isMeant", "(II)Z"⟩
abbrev cX6_meant : ByteArray := prog_8_method_26_code
def yX6_meant : MethodName := ⟨RX6, "meant", "(I)I"⟩
abbrev cX6_manyTold : ByteArray := prog_8_method_27_code
def yX6_manyTold : MethodName := ⟨RX6, "manyTold", "(I)I"⟩
abbrev cX6_means : ByteArray := prog_8_method_28_code
def yX6_means : MethodName := ⟨RX6, "means", "(I)I"⟩
abbrev cX6_mark : ByteArray := prog_8_method_29_code
def yX6_mark : MethodName := ⟨RX6, "mark", "(III)I"⟩
abbrev cX6_ask : ByteArray := prog_8_method_30_code
def yX6_ask : MethodName := ⟨RX6, "ask", "(I)I"⟩
abbrev cX6_settle : ByteArray := prog_8_method_31_code
def yX6_settle : MethodName := ⟨RX6, "settle", "(I)I"⟩
abbrev cX6_misfit : ByteArray := prog_8_method_32_code
def yX6_misfit : MethodName := ⟨RX6, "misfit", "()I"⟩
abbrev cX6_tidy : ByteArray := prog_8_method_33_code
def yX6_tidy : MethodName := ⟨RX6, "tidy", "(I)I"⟩
abbrev cX6_least : ByteArray := prog_8_method_34_code
def yX6_least : MethodName := ⟨RX6, "least", "()I"⟩
abbrev cX6_sell : ByteArray := prog_8_method_35_code
def yX6_sell : MethodName := ⟨RX6, "sell", "(II)I"⟩
abbrev cX6_pay : ByteArray := prog_8_method_36_code
def yX6_pay : MethodName := ⟨RX6, "pay", "(I)I"⟩
abbrev cX6_tear : ByteArray := prog_8_method_37_code
def yX6_tear : MethodName := ⟨RX6, "tear", "(I)Z"⟩
abbrev cX6_mend : ByteArray := prog_8_method_38_code
def yX6_mend : MethodName := ⟨RX6, "mend", "(I)Z"⟩
abbrev cX6_shelfOf : ByteArray := prog_8_method_39_code
def yX6_shelfOf : MethodName := ⟨RX6, "shelfOf", "(II)I"⟩
abbrev cX6_thing : ByteArray := prog_8_method_40_code
def yX6_thing : MethodName := ⟨RX6, "thing", "(II)I"⟩
abbrev cX6_claimOf : ByteArray := prog_8_method_41_code
def yX6_claimOf : MethodName := ⟨RX6, "claimOf", "(II)I"⟩
abbrev cX6_count : ByteArray := prog_8_method_42_code
def yX6_count : MethodName := ⟨RX6, "count", "(I)I"⟩
def RJ9 : String := "java/lang/Math"
def TJ9 : u_T := fun k => match k with
  | _ => ("", "", "", false)
def tyJ9 : Nat → FieldType := fun k => match k with
  | _ => .int
abbrev wsJ90 : List Cond := u_ws RJ9 TJ9 0
theorem nmJ9 : ∀ a, a < 0 → ∀ b, b < 0 → a ≠ b → (TJ9 a).2.1 ≠ (TJ9 b).2.1 := by decide +kernel
theorem tyJ9_ok : ∀ k, k < 0 → parseFieldDescriptor (TJ9 k).2.2.1 = some (tyJ9 k) := by decide +kernel
abbrev cJ9_abs_0f7a4 : ByteArray := prog_9_method_59_code
def yJ9_abs_0f7a4 : MethodName := ⟨RJ9, "abs", "(I)I"⟩
abbrev cJ9_max_7cf53 : ByteArray := prog_9_method_65_code
def yJ9_max_7cf53 : MethodName := ⟨RJ9, "max", "(II)I"⟩
abbrev cJ9_min_7cf53 : ByteArray := prog_9_method_69_code
def yJ9_min_7cf53 : MethodName := ⟨RJ9, "min", "(II)I"⟩
def RL : String := "LuggageCounterLaw"
abbrev cL_law : ByteArray := code
def yL_law : MethodName := ⟨RL, "law", "([I)Z"⟩
abbrev vwCl : List vw_C := [(RX0, TX0, 3), (RX1, TX1, 3), (RX2, TX2, 5), (RX3, TX3, 8), (RX4, TX4, 11), (RX5, TX5, 15), (RX6, TX6, 36)]
end
section
/-- an entry of a method's code: the place, the instruction, its length, and what its links mean: two numbers, and the place of its word in lw_tbl -/
abbrev am_E : Type := Nat × Instr × Nat × Nat × Nat × Nat
def kX0_init : List am_E := [(0, .aload_n 0, 1, 0, 0, 0), (1, .invokespecial 3, 3, 999, 0, 67), (4, .aload_n 0, 1, 0, 0, 0), (5, .iconst 5, 1, 0, 0, 0), (6, .anewarray 9, 3, 10, 0, 68), (9, .putfield 11, 3, 0, 0, 69), (12, .aload_n 0, 1, 0, 0, 0), (13, .bipush 32, 2, 0, 0, 0), (15, .newarray .int, 2, 7, 0, 0), (17, .putfield 17, 3, 0, 1, 70), (20, .return_, 1, 0, 0, 0)]
def kX0_clear : List am_E := [(0, .aload_n 0, 1, 0, 0, 0), (1, .iconst 0, 1, 0, 0, 0), (2, .putfield 21, 3, 0, 2, 71), (5, .aload_n 0, 1, 0, 0, 0), (6, .getfield 17, 3, 0, 1, 70), (9, .iconst 0, 1, 0, 0, 0), (10, .iconst 0, 1, 0, 0, 0), (11, .iastore, 1, 0, 0, 0), (12, .iconst 1, 1, 0, 0, 0), (13, .istore_n 1, 1, 0, 0, 0), (14, .iload_n 1, 1, 0, 0, 0), (15, .aload_n 0, 1, 0, 0, 0), (16, .getfield 17, 3, 0, 1, 70), (19, .arraylength, 1, 0, 0, 0), (20, .if_icmp .ge 17, 3, 37, 0, 0), (23, .aload_n 0, 1, 0, 0, 0), (24, .getfield 17, 3, 0, 1, 70), (27, .iload_n 1, 1, 0, 0, 0), (28, .ldc 25, 2, 1000000, 0, 486), (30, .iastore, 1, 0, 0, 0), (31, .iinc 1 1, 3, 0, 0, 0), (34, .goto (-20), 3, 14, 0, 0), (37, .return_, 1, 0, 0, 0)]
def kX0_add : List am_E := [(0, .aload_n 0, 1, 0, 0, 0), (1, .getfield 21, 3, 0, 2, 71), (4, .iconst 5, 1, 0, 0, 0), (5, .if_icmp .lt 5, 3, 10, 0, 0), (8, .iconst 0, 1, 0, 0, 0), (9, .ireturn, 1, 1, 0, 0), (10, .aload_n 0, 1, 0, 0, 0), (11, .getfield 11, 3, 0, 0, 69), (14, .aload_n 0, 1, 0, 0, 0), (15, .getfield 21, 3, 0, 2, 71), (18, .aload_n 1, 1, 0, 0, 0), (19, .aastore, 1, 0, 0, 0), (20, .aload_n 0, 1, 0, 0, 0), (21, .dup, 1, 0, 0, 0), (22, .getfield 21, 3, 0, 2, 71), (25, .iconst 1, 1, 0, 0, 0), (26, .iadd, 1, 0, 0, 0), (27, .putfield 21, 3, 0, 2, 71), (30, .iconst 1, 1, 0, 0, 0), (31, .ireturn, 1, 1, 0, 0)]
def kX0_offer : List am_E := [(0, .aload_n 0, 1, 0, 0, 0), (1, .invokevirtual 26, 3, 5, 0, 495), (4, .istore_n 3, 1, 0, 0, 0), (5, .iload_n 3, 1, 0, 0, 0), (6, .ifCond .le 70, 3, 76, 0, 0), (9, .iconst 1, 1, 0, 0, 0), (10, .istore 4, 2, 0, 0, 0), (12, .iload 4, 2, 0, 0, 0), (14, .iload_n 3, 1, 0, 0, 0), (15, .if_icmp .gt 55, 3, 70, 0, 0), (18, .iload 4, 2, 0, 0, 0), (20, .iload_n 3, 1, 0, 0, 0), (21, .iand, 1, 0, 0, 0), (22, .iload 4, 2, 0, 0, 0), (24, .if_icmp .ne 40, 3, 64, 0, 0), (27, .aload_n 0, 1, 0, 0, 0), (28, .getfield 17, 3, 0, 1, 70), (31, .iload_n 3, 1, 0, 0, 0), (32, .iload 4, 2, 0, 0, 0), (34, .isub, 1, 0, 0, 0), (35, .iaload, 1, 0, 0, 0), (36, .aload_n 0, 1, 0, 0, 0), (37, .iload 4, 2, 0, 0, 0), (39, .aload_n 1, 1, 0, 0, 0), (40, .iload_n 2, 1, 0, 0, 0), (41, .invokevirtual 30, 3, 6, 3, 499), (44, .iadd, 1, 0, 0, 0), (45, .istore 5, 2, 0, 0, 0), (47, .aload_n 0, 1, 0, 0, 0), (48, .getfield 17, 3, 0, 1, 70), (51, .iload_n 3, 1, 0, 0, 0), (52, .aload_n 0, 1, 0, 0, 0), (53, .getfield 17, 3, 0, 1, 70), (56, .iload_n 3, 1, 0, 0, 0), (57, .iaload, 1, 0, 0, 0), (58, .iload 5, 2, 0, 0, 0), (60, .invokestatic 34, 3, 121, 2, 505), (63, .iastore, 1, 0, 0, 0), (64, .iinc 4 1, 3, 0, 0, 0), (67, .goto (-55), 3, 12, 0, 0), (70, .iinc 3 (-1), 3, 0, 0, 0), (73, .goto (-68), 3, 5, 0, 0), (76, .return_, 1, 0, 0, 0)]
def kX0_leastSum : List am_E := [(0, .aload_n 0, 1, 0, 0, 0), (1, .getfield 17, 3, 0, 1, 70), (4, .aload_n 0, 1, 0, 0, 0), (5, .invokevirtual 26, 3, 5, 0, 495), (8, .iaload, 1, 0, 0, 0), (9, .ireturn, 1, 0, 0, 0)]
def kX0_fullSet : List am_E := [(0, .iconst 1, 1, 0, 0, 0), (1, .aload_n 0, 1, 0, 0, 0), (2, .getfield 21, 3, 0, 2, 71), (5, .ishl, 1, 0, 0, 0), (6, .iconst 1, 1, 0, 0, 0), (7, .isub, 1, 0, 0, 0), (8, .ireturn, 1, 0, 0, 0)]
def kX0_partSum : List am_E := [(0, .iconst 0, 1, 0, 0, 0), (1, .istore 4, 2, 0, 0, 0), (3, .aload_n 2, 1, 0, 0, 0), (4, .getfield 40, 3, 3, 1, 195), (7, .istore 5, 2, 0, 0, 0), (9, .iconst 0, 1, 0, 0, 0), (10, .istore 6, 2, 0, 0, 0), (12, .iload 6, 2, 0, 0, 0), (14, .aload_n 0, 1, 0, 0, 0), (15, .getfield 21, 3, 0, 2, 71), (18, .if_icmp .ge 74, 3, 92, 0, 0), (21, .aload_n 0, 1, 0, 0, 0), (22, .getfield 11, 3, 0, 0, 69), (25, .iload 6, 2, 0, 0, 0), (27, .aaload, 1, 0, 0, 0), (28, .astore 7, 2, 0, 0, 0), (30, .iload_n 1, 1, 0, 0, 0), (31, .iload 6, 2, 0, 0, 0), (33, .ishr, 1, 0, 0, 0), (34, .iconst 1, 1, 0, 0, 0), (35, .iand, 1, 0, 0, 0), (36, .ifCond .eq 50, 3, 86, 0, 0), (39, .aload 7, 2, 0, 0, 0), (41, .ifnonnull 6, 3, 47, 0, 0), (44, .goto 42, 3, 86, 0, 0), (47, .iload 5, 2, 0, 0, 0), (49, .aload 7, 2, 0, 0, 0), (51, .getfield 45, 3, 4, 0, 245), (54, .isub, 1, 0, 0, 0), (55, .istore 5, 2, 0, 0, 0), (57, .iload 5, 2, 0, 0, 0), (59, .ifCond .lt 12, 3, 71, 0, 0), (62, .aload_n 2, 1, 0, 0, 0), (63, .aload 7, 2, 0, 0, 0), (65, .invokevirtual 46, 3, 13, 1, 503), (68, .ifCond .ne 6, 3, 74, 0, 0), (71, .ldc 25, 2, 1000000, 0, 486), (73, .ireturn, 1, 0, 0, 0), (74, .iload 4, 2, 0, 0, 0), (76, .aload 7, 2, 0, 0, 0), (78, .aload_n 2, 1, 0, 0, 0), (79, .iload_n 3, 1, 0, 0, 0), (80, .invokevirtual 50, 3, 21, 2, 504), (83, .iadd, 1, 0, 0, 0), (84, .istore 4, 2, 0, 0, 0), (86, .iinc 6 1, 3, 0, 0, 0), (89, .goto (-77), 3, 12, 0, 0), (92, .iload 4, 2, 0, 0, 0), (94, .ireturn, 1, 0, 0, 0)]
def kX1_init : List am_E := [(0, .aload_n 0, 1, 0, 0, 0), (1, .invokespecial 3, 3, 999, 0, 390), (4, .aload_n 0, 1, 0, 0, 0), (5, .iconst 4, 1, 0, 0, 0), (6, .newarray .int, 2, 7, 0, 0), (8, .putfield 9, 3, 1, 0, 391), (11, .iconst 0, 1, 0, 0, 0), (12, .istore_n 1, 1, 0, 0, 0), (13, .iload_n 1, 1, 0, 0, 0), (14, .iconst 4, 1, 0, 0, 0), (15, .if_icmp .ge 16, 3, 31, 0, 0), (18, .aload_n 0, 1, 0, 0, 0), (19, .getfield 9, 3, 1, 0, 391), (22, .iload_n 1, 1, 0, 0, 0), (23, .iconst (-1), 1, 0, 0, 0), (24, .iastore, 1, 0, 0, 0), (25, .iinc 1 1, 3, 0, 0, 0), (28, .goto (-15), 3, 13, 0, 0), (31, .aload_n 0, 1, 0, 0, 0), (32, .iconst (-1), 1, 0, 0, 0), (33, .putfield 15, 3, 1, 2, 394), (36, .return_, 1, 0, 0, 0)]
def kX1_toldCount : List am_E := [(0, .iconst 0, 1, 0, 0, 0), (1, .istore_n 1, 1, 0, 0, 0), (2, .iconst 0, 1, 0, 0, 0), (3, .istore_n 2, 1, 0, 0, 0), (4, .iload_n 2, 1, 0, 0, 0), (5, .iconst 4, 1, 0, 0, 0), (6, .if_icmp .ge 22, 3, 28, 0, 0), (9, .aload_n 0, 1, 0, 0, 0), (10, .getfield 9, 3, 1, 0, 391), (13, .iload_n 2, 1, 0, 0, 0), (14, .iaload, 1, 0, 0, 0), (15, .iconst (-1), 1, 0, 0, 0), (16, .if_icmp .eq 6, 3, 22, 0, 0), (19, .iinc 1 1, 3, 0, 0, 0), (22, .iinc 2 1, 3, 0, 0, 0), (25, .goto (-21), 3, 4, 0, 0), (28, .iload_n 1, 1, 0, 0, 0), (29, .ireturn, 1, 0, 0, 0)]
def kX1_isAbout : List am_E := [(0, .aload_n 1, 1, 0, 0, 0), (1, .getfield 19, 3, 4, 7, 263), (4, .ifCond .eq 5, 3, 9, 0, 0), (7, .iconst 0, 1, 0, 0, 0), (8, .ireturn, 1, 1, 0, 0), (9, .iconst 0, 1, 0, 0, 0), (10, .istore_n 2, 1, 0, 0, 0), (11, .iload_n 2, 1, 0, 0, 0), (12, .iconst 4, 1, 0, 0, 0), (13, .if_icmp .ge 35, 3, 48, 0, 0), (16, .aload_n 0, 1, 0, 0, 0), (17, .getfield 9, 3, 1, 0, 391), (20, .iload_n 2, 1, 0, 0, 0), (21, .iaload, 1, 0, 0, 0), (22, .iconst (-1), 1, 0, 0, 0), (23, .if_icmp .eq 19, 3, 42, 0, 0), (26, .aload_n 0, 1, 0, 0, 0), (27, .getfield 9, 3, 1, 0, 391), (30, .iload_n 2, 1, 0, 0, 0), (31, .iaload, 1, 0, 0, 0), (32, .aload_n 1, 1, 0, 0, 0), (33, .iload_n 2, 1, 0, 0, 0), (34, .invokevirtual 24, 3, 19, 1, 419), (37, .if_icmp .eq 5, 3, 42, 0, 0), (40, .iconst 0, 1, 0, 0, 0), (41, .ireturn, 1, 1, 0, 0), (42, .iinc 2 1, 3, 0, 0, 0), (45, .goto (-34), 3, 11, 0, 0), (48, .iconst 1, 1, 0, 0, 0), (49, .ireturn, 1, 1, 0, 0)]
def kX2_init : List am_E := [(0, .aload_n 0, 1, 0, 0, 0), (1, .invokespecial 1, 3, 999, 0, 164), (4, .aload_n 0, 1, 0, 0, 0), (5, .iload_n 1, 1, 0, 0, 0), (6, .putfield 7, 3, 2, 0, 165), (9, .aload_n 0, 1, 0, 0, 0), (10, .iload_n 2, 1, 0, 0, 0), (11, .putfield 13, 3, 2, 1, 167), (14, .aload_n 0, 1, 0, 0, 0), (15, .iload_n 3, 1, 0, 0, 0), (16, .putfield 16, 3, 2, 2, 169), (19, .aload_n 0, 1, 0, 0, 0), (20, .iload 4, 2, 0, 0, 0), (22, .putfield 19, 3, 2, 3, 170), (25, .aload_n 0, 1, 0, 0, 0), (26, .iload 5, 2, 0, 0, 0), (28, .putfield 22, 3, 2, 4, 171), (31, .return_, 1, 0, 0, 0)]
def kX2_dayPrice : List am_E := [(0, .aload_n 0, 1, 0, 0, 0), (1, .getfield 16, 3, 2, 2, 169), (4, .aload_n 0, 1, 0, 0, 0), (5, .getfield 19, 3, 2, 3, 170), (8, .aload_n 1, 1, 0, 0, 0), (9, .getfield 25, 3, 4, 0, 243), (12, .imul, 1, 0, 0, 0), (13, .iadd, 1, 0, 0, 0), (14, .istore_n 2, 1, 0, 0, 0), (15, .aload_n 1, 1, 0, 0, 0), (16, .getfield 30, 3, 4, 2, 252), (19, .ifCond .eq 12, 3, 31, 0, 0), (22, .iload_n 2, 1, 0, 0, 0), (23, .aload_n 0, 1, 0, 0, 0), (24, .getfield 22, 3, 2, 4, 171), (27, .iadd, 1, 0, 0, 0), (28, .goto 4, 3, 32, 0, 0), (31, .iload_n 2, 1, 0, 0, 0), (32, .ireturn, 1, 0, 0, 0)]
def kX3_init : List am_E := [(0, .aload_n 0, 1, 0, 0, 0), (1, .invokespecial 1, 3, 999, 0, 191), (4, .aload_n 0, 1, 0, 0, 0), (5, .iload_n 1, 1, 0, 0, 0), (6, .putfield 7, 3, 3, 0, 192), (9, .aload_n 0, 1, 0, 0, 0), (10, .iload_n 2, 1, 0, 0, 0), (11, .putfield 13, 3, 3, 1, 194), (14, .aload_n 0, 1, 0, 0, 0), (15, .iload_n 3, 1, 0, 0, 0), (16, .putfield 16, 3, 3, 2, 197), (19, .aload_n 0, 1, 0, 0, 0), (20, .iload 4, 2, 0, 0, 0), (22, .putfield 19, 3, 3, 3, 199), (25, .aload_n 0, 1, 0, 0, 0), (26, .iload 5, 2, 0, 0, 0), (28, .putfield 23, 3, 3, 4, 201), (31, .aload_n 0, 1, 0, 0, 0), (32, .iload_n 2, 1, 0, 0, 0), (33, .putfield 26, 3, 3, 5, 204), (36, .return_, 1, 0, 0, 0)]
def kX3_suits : List am_E := [(0, .aload_n 0, 1, 0, 0, 0), (1, .getfield 16, 3, 3, 2, 197), (4, .aload_n 1, 1, 0, 0, 0), (5, .getfield 29, 3, 4, 1, 248), (8, .if_icmp .lt 18, 3, 26, 0, 0), (11, .aload_n 0, 1, 0, 0, 0), (12, .getfield 19, 3, 3, 3, 199), (15, .aload_n 1, 1, 0, 0, 0), (16, .getfield 32, 3, 4, 2, 251), (19, .if_icmp .ne 7, 3, 26, 0, 0), (22, .iconst 1, 1, 0, 0, 0), (23, .goto 4, 3, 27, 0, 0), (26, .iconst 0, 1, 0, 0, 0), (27, .ireturn, 1, 1, 0, 0)]
def kX3_fits : List am_E := [(0, .aload_n 0, 1, 0, 0, 0), (1, .getfield 33, 3, 3, 7, 208), (4, .ifCond .ne 26, 3, 30, 0, 0), (7, .aload_n 0, 1, 0, 0, 0), (8, .aload_n 1, 1, 0, 0, 0), (9, .invokevirtual 36, 3, 13, 1, 302), (12, .ifCond .eq 18, 3, 30, 0, 0), (15, .aload_n 0, 1, 0, 0, 0), (16, .getfield 26, 3, 3, 5, 204), (19, .aload_n 1, 1, 0, 0, 0), (20, .getfield 40, 3, 4, 0, 244), (23, .if_icmp .lt 7, 3, 30, 0, 0), (26, .iconst 1, 1, 0, 0, 0), (27, .goto 4, 3, 31, 0, 0), (30, .iconst 0, 1, 0, 0, 0), (31, .ireturn, 1, 1, 0, 0)]
def kX3_take : List am_E := [(0, .aload_n 0, 1, 0, 0, 0), (1, .dup, 1, 0, 0, 0), (2, .getfield 26, 3, 3, 5, 204), (5, .aload_n 1, 1, 0, 0, 0), (6, .getfield 40, 3, 4, 0, 244), (9, .isub, 1, 0, 0, 0), (10, .putfield 26, 3, 3, 5, 204), (13, .aload_n 0, 1, 0, 0, 0), (14, .dup, 1, 0, 0, 0), (15, .getfield 43, 3, 3, 6, 206), (18, .iconst 1, 1, 0, 0, 0), (19, .iadd, 1, 0, 0, 0), (20, .putfield 43, 3, 3, 6, 206), (23, .aload_n 1, 1, 0, 0, 0), (24, .aload_n 0, 1, 0, 0, 0), (25, .putfield 46, 3, 4, 8, 265), (28, .return_, 1, 0, 0, 0)]
def kX3_release : List am_E := [(0, .aload_n 0, 1, 0, 0, 0), (1, .dup, 1, 0, 0, 0), (2, .getfield 26, 3, 3, 5, 204), (5, .aload_n 1, 1, 0, 0, 0), (6, .getfield 40, 3, 4, 0, 244), (9, .iadd, 1, 0, 0, 0), (10, .putfield 26, 3, 3, 5, 204), (13, .aload_n 0, 1, 0, 0, 0), (14, .dup, 1, 0, 0, 0), (15, .getfield 43, 3, 3, 6, 206), (18, .iconst 1, 1, 0, 0, 0), (19, .isub, 1, 0, 0, 0), (20, .putfield 43, 3, 3, 6, 206), (23, .aload_n 1, 1, 0, 0, 0), (24, .aconst_null, 1, 0, 0, 0), (25, .putfield 46, 3, 4, 8, 265), (28, .return_, 1, 0, 0, 0)]
def kX4_init : List am_E := [(0, .aload_n 0, 1, 0, 0, 0), (1, .invokespecial 3, 3, 999, 0, 241), (4, .aload_n 0, 1, 0, 0, 0), (5, .iload_n 1, 1, 0, 0, 0), (6, .putfield 9, 3, 4, 0, 242), (9, .aload_n 0, 1, 0, 0, 0), (10, .iload_n 2, 1, 0, 0, 0), (11, .putfield 15, 3, 4, 1, 247), (14, .aload_n 0, 1, 0, 0, 0), (15, .iload_n 3, 1, 0, 0, 0), (16, .putfield 18, 3, 4, 2, 250), (19, .aload_n 0, 1, 0, 0, 0), (20, .iload 4, 2, 0, 0, 0), (22, .putfield 22, 3, 4, 3, 254), (25, .aload_n 0, 1, 0, 0, 0), (26, .iload 5, 2, 0, 0, 0), (28, .putfield 25, 3, 4, 4, 256), (31, .aload_n 0, 1, 0, 0, 0), (32, .iload 6, 2, 0, 0, 0), (34, .putfield 28, 3, 4, 5, 258), (37, .aload_n 0, 1, 0, 0, 0), (38, .iload 7, 2, 0, 0, 0), (40, .putfield 31, 3, 4, 6, 260), (43, .aload_n 0, 1, 0, 0, 0), (44, .iconst 0, 1, 0, 0, 0), (45, .putfield 34, 3, 4, 7, 262), (48, .aload_n 0, 1, 0, 0, 0), (49, .iconst (-1), 1, 0, 0, 0), (50, .putfield 37, 3, 4, 10, 269), (53, .return_, 1, 0, 0, 0)]
def kX4_dueDay : List am_E := [(0, .aload_n 0, 1, 0, 0, 0), (1, .getfield 28, 3, 4, 5, 258), (4, .invokestatic 40, 3, 52, 1, 9999), (7, .ireturn, 1, 0, 0, 0)]
def kX4_markAt : List am_E := [(0, .aload_n 0, 1, 0, 0, 0), (1, .getfield 25, 3, 4, 4, 256), (4, .iconst 4, 1, 0, 0, 0), (5, .iload_n 1, 1, 0, 0, 0), (6, .imul, 1, 0, 0, 0), (7, .ishr, 1, 0, 0, 0), (8, .bipush 15, 2, 0, 0, 0), (10, .iand, 1, 0, 0, 0), (11, .ireturn, 1, 0, 0, 0)]
def kX4_wanted : List am_E := [(0, .aload_n 0, 1, 0, 0, 0), (1, .getfield 28, 3, 4, 5, 258), (4, .iload_n 1, 1, 0, 0, 0), (5, .isub, 1, 0, 0, 0), (6, .iconst 0, 1, 0, 0, 0), (7, .invokestatic 44, 3, 120, 2, 318), (10, .bipush 60, 2, 0, 0, 0), (12, .idiv, 1, 0, 0, 0), (13, .istore_n 2, 1, 0, 0, 0), (14, .iconst 1, 1, 0, 0, 0), (15, .iload_n 2, 1, 0, 0, 0), (16, .iadd, 1, 0, 0, 0), (17, .bipush 99, 2, 0, 0, 0), (19, .invokestatic 50, 3, 121, 2, 321), (22, .ireturn, 1, 0, 0, 0)]
def kX4_misfitOn : List am_E := [(0, .aload_n 1, 1, 0, 0, 0), (1, .getfield 53, 3, 3, 4, 202), (4, .aload_n 0, 1, 0, 0, 0), (5, .iload_n 2, 1, 0, 0, 0), (6, .invokevirtual 58, 3, 20, 1, 314), (9, .isub, 1, 0, 0, 0), (10, .invokestatic 61, 3, 119, 1, 324), (13, .ireturn, 1, 0, 0, 0)]
def kX4_misfitHere : List am_E := [(0, .aload_n 0, 1, 0, 0, 0), (1, .getfield 64, 3, 4, 8, 266), (4, .ifnonnull 7, 3, 11, 0, 0), (7, .iconst (-1), 1, 0, 0, 0), (8, .goto 12, 3, 20, 0, 0), (11, .aload_n 0, 1, 0, 0, 0), (12, .aload_n 0, 1, 0, 0, 0), (13, .getfield 64, 3, 4, 8, 266), (16, .iload_n 1, 1, 0, 0, 0), (17, .invokevirtual 68, 3, 21, 2, 461), (20, .ireturn, 1, 0, 0, 0)]
def kX4_placeNumber : List am_E := [(0, .aload_n 0, 1, 0, 0, 0), (1, .getfield 64, 3, 4, 8, 266), (4, .ifnonnull 7, 3, 11, 0, 0), (7, .iconst (-1), 1, 0, 0, 0), (8, .goto 10, 3, 18, 0, 0), (11, .aload_n 0, 1, 0, 0, 0), (12, .getfield 64, 3, 4, 8, 266), (15, .getfield 72, 3, 3, 0, 193), (18, .ireturn, 1, 0, 0, 0)]
def kX4_isStuck : List am_E := [(0, .aload_n 0, 1, 0, 0, 0), (1, .getfield 64, 3, 4, 8, 266), (4, .ifnull 17, 3, 21, 0, 0), (7, .aload_n 0, 1, 0, 0, 0), (8, .getfield 64, 3, 4, 8, 266), (11, .getfield 75, 3, 3, 7, 209), (14, .ifCond .eq 7, 3, 21, 0, 0), (17, .iconst 1, 1, 0, 0, 0), (18, .goto 4, 3, 22, 0, 0), (21, .iconst 0, 1, 0, 0, 0), (22, .ireturn, 1, 1, 0, 0)]
def kX5_init : List am_E := [(0, .aload_n 0, 1, 0, 0, 0), (1, .invokespecial 1, 3, 999, 0, 51), (4, .aload_n 0, 1, 0, 0, 0), (5, .bipush 16, 2, 0, 0, 0), (7, .anewarray 9, 3, 9, 0, 54), (10, .putfield 11, 3, 5, 0, 80), (13, .aload_n 0, 1, 0, 0, 0), (14, .bipush 120, 2, 0, 0, 0), (16, .anewarray 15, 3, 10, 0, 56), (19, .putfield 17, 3, 5, 2, 82), (22, .aload_n 0, 1, 0, 0, 0), (23, .bipush 40, 2, 0, 0, 0), (25, .anewarray 21, 3, 11, 0, 58), (28, .putfield 23, 3, 5, 4, 84), (31, .aload_n 0, 1, 0, 0, 0), (32, .bipush 12, 2, 0, 0, 0), (34, .anewarray 27, 3, 12, 0, 60), (37, .putfield 29, 3, 5, 6, 86), (40, .aload_n 0, 1, 0, 0, 0), (41, .bipush 16, 2, 0, 0, 0), (43, .newarray .int, 2, 7, 0, 0), (45, .putfield 33, 3, 5, 8, 88), (48, .aload_n 0, 1, 0, 0, 0), (49, .new 37, 3, 0, 0, 62), (52, .dup, 1, 0, 0, 0), (53, .invokespecial 39, 3, 0, 0, 64), (56, .putfield 40, 3, 5, 9, 89), (59, .aload_n 0, 1, 0, 0, 0), (60, .sipush 1440, 3, 0, 0, 0), (63, .putfield 44, 3, 5, 12, 92), (66, .return_, 1, 0, 0, 0)]
def kX5_clock : List am_E := [(0, .iload_n 1, 1, 0, 0, 0), (1, .iconst 1, 1, 0, 0, 0), (2, .if_icmp .lt 14, 3, 16, 0, 0), (5, .iload_n 1, 1, 0, 0, 0), (6, .ldc 48, 2, 100000, 0, 130), (8, .aload_n 0, 1, 0, 0, 0), (9, .getfield 49, 3, 5, 10, 90), (12, .isub, 1, 0, 0, 0), (13, .if_icmp .le 5, 3, 18, 0, 0), (16, .iconst (-1), 1, 0, 0, 0), (17, .ireturn, 1, 0, 0, 0), (18, .aload_n 0, 1, 0, 0, 0), (19, .dup, 1, 0, 0, 0), (20, .getfield 49, 3, 5, 10, 90), (23, .iload_n 1, 1, 0, 0, 0), (24, .iadd, 1, 0, 0, 0), (25, .putfield 49, 3, 5, 10, 90), (28, .aload_n 0, 1, 0, 0, 0), (29, .invokevirtual 52, 3, 64, 0, 131), (32, .aload_n 0, 1, 0, 0, 0), (33, .getfield 49, 3, 5, 10, 90), (36, .ireturn, 1, 0, 0, 0)]
def kX5_hours : List am_E := [(0, .iload_n 1, 1, 0, 0, 0), (1, .ifCond .lt 15, 3, 16, 0, 0), (4, .iload_n 2, 1, 0, 0, 0), (5, .sipush 1440, 3, 0, 0, 0), (8, .if_icmp .gt 8, 3, 16, 0, 0), (11, .iload_n 1, 1, 0, 0, 0), (12, .iload_n 2, 1, 0, 0, 0), (13, .if_icmp .lt 5, 3, 18, 0, 0), (16, .iconst 0, 1, 0, 0, 0), (17, .ireturn, 1, 1, 0, 0), (18, .aload_n 0, 1, 0, 0, 0), (19, .iload_n 1, 1, 0, 0, 0), (20, .putfield 55, 3, 5, 11, 91), (23, .aload_n 0, 1, 0, 0, 0), (24, .iload_n 2, 1, 0, 0, 0), (25, .putfield 44, 3, 5, 12, 92), (28, .iconst 1, 1, 0, 0, 0), (29, .ireturn, 1, 1, 0, 0)]
def kX5_prices : List am_E := [(0, .iload_n 2, 1, 0, 0, 0), (1, .invokestatic 58, 3, 50, 1, 150), (4, .ifCond .eq 26, 3, 30, 0, 0), (7, .iload_n 3, 1, 0, 0, 0), (8, .invokestatic 58, 3, 50, 1, 150), (11, .ifCond .eq 19, 3, 30, 0, 0), (14, .iload 4, 2, 0, 0, 0), (16, .invokestatic 58, 3, 50, 1, 150), (19, .ifCond .eq 11, 3, 30, 0, 0), (22, .iload 5, 2, 0, 0, 0), (24, .invokestatic 58, 3, 50, 1, 150), (27, .ifCond .ne 5, 3, 32, 0, 0), (30, .iconst 0, 1, 0, 0, 0), (31, .ireturn, 1, 1, 0, 0), (32, .aload_n 0, 1, 0, 0, 0), (33, .getfield 62, 3, 5, 7, 87), (36, .bipush 12, 2, 0, 0, 0), (38, .if_icmp .ge 11, 3, 49, 0, 0), (41, .iload_n 1, 1, 0, 0, 0), (42, .aload_n 0, 1, 0, 0, 0), (43, .invokevirtual 65, 3, 61, 0, 156), (46, .if_icmp .gt 5, 3, 51, 0, 0), (49, .iconst 0, 1, 0, 0, 0), (50, .ireturn, 1, 1, 0, 0), (51, .aload_n 0, 1, 0, 0, 0), (52, .getfield 29, 3, 5, 6, 86), (55, .aload_n 0, 1, 0, 0, 0), (56, .getfield 62, 3, 5, 7, 87), (59, .new 27, 3, 2, 0, 60), (62, .dup, 1, 0, 0, 0), (63, .iload_n 1, 1, 0, 0, 0), (64, .iload_n 2, 1, 0, 0, 0), (65, .iload_n 3, 1, 0, 0, 0), (66, .iload 4, 2, 0, 0, 0), (68, .iload 5, 2, 0, 0, 0), (70, .invokespecial 69, 3, 10, 5, 161), (73, .aastore, 1, 0, 0, 0), (74, .aload_n 0, 1, 0, 0, 0), (75, .dup, 1, 0, 0, 0), (76, .getfield 62, 3, 5, 7, 87), (79, .iconst 1, 1, 0, 0, 0), (80, .iadd, 1, 0, 0, 0), (81, .putfield 62, 3, 5, 7, 87), (84, .iconst 1, 1, 0, 0, 0), (85, .ireturn, 1, 1, 0, 0)]
def kX5_shelf : List am_E := [(0, .iload_n 1, 1, 0, 0, 0), (1, .iconst 1, 1, 0, 0, 0), (2, .bipush 60, 2, 0, 0, 0), (4, .invokestatic 72, 3, 49, 3, 153), (7, .ifCond .eq 32, 3, 39, 0, 0), (10, .iload_n 2, 1, 0, 0, 0), (11, .iconst 0, 1, 0, 0, 0), (12, .iconst 2, 1, 0, 0, 0), (13, .invokestatic 72, 3, 49, 3, 153), (16, .ifCond .eq 23, 3, 39, 0, 0), (19, .iload 4, 2, 0, 0, 0), (21, .iconst 1, 1, 0, 0, 0), (22, .bipush 99, 2, 0, 0, 0), (24, .invokestatic 72, 3, 49, 3, 153), (27, .ifCond .eq 12, 3, 39, 0, 0), (30, .aload_n 0, 1, 0, 0, 0), (31, .getfield 76, 3, 5, 1, 81), (34, .bipush 16, 2, 0, 0, 0), (36, .if_icmp .lt 5, 3, 41, 0, 0), (39, .iconst (-1), 1, 0, 0, 0), (40, .ireturn, 1, 0, 0, 0), (41, .aload_n 0, 1, 0, 0, 0), (42, .getfield 76, 3, 5, 1, 81), (45, .istore 5, 2, 0, 0, 0), (47, .aload_n 0, 1, 0, 0, 0), (48, .getfield 11, 3, 5, 0, 80), (51, .iload 5, 2, 0, 0, 0), (53, .new 9, 3, 3, 0, 54), (56, .dup, 1, 0, 0, 0), (57, .iload 5, 2, 0, 0, 0), (59, .iload_n 1, 1, 0, 0, 0), (60, .iload_n 2, 1, 0, 0, 0), (61, .iload_n 3, 1, 0, 0, 0), (62, .iload 4, 2, 0, 0, 0), (64, .invokespecial 79, 3, 12, 5, 188), (67, .aastore, 1, 0, 0, 0), (68, .aload_n 0, 1, 0, 0, 0), (69, .dup, 1, 0, 0, 0), (70, .getfield 76, 3, 5, 1, 81), (73, .iconst 1, 1, 0, 0, 0), (74, .iadd, 1, 0, 0, 0), (75, .putfield 76, 3, 5, 1, 81), (78, .iload 5, 2, 0, 0, 0), (80, .ireturn, 1, 0, 0, 0)]
def kX5_put : List am_E := [(0, .iload_n 1, 1, 0, 0, 0), (1, .iconst 1, 1, 0, 0, 0), (2, .bipush 20, 2, 0, 0, 0), (4, .invokestatic 72, 3, 49, 3, 153), (7, .ifCond .eq 34, 3, 41, 0, 0), (10, .iload_n 2, 1, 0, 0, 0), (11, .iconst 0, 1, 0, 0, 0), (12, .iconst 2, 1, 0, 0, 0), (13, .invokestatic 72, 3, 49, 3, 153), (16, .ifCond .eq 25, 3, 41, 0, 0), (19, .iload 5, 2, 0, 0, 0), (21, .iconst 0, 1, 0, 0, 0), (22, .ldc 82, 2, 65535, 0, 232), (24, .invokestatic 72, 3, 49, 3, 153), (27, .ifCond .eq 14, 3, 41, 0, 0), (30, .iload 6, 2, 0, 0, 0), (32, .iconst 0, 1, 0, 0, 0), (33, .ldc 48, 2, 100000, 0, 130), (35, .invokestatic 72, 3, 49, 3, 153), (38, .ifCond .ne 6, 3, 44, 0, 0), (41, .bipush (-2), 2, 0, 0, 0), (43, .ireturn, 1, 0, 0, 0), (44, .aload_n 0, 1, 0, 0, 0), (45, .invokevirtual 83, 3, 54, 0, 233), (48, .ifCond .ne 6, 3, 54, 0, 0), (51, .bipush (-3), 2, 0, 0, 0), (53, .ireturn, 1, 0, 0, 0), (54, .aload_n 0, 1, 0, 0, 0), (55, .getfield 87, 3, 5, 3, 83), (58, .bipush 120, 2, 0, 0, 0), (60, .if_icmp .lt 6, 3, 66, 0, 0), (63, .bipush (-4), 2, 0, 0, 0), (65, .ireturn, 1, 0, 0, 0), (66, .new 15, 3, 4, 0, 56), (69, .dup, 1, 0, 0, 0), (70, .iload_n 1, 1, 0, 0, 0), (71, .iload_n 2, 1, 0, 0, 0), (72, .iload_n 3, 1, 0, 0, 0), (73, .iload 4, 2, 0, 0, 0), (75, .iload 5, 2, 0, 0, 0), (77, .iload 6, 2, 0, 0, 0), (79, .aload_n 0, 1, 0, 0, 0), (80, .getfield 49, 3, 5, 10, 90), (83, .invokespecial 90, 3, 17, 7, 238), (86, .astore 7, 2, 0, 0, 0), (88, .aload_n 0, 1, 0, 0, 0), (89, .aload 7, 2, 0, 0, 0), (91, .invokevirtual 93, 3, 65, 1, 294), (94, .astore 8, 2, 0, 0, 0), (96, .aload 8, 2, 0, 0, 0), (98, .ifnonnull 6, 3, 104, 0, 0), (101, .bipush (-5), 2, 0, 0, 0), (103, .ireturn, 1, 0, 0, 0), (104, .aload_n 0, 1, 0, 0, 0), (105, .getfield 87, 3, 5, 3, 83), (108, .istore 9, 2, 0, 0, 0), (110, .aload_n 0, 1, 0, 0, 0), (111, .getfield 17, 3, 5, 2, 82), (114, .iload 9, 2, 0, 0, 0), (116, .aload 7, 2, 0, 0, 0), (118, .aastore, 1, 0, 0, 0), (119, .aload_n 0, 1, 0, 0, 0), (120, .dup, 1, 0, 0, 0), (121, .getfield 87, 3, 5, 3, 83), (124, .iconst 1, 1, 0, 0, 0), (125, .iadd, 1, 0, 0, 0), (126, .putfield 87, 3, 5, 3, 83), (129, .aload 8, 2, 0, 0, 0), (131, .aload 7, 2, 0, 0, 0), (133, .invokevirtual 97, 3, 15, 1, 327), (136, .aload_n 0, 1, 0, 0, 0), (137, .dup, 1, 0, 0, 0), (138, .getfield 101, 3, 5, 14, 94), (141, .iconst 2, 1, 0, 0, 0), (142, .aload 8, 2, 0, 0, 0), (144, .getfield 104, 3, 3, 4, 203), (147, .imul, 1, 0, 0, 0), (148, .iadd, 1, 0, 0, 0), (149, .putfield 101, 3, 5, 14, 94), (152, .iload 9, 2, 0, 0, 0), (154, .invokestatic 107, 3, 58, 1, 331), (157, .ireturn, 1, 0, 0, 0)]
def kX5_fee : List am_E := [(0, .iload_n 1, 1, 0, 0, 0), (1, .invokestatic 111, 3, 60, 1, 341), (4, .ifCond .ne 6, 3, 10, 0, 0), (7, .bipush (-2), 2, 0, 0, 0), (9, .ireturn, 1, 0, 0, 0), (10, .aload_n 0, 1, 0, 0, 0), (11, .iload_n 1, 1, 0, 0, 0), (12, .bipush 100, 2, 0, 0, 0), (14, .idiv, 1, 0, 0, 0), (15, .invokevirtual 114, 3, 56, 1, 344), (18, .astore_n 2, 1, 0, 0, 0), (19, .aload_n 2, 1, 0, 0, 0), (20, .ifnonnull 6, 3, 26, 0, 0), (23, .bipush (-3), 2, 0, 0, 0), (25, .ireturn, 1, 0, 0, 0), (26, .aload_n 2, 1, 0, 0, 0), (27, .getfield 118, 3, 4, 7, 264), (30, .ifCond .eq 14, 3, 44, 0, 0), (33, .aload_n 2, 1, 0, 0, 0), (34, .getfield 118, 3, 4, 7, 264), (37, .iconst 2, 1, 0, 0, 0), (38, .if_icmp .eq 6, 3, 44, 0, 0), (41, .bipush (-4), 2, 0, 0, 0), (43, .ireturn, 1, 0, 0, 0), (44, .aload_n 0, 1, 0, 0, 0), (45, .aload_n 2, 1, 0, 0, 0), (46, .invokevirtual 121, 3, 63, 1, 348), (49, .ireturn, 1, 0, 0, 0)]
def kX5_give : List am_E := [(0, .aload_n 0, 1, 0, 0, 0), (1, .iload_n 1, 1, 0, 0, 0), (2, .invokevirtual 125, 3, 31, 1, 369), (5, .istore_n 2, 1, 0, 0, 0), (6, .aload_n 0, 1, 0, 0, 0), (7, .iload_n 1, 1, 0, 0, 0), (8, .bipush 100, 2, 0, 0, 0), (10, .idiv, 1, 0, 0, 0), (11, .invokevirtual 114, 3, 56, 1, 344), (14, .astore_n 3, 1, 0, 0, 0), (15, .iload_n 2, 1, 0, 0, 0), (16, .ifCond .lt 7, 3, 23, 0, 0), (19, .aload_n 3, 1, 0, 0, 0), (20, .ifnonnull 5, 3, 25, 0, 0), (23, .iload_n 2, 1, 0, 0, 0), (24, .ireturn, 1, 0, 0, 0), (25, .aload_n 3, 1, 0, 0, 0), (26, .getfield 118, 3, 4, 7, 264), (29, .iconst 2, 1, 0, 0, 0), (30, .if_icmp .ne 6, 3, 36, 0, 0), (33, .bipush (-5), 2, 0, 0, 0), (35, .ireturn, 1, 0, 0, 0), (36, .aload_n 0, 1, 0, 0, 0), (37, .invokevirtual 83, 3, 54, 0, 233), (40, .ifCond .ne 6, 3, 46, 0, 0), (43, .bipush (-6), 2, 0, 0, 0), (45, .ireturn, 1, 0, 0, 0), (46, .aload_n 3, 1, 0, 0, 0), (47, .invokevirtual 128, 3, 24, 0, 370), (50, .ifCond .eq 6, 3, 56, 0, 0), (53, .bipush (-7), 2, 0, 0, 0), (55, .ireturn, 1, 0, 0, 0), (56, .aload_n 0, 1, 0, 0, 0), (57, .aload_n 3, 1, 0, 0, 0), (58, .iconst 1, 1, 0, 0, 0), (59, .invokevirtual 131, 3, 67, 2, 374), (62, .aload_n 0, 1, 0, 0, 0), (63, .dup, 1, 0, 0, 0), (64, .getfield 135, 3, 5, 13, 93), (67, .iload_n 2, 1, 0, 0, 0), (68, .iadd, 1, 0, 0, 0), (69, .putfield 135, 3, 5, 13, 93), (72, .iload_n 2, 1, 0, 0, 0), (73, .ireturn, 1, 0, 0, 0)]
def kX5_claim : List am_E := [(0, .aload_n 0, 1, 0, 0, 0), (1, .getfield 138, 3, 5, 5, 85), (4, .bipush 40, 2, 0, 0, 0), (6, .if_icmp .lt 5, 3, 11, 0, 0), (9, .iconst (-1), 1, 0, 0, 0), (10, .ireturn, 1, 0, 0, 0), (11, .aload_n 0, 1, 0, 0, 0), (12, .getfield 138, 3, 5, 5, 85), (15, .istore_n 1, 1, 0, 0, 0), (16, .aload_n 0, 1, 0, 0, 0), (17, .getfield 23, 3, 5, 4, 84), (20, .iload_n 1, 1, 0, 0, 0), (21, .new 21, 3, 1, 0, 58), (24, .dup, 1, 0, 0, 0), (25, .invokespecial 141, 3, 7, 0, 387), (28, .aastore, 1, 0, 0, 0), (29, .aload_n 0, 1, 0, 0, 0), (30, .dup, 1, 0, 0, 0), (31, .getfield 138, 3, 5, 5, 85), (34, .iconst 1, 1, 0, 0, 0), (35, .iadd, 1, 0, 0, 0), (36, .putfield 138, 3, 5, 5, 85), (39, .iload_n 1, 1, 0, 0, 0), (40, .ireturn, 1, 0, 0, 0)]
def kX5_mark : List am_E := [(0, .aload_n 0, 1, 0, 0, 0), (1, .iload_n 1, 1, 0, 0, 0), (2, .invokevirtual 142, 3, 57, 1, 407), (5, .astore 4, 2, 0, 0, 0), (7, .aload 4, 2, 0, 0, 0), (9, .ifnull 20, 3, 29, 0, 0), (12, .aload 4, 2, 0, 0, 0), (14, .getfield 146, 3, 1, 1, 393), (17, .ifCond .ne 12, 3, 29, 0, 0), (20, .iload_n 2, 1, 0, 0, 0), (21, .iconst 0, 1, 0, 0, 0), (22, .iconst 3, 1, 0, 0, 0), (23, .invokestatic 72, 3, 49, 3, 153), (26, .ifCond .ne 5, 3, 31, 0, 0), (29, .iconst (-1), 1, 0, 0, 0), (30, .ireturn, 1, 0, 0, 0), (31, .iload_n 3, 1, 0, 0, 0), (32, .iconst (-1), 1, 0, 0, 0), (33, .if_icmp .eq 15, 3, 48, 0, 0), (36, .iload_n 3, 1, 0, 0, 0), (37, .iconst 0, 1, 0, 0, 0), (38, .bipush 15, 2, 0, 0, 0), (40, .invokestatic 72, 3, 49, 3, 153), (43, .ifCond .ne 5, 3, 48, 0, 0), (46, .iconst (-1), 1, 0, 0, 0), (47, .ireturn, 1, 0, 0, 0), (48, .aload 4, 2, 0, 0, 0), (50, .getfield 150, 3, 1, 0, 392), (53, .iload_n 2, 1, 0, 0, 0), (54, .iload_n 3, 1, 0, 0, 0), (55, .iastore, 1, 0, 0, 0), (56, .aload_n 0, 1, 0, 0, 0), (57, .aload 4, 2, 0, 0, 0), (59, .invokevirtual 153, 3, 68, 1, 411), (62, .ireturn, 1, 0, 0, 0)]
def kX5_means : List am_E := [(0, .aload_n 0, 1, 0, 0, 0), (1, .iload_n 1, 1, 0, 0, 0), (2, .invokevirtual 142, 3, 57, 1, 407), (5, .astore_n 2, 1, 0, 0, 0), (6, .aload_n 2, 1, 0, 0, 0), (7, .ifnonnull 7, 3, 14, 0, 0), (10, .iconst (-1), 1, 0, 0, 0), (11, .goto 8, 3, 19, 0, 0), (14, .aload_n 0, 1, 0, 0, 0), (15, .aload_n 2, 1, 0, 0, 0), (16, .invokevirtual 153, 3, 68, 1, 411), (19, .ireturn, 1, 0, 0, 0)]
def kX5_ask : List am_E := [(0, .aload_n 0, 1, 0, 0, 0), (1, .iload_n 1, 1, 0, 0, 0), (2, .invokevirtual 142, 3, 57, 1, 407), (5, .astore_n 2, 1, 0, 0, 0), (6, .aload_n 2, 1, 0, 0, 0), (7, .ifnull 19, 3, 26, 0, 0), (10, .aload_n 2, 1, 0, 0, 0), (11, .getfield 146, 3, 1, 1, 393), (14, .ifCond .ne 12, 3, 26, 0, 0), (17, .aload_n 0, 1, 0, 0, 0), (18, .aload_n 2, 1, 0, 0, 0), (19, .invokevirtual 153, 3, 68, 1, 411), (22, .iconst 2, 1, 0, 0, 0), (23, .if_icmp .ge 5, 3, 28, 0, 0), (26, .iconst (-1), 1, 0, 0, 0), (27, .ireturn, 1, 0, 0, 0), (28, .iconst (-1), 1, 0, 0, 0), (29, .istore_n 3, 1, 0, 0, 0), (30, .bipush 121, 2, 0, 0, 0), (32, .istore 4, 2, 0, 0, 0), (34, .iconst 0, 1, 0, 0, 0), (35, .istore 5, 2, 0, 0, 0), (37, .iload 5, 2, 0, 0, 0), (39, .iconst 4, 1, 0, 0, 0), (40, .if_icmp .ge 46, 3, 86, 0, 0), (43, .aload_n 2, 1, 0, 0, 0), (44, .getfield 150, 3, 1, 0, 392), (47, .iload 5, 2, 0, 0, 0), (49, .iaload, 1, 0, 0, 0), (50, .iconst (-1), 1, 0, 0, 0), (51, .if_icmp .eq 6, 3, 57, 0, 0), (54, .goto 26, 3, 80, 0, 0), (57, .aload_n 0, 1, 0, 0, 0), (58, .aload_n 2, 1, 0, 0, 0), (59, .iload 5, 2, 0, 0, 0), (61, .invokevirtual 157, 3, 70, 2, 431), (64, .istore 6, 2, 0, 0, 0), (66, .iload 6, 2, 0, 0, 0), (68, .iload 4, 2, 0, 0, 0), (70, .if_icmp .ge 10, 3, 80, 0, 0), (73, .iload 6, 2, 0, 0, 0), (75, .istore 4, 2, 0, 0, 0), (77, .iload 5, 2, 0, 0, 0), (79, .istore_n 3, 1, 0, 0, 0), (80, .iinc 5 1, 3, 0, 0, 0), (83, .goto (-46), 3, 37, 0, 0), (86, .iload_n 3, 1, 0, 0, 0), (87, .ireturn, 1, 0, 0, 0)]
def kX5_settle : List am_E := [(0, .aload_n 0, 1, 0, 0, 0), (1, .iload_n 1, 1, 0, 0, 0), (2, .invokevirtual 142, 3, 57, 1, 407), (5, .astore_n 2, 1, 0, 0, 0), (6, .aload_n 2, 1, 0, 0, 0), (7, .ifnull 10, 3, 17, 0, 0), (10, .aload_n 2, 1, 0, 0, 0), (11, .getfield 146, 3, 1, 1, 393), (14, .ifCond .eq 6, 3, 20, 0, 0), (17, .bipush (-2), 2, 0, 0, 0), (19, .ireturn, 1, 0, 0, 0), (20, .aload_n 2, 1, 0, 0, 0), (21, .invokevirtual 161, 3, 8, 0, 441), (24, .iconst 3, 1, 0, 0, 0), (25, .if_icmp .ge 6, 3, 31, 0, 0), (28, .bipush (-3), 2, 0, 0, 0), (30, .ireturn, 1, 0, 0, 0), (31, .aload_n 0, 1, 0, 0, 0), (32, .aload_n 2, 1, 0, 0, 0), (33, .invokevirtual 164, 3, 69, 1, 445), (36, .istore_n 3, 1, 0, 0, 0), (37, .aload_n 0, 1, 0, 0, 0), (38, .iload_n 3, 1, 0, 0, 0), (39, .invokevirtual 114, 3, 56, 1, 344), (42, .astore 4, 2, 0, 0, 0), (44, .aload 4, 2, 0, 0, 0), (46, .ifnonnull 6, 3, 52, 0, 0), (49, .bipush (-4), 2, 0, 0, 0), (51, .ireturn, 1, 0, 0, 0), (52, .aload_n 0, 1, 0, 0, 0), (53, .aload_n 2, 1, 0, 0, 0), (54, .invokevirtual 153, 3, 68, 1, 411), (57, .iconst 1, 1, 0, 0, 0), (58, .if_icmp .le 6, 3, 64, 0, 0), (61, .bipush (-5), 2, 0, 0, 0), (63, .ireturn, 1, 0, 0, 0), (64, .aload_n 0, 1, 0, 0, 0), (65, .aload_n 2, 1, 0, 0, 0), (66, .aload 4, 2, 0, 0, 0), (68, .invokevirtual 167, 3, 71, 2, 449), (71, .ifCond .eq 6, 3, 77, 0, 0), (74, .bipush (-6), 2, 0, 0, 0), (76, .ireturn, 1, 0, 0, 0), (77, .aload_n 0, 1, 0, 0, 0), (78, .invokevirtual 83, 3, 54, 0, 233), (81, .ifCond .ne 6, 3, 87, 0, 0), (84, .bipush (-7), 2, 0, 0, 0), (86, .ireturn, 1, 0, 0, 0), (87, .aload 4, 2, 0, 0, 0), (89, .invokevirtual 128, 3, 24, 0, 370), (92, .ifCond .eq 6, 3, 98, 0, 0), (95, .bipush (-8), 2, 0, 0, 0), (97, .ireturn, 1, 0, 0, 0), (98, .aload_n 0, 1, 0, 0, 0), (99, .aload 4, 2, 0, 0, 0), (101, .invokevirtual 121, 3, 63, 1, 348), (104, .sipush 500, 3, 0, 0, 0), (107, .iadd, 1, 0, 0, 0), (108, .istore 5, 2, 0, 0, 0), (110, .aload_n 0, 1, 0, 0, 0), (111, .aload 4, 2, 0, 0, 0), (113, .iconst 1, 1, 0, 0, 0), (114, .invokevirtual 131, 3, 67, 2, 374), (117, .aload_n 0, 1, 0, 0, 0), (118, .dup, 1, 0, 0, 0), (119, .getfield 135, 3, 5, 13, 93), (122, .iload 5, 2, 0, 0, 0), (124, .iadd, 1, 0, 0, 0), (125, .putfield 135, 3, 5, 13, 93), (128, .aload_n 2, 1, 0, 0, 0), (129, .iconst 1, 1, 0, 0, 0), (130, .putfield 146, 3, 1, 1, 393), (133, .aload_n 2, 1, 0, 0, 0), (134, .iload_n 3, 1, 0, 0, 0), (135, .putfield 171, 3, 1, 2, 395), (138, .iload 5, 2, 0, 0, 0), (140, .ireturn, 1, 0, 0, 0)]
def kX5_misfit : List am_E := [(0, .iconst 0, 1, 0, 0, 0), (1, .istore_n 1, 1, 0, 0, 0), (2, .iconst 0, 1, 0, 0, 0), (3, .istore_n 2, 1, 0, 0, 0), (4, .iload_n 2, 1, 0, 0, 0), (5, .aload_n 0, 1, 0, 0, 0), (6, .getfield 87, 3, 5, 3, 83), (9, .if_icmp .ge 38, 3, 47, 0, 0), (12, .aload_n 0, 1, 0, 0, 0), (13, .getfield 17, 3, 5, 2, 82), (16, .iload_n 2, 1, 0, 0, 0), (17, .aaload, 1, 0, 0, 0), (18, .astore_n 3, 1, 0, 0, 0), (19, .aload_n 3, 1, 0, 0, 0), (20, .ifnull 21, 3, 41, 0, 0), (23, .aload_n 3, 1, 0, 0, 0), (24, .getfield 118, 3, 4, 7, 264), (27, .ifCond .ne 14, 3, 41, 0, 0), (30, .iload_n 1, 1, 0, 0, 0), (31, .aload_n 3, 1, 0, 0, 0), (32, .aload_n 0, 1, 0, 0, 0), (33, .getfield 49, 3, 5, 10, 90), (36, .invokevirtual 174, 3, 22, 1, 457), (39, .iadd, 1, 0, 0, 0), (40, .istore_n 1, 1, 0, 0, 0), (41, .iinc 2 1, 3, 0, 0, 0), (44, .goto (-40), 3, 4, 0, 0), (47, .iload_n 1, 1, 0, 0, 0), (48, .ireturn, 1, 0, 0, 0)]
def kX5_tidy : List am_E := [(0, .iload_n 1, 1, 0, 0, 0), (1, .iconst 0, 1, 0, 0, 0), (2, .bipush 50, 2, 0, 0, 0), (4, .invokestatic 72, 3, 49, 3, 153), (7, .ifCond .eq 10, 3, 17, 0, 0), (10, .aload_n 0, 1, 0, 0, 0), (11, .invokevirtual 83, 3, 54, 0, 233), (14, .ifCond .eq 5, 3, 19, 0, 0), (17, .iconst (-1), 1, 0, 0, 0), (18, .ireturn, 1, 0, 0, 0), (19, .iconst 0, 1, 0, 0, 0), (20, .istore_n 2, 1, 0, 0, 0), (21, .iload_n 2, 1, 0, 0, 0), (22, .iload_n 1, 1, 0, 0, 0), (23, .if_icmp .ge 16, 3, 39, 0, 0), (26, .aload_n 0, 1, 0, 0, 0), (27, .invokevirtual 177, 3, 72, 0, 466), (30, .ifCond .eq 9, 3, 39, 0, 0), (33, .iinc 2 1, 3, 0, 0, 0), (36, .goto (-15), 3, 21, 0, 0), (39, .iload_n 2, 1, 0, 0, 0), (40, .ireturn, 1, 0, 0, 0)]
def kX5_least : List am_E := [(0, .aload_n 0, 1, 0, 0, 0), (1, .getfield 40, 3, 5, 9, 89), (4, .invokevirtual 180, 3, 1, 0, 482), (7, .iconst 0, 1, 0, 0, 0), (8, .istore_n 1, 1, 0, 0, 0), (9, .iconst 0, 1, 0, 0, 0), (10, .istore_n 2, 1, 0, 0, 0), (11, .iload_n 2, 1, 0, 0, 0), (12, .aload_n 0, 1, 0, 0, 0), (13, .getfield 87, 3, 5, 3, 83), (16, .if_icmp .ge 64, 3, 80, 0, 0), (19, .aload_n 0, 1, 0, 0, 0), (20, .getfield 17, 3, 5, 2, 82), (23, .iload_n 2, 1, 0, 0, 0), (24, .aaload, 1, 0, 0, 0), (25, .astore_n 3, 1, 0, 0, 0), (26, .aload_n 3, 1, 0, 0, 0), (27, .ifnull 47, 3, 74, 0, 0), (30, .aload_n 3, 1, 0, 0, 0), (31, .getfield 118, 3, 4, 7, 264), (34, .ifCond .eq 6, 3, 40, 0, 0), (37, .goto 37, 3, 74, 0, 0), (40, .aload_n 3, 1, 0, 0, 0), (41, .invokevirtual 128, 3, 24, 0, 370), (44, .ifCond .eq 17, 3, 61, 0, 0), (47, .iload_n 1, 1, 0, 0, 0), (48, .aload_n 3, 1, 0, 0, 0), (49, .aload_n 0, 1, 0, 0, 0), (50, .getfield 49, 3, 5, 10, 90), (53, .invokevirtual 174, 3, 22, 1, 457), (56, .iadd, 1, 0, 0, 0), (57, .istore_n 1, 1, 0, 0, 0), (58, .goto 16, 3, 74, 0, 0), (61, .aload_n 0, 1, 0, 0, 0), (62, .getfield 40, 3, 5, 9, 89), (65, .aload_n 3, 1, 0, 0, 0), (66, .invokevirtual 183, 3, 2, 1, 487), (69, .ifCond .ne 5, 3, 74, 0, 0), (72, .iconst (-1), 1, 0, 0, 0), (73, .ireturn, 1, 0, 0, 0), (74, .iinc 2 1, 3, 0, 0, 0), (77, .goto (-66), 3, 11, 0, 0), (80, .iconst 0, 1, 0, 0, 0), (81, .istore_n 2, 1, 0, 0, 0), (82, .iload_n 2, 1, 0, 0, 0), (83, .aload_n 0, 1, 0, 0, 0), (84, .getfield 76, 3, 5, 1, 81), (87, .if_icmp .ge 39, 3, 126, 0, 0), (90, .aload_n 0, 1, 0, 0, 0), (91, .getfield 11, 3, 5, 0, 80), (94, .iload_n 2, 1, 0, 0, 0), (95, .aaload, 1, 0, 0, 0), (96, .astore_n 3, 1, 0, 0, 0), (97, .aload_n 3, 1, 0, 0, 0), (98, .ifnull 22, 3, 120, 0, 0), (101, .aload_n 3, 1, 0, 0, 0), (102, .getfield 187, 3, 3, 7, 210), (105, .ifCond .ne 15, 3, 120, 0, 0), (108, .aload_n 0, 1, 0, 0, 0), (109, .getfield 40, 3, 5, 9, 89), (112, .aload_n 3, 1, 0, 0, 0), (113, .aload_n 0, 1, 0, 0, 0), (114, .getfield 49, 3, 5, 10, 90), (117, .invokevirtual 190, 3, 3, 2, 491), (120, .iinc 2 1, 3, 0, 0, 0), (123, .goto (-41), 3, 82, 0, 0), (126, .iload_n 1, 1, 0, 0, 0), (127, .aload_n 0, 1, 0, 0, 0), (128, .getfield 40, 3, 5, 9, 89), (131, .invokevirtual 194, 3, 4, 0, 506), (134, .iadd, 1, 0, 0, 0), (135, .ireturn, 1, 0, 0, 0)]
def kX5_sell : List am_E := [(0, .aload_n 0, 1, 0, 0, 0), (1, .iload_n 1, 1, 0, 0, 0), (2, .invokevirtual 114, 3, 56, 1, 344), (5, .astore_n 3, 1, 0, 0, 0), (6, .aload_n 3, 1, 0, 0, 0), (7, .ifnull 13, 3, 20, 0, 0), (10, .iload_n 2, 1, 0, 0, 0), (11, .iconst 0, 1, 0, 0, 0), (12, .ldc 48, 2, 100000, 0, 130), (14, .invokestatic 72, 3, 49, 3, 153), (17, .ifCond .ne 6, 3, 23, 0, 0), (20, .bipush (-2), 2, 0, 0, 0), (22, .ireturn, 1, 0, 0, 0), (23, .aload_n 3, 1, 0, 0, 0), (24, .getfield 118, 3, 4, 7, 264), (27, .ifCond .eq 6, 3, 33, 0, 0), (30, .bipush (-3), 2, 0, 0, 0), (32, .ireturn, 1, 0, 0, 0), (33, .aload_n 0, 1, 0, 0, 0), (34, .invokevirtual 197, 3, 53, 0, 135), (37, .aload_n 3, 1, 0, 0, 0), (38, .invokevirtual 200, 3, 18, 0, 356), (41, .isub, 1, 0, 0, 0), (42, .bipush 7, 2, 0, 0, 0), (44, .if_icmp .ge 6, 3, 50, 0, 0), (47, .bipush (-4), 2, 0, 0, 0), (49, .ireturn, 1, 0, 0, 0), (50, .aload_n 3, 1, 0, 0, 0), (51, .invokevirtual 128, 3, 24, 0, 370), (54, .ifCond .eq 6, 3, 60, 0, 0), (57, .bipush (-5), 2, 0, 0, 0), (59, .ireturn, 1, 0, 0, 0), (60, .aload_n 3, 1, 0, 0, 0), (61, .aload_n 0, 1, 0, 0, 0), (62, .invokevirtual 197, 3, 53, 0, 135), (65, .putfield 203, 3, 4, 10, 270), (68, .aload_n 3, 1, 0, 0, 0), (69, .getfield 206, 3, 4, 3, 255), (72, .ifCond .eq 11, 3, 83, 0, 0), (75, .aload_n 0, 1, 0, 0, 0), (76, .aload_n 3, 1, 0, 0, 0), (77, .iconst 5, 1, 0, 0, 0), (78, .invokevirtual 131, 3, 67, 2, 374), (81, .iconst 1, 1, 0, 0, 0), (82, .ireturn, 1, 0, 0, 0), (83, .aload_n 0, 1, 0, 0, 0), (84, .aload_n 3, 1, 0, 0, 0), (85, .iconst 2, 1, 0, 0, 0), (86, .invokevirtual 131, 3, 67, 2, 374), (89, .aload_n 3, 1, 0, 0, 0), (90, .iload_n 2, 1, 0, 0, 0), (91, .putfield 209, 3, 4, 9, 268), (94, .iconst 0, 1, 0, 0, 0), (95, .ireturn, 1, 0, 0, 0)]
def kX5_pay : List am_E := [(0, .iload_n 1, 1, 0, 0, 0), (1, .invokestatic 111, 3, 60, 1, 341), (4, .ifCond .ne 6, 3, 10, 0, 0), (7, .bipush (-2), 2, 0, 0, 0), (9, .ireturn, 1, 0, 0, 0), (10, .aload_n 0, 1, 0, 0, 0), (11, .iload_n 1, 1, 0, 0, 0), (12, .bipush 100, 2, 0, 0, 0), (14, .idiv, 1, 0, 0, 0), (15, .invokevirtual 114, 3, 56, 1, 344), (18, .astore_n 2, 1, 0, 0, 0), (19, .aload_n 2, 1, 0, 0, 0), (20, .ifnonnull 6, 3, 26, 0, 0), (23, .bipush (-3), 2, 0, 0, 0), (25, .ireturn, 1, 0, 0, 0), (26, .aload_n 2, 1, 0, 0, 0), (27, .getfield 118, 3, 4, 7, 264), (30, .iconst 2, 1, 0, 0, 0), (31, .if_icmp .eq 6, 3, 37, 0, 0), (34, .bipush (-4), 2, 0, 0, 0), (36, .ireturn, 1, 0, 0, 0), (37, .aload_n 0, 1, 0, 0, 0), (38, .invokevirtual 83, 3, 54, 0, 233), (41, .ifCond .ne 6, 3, 47, 0, 0), (44, .bipush (-6), 2, 0, 0, 0), (46, .ireturn, 1, 0, 0, 0), (47, .aload_n 0, 1, 0, 0, 0), (48, .aload_n 2, 1, 0, 0, 0), (49, .invokevirtual 121, 3, 63, 1, 348), (52, .aload_n 2, 1, 0, 0, 0), (53, .getfield 209, 3, 4, 9, 268), (56, .invokestatic 212, 3, 121, 2, 518), (59, .istore_n 3, 1, 0, 0, 0), (60, .aload_n 2, 1, 0, 0, 0), (61, .getfield 209, 3, 4, 9, 268), (64, .iload_n 3, 1, 0, 0, 0), (65, .isub, 1, 0, 0, 0), (66, .istore 4, 2, 0, 0, 0), (68, .aload_n 0, 1, 0, 0, 0), (69, .dup, 1, 0, 0, 0), (70, .getfield 135, 3, 5, 13, 93), (73, .iload_n 3, 1, 0, 0, 0), (74, .iadd, 1, 0, 0, 0), (75, .putfield 135, 3, 5, 13, 93), (78, .aload_n 2, 1, 0, 0, 0), (79, .iconst 0, 1, 0, 0, 0), (80, .putfield 209, 3, 4, 9, 268), (83, .aload_n 2, 1, 0, 0, 0), (84, .iconst 3, 1, 0, 0, 0), (85, .putfield 118, 3, 4, 7, 264), (88, .iload 4, 2, 0, 0, 0), (90, .ireturn, 1, 0, 0, 0)]
def kX5_tear : List am_E := [(0, .aload_n 0, 1, 0, 0, 0), (1, .iload_n 1, 1, 0, 0, 0), (2, .invokevirtual 218, 3, 55, 1, 523), (5, .astore_n 2, 1, 0, 0, 0), (6, .aload_n 2, 1, 0, 0, 0), (7, .ifnull 10, 3, 17, 0, 0), (10, .aload_n 2, 1, 0, 0, 0), (11, .getfield 187, 3, 3, 7, 210), (14, .ifCond .eq 5, 3, 19, 0, 0), (17, .iconst 0, 1, 0, 0, 0), (18, .ireturn, 1, 1, 0, 0), (19, .aload_n 2, 1, 0, 0, 0), (20, .iconst 1, 1, 0, 0, 0), (21, .putfield 187, 3, 3, 7, 210), (24, .iconst 1, 1, 0, 0, 0), (25, .ireturn, 1, 1, 0, 0)]
def kX5_mend : List am_E := [(0, .aload_n 0, 1, 0, 0, 0), (1, .iload_n 1, 1, 0, 0, 0), (2, .invokevirtual 218, 3, 55, 1, 523), (5, .astore_n 2, 1, 0, 0, 0), (6, .aload_n 2, 1, 0, 0, 0), (7, .ifnull 10, 3, 17, 0, 0), (10, .aload_n 2, 1, 0, 0, 0), (11, .getfield 187, 3, 3, 7, 210), (14, .ifCond .ne 5, 3, 19, 0, 0), (17, .iconst 0, 1, 0, 0, 0), (18, .ireturn, 1, 1, 0, 0), (19, .aload_n 2, 1, 0, 0, 0), (20, .iconst 0, 1, 0, 0, 0), (21, .putfield 187, 3, 3, 7, 210), (24, .iconst 1, 1, 0, 0, 0), (25, .ireturn, 1, 1, 0, 0)]
def kX5_shelfOf : List am_E := [(0, .aload_n 0, 1, 0, 0, 0), (1, .iload_n 1, 1, 0, 0, 0), (2, .invokevirtual 218, 3, 55, 1, 523), (5, .astore_n 3, 1, 0, 0, 0), (6, .aload_n 3, 1, 0, 0, 0), (7, .ifnonnull 5, 3, 12, 0, 0), (10, .iconst (-1), 1, 0, 0, 0), (11, .ireturn, 1, 0, 0, 0), (12, .iload_n 2, 1, 0, 0, 0), (13, .tableswitch 84 0 6 #[43, 48, 53, 61, 66, 71, 76], 43, 0, 0, 0), (56, .aload_n 3, 1, 0, 0, 0), (57, .getfield 222, 3, 3, 1, 196), (60, .ireturn, 1, 0, 0, 0), (61, .aload_n 3, 1, 0, 0, 0), (62, .getfield 225, 3, 3, 2, 198), (65, .ireturn, 1, 0, 0, 0), (66, .aload_n 3, 1, 0, 0, 0), (67, .getfield 228, 3, 3, 3, 200), (70, .invokestatic 231, 3, 51, 1, 535), (73, .ireturn, 1, 0, 0, 0), (74, .aload_n 3, 1, 0, 0, 0), (75, .getfield 104, 3, 3, 4, 203), (78, .ireturn, 1, 0, 0, 0), (79, .aload_n 3, 1, 0, 0, 0), (80, .getfield 235, 3, 3, 5, 205), (83, .ireturn, 1, 0, 0, 0), (84, .aload_n 3, 1, 0, 0, 0), (85, .getfield 238, 3, 3, 6, 207), (88, .ireturn, 1, 0, 0, 0), (89, .aload_n 3, 1, 0, 0, 0), (90, .getfield 187, 3, 3, 7, 210), (93, .invokestatic 231, 3, 51, 1, 535), (96, .ireturn, 1, 0, 0, 0), (97, .iconst (-1), 1, 0, 0, 0), (98, .ireturn, 1, 0, 0, 0)]
def kX5_thing : List am_E := [(0, .aload_n 0, 1, 0, 0, 0), (1, .iload_n 1, 1, 0, 0, 0), (2, .invokevirtual 114, 3, 56, 1, 344), (5, .astore_n 3, 1, 0, 0, 0), (6, .aload_n 3, 1, 0, 0, 0), (7, .ifnonnull 5, 3, 12, 0, 0), (10, .iconst (-1), 1, 0, 0, 0), (11, .ireturn, 1, 0, 0, 0), (12, .iload_n 2, 1, 0, 0, 0), (13, .tableswitch 146 0 12 #[67, 72, 77, 85, 93, 98, 103, 108, 113, 118, 127, 136, 141], 67, 0, 0, 0), (80, .aload_n 3, 1, 0, 0, 0), (81, .getfield 241, 3, 4, 0, 246), (84, .ireturn, 1, 0, 0, 0), (85, .aload_n 3, 1, 0, 0, 0), (86, .getfield 244, 3, 4, 1, 249), (89, .ireturn, 1, 0, 0, 0), (90, .aload_n 3, 1, 0, 0, 0), (91, .getfield 245, 3, 4, 2, 253), (94, .invokestatic 231, 3, 51, 1, 535), (97, .ireturn, 1, 0, 0, 0), (98, .aload_n 3, 1, 0, 0, 0), (99, .getfield 206, 3, 4, 3, 255), (102, .invokestatic 231, 3, 51, 1, 535), (105, .ireturn, 1, 0, 0, 0), (106, .aload_n 3, 1, 0, 0, 0), (107, .getfield 246, 3, 4, 4, 257), (110, .ireturn, 1, 0, 0, 0), (111, .aload_n 3, 1, 0, 0, 0), (112, .getfield 249, 3, 4, 5, 259), (115, .ireturn, 1, 0, 0, 0), (116, .aload_n 3, 1, 0, 0, 0), (117, .getfield 252, 3, 4, 6, 261), (120, .ireturn, 1, 0, 0, 0), (121, .aload_n 3, 1, 0, 0, 0), (122, .getfield 118, 3, 4, 7, 264), (125, .ireturn, 1, 0, 0, 0), (126, .aload_n 3, 1, 0, 0, 0), (127, .invokevirtual 255, 3, 23, 0, 542), (130, .ireturn, 1, 0, 0, 0), (131, .aload_n 3, 1, 0, 0, 0), (132, .aload_n 0, 1, 0, 0, 0), (133, .getfield 49, 3, 5, 10, 90), (136, .invokevirtual 258, 3, 20, 1, 546), (139, .ireturn, 1, 0, 0, 0), (140, .aload_n 3, 1, 0, 0, 0), (141, .aload_n 0, 1, 0, 0, 0), (142, .getfield 49, 3, 5, 10, 90), (145, .invokevirtual 174, 3, 22, 1, 457), (148, .ireturn, 1, 0, 0, 0), (149, .aload_n 3, 1, 0, 0, 0), (150, .getfield 209, 3, 4, 9, 268), (153, .ireturn, 1, 0, 0, 0), (154, .aload_n 3, 1, 0, 0, 0), (155, .getfield 203, 3, 4, 10, 270), (158, .ireturn, 1, 0, 0, 0), (159, .iconst (-1), 1, 0, 0, 0), (160, .ireturn, 1, 0, 0, 0)]
def kX5_claimOf : List am_E := [(0, .aload_n 0, 1, 0, 0, 0), (1, .iload_n 1, 1, 0, 0, 0), (2, .invokevirtual 142, 3, 57, 1, 407), (5, .astore_n 3, 1, 0, 0, 0), (6, .aload_n 3, 1, 0, 0, 0), (7, .ifnonnull 5, 3, 12, 0, 0), (10, .iconst (-1), 1, 0, 0, 0), (11, .ireturn, 1, 0, 0, 0), (12, .iload_n 2, 1, 0, 0, 0), (13, .bipush 10, 2, 0, 0, 0), (15, .bipush 13, 2, 0, 0, 0), (17, .invokestatic 72, 3, 49, 3, 153), (20, .ifCond .eq 13, 3, 33, 0, 0), (23, .aload_n 3, 1, 0, 0, 0), (24, .getfield 150, 3, 1, 0, 392), (27, .iload_n 2, 1, 0, 0, 0), (28, .bipush 10, 2, 0, 0, 0), (30, .isub, 1, 0, 0, 0), (31, .iaload, 1, 0, 0, 0), (32, .ireturn, 1, 0, 0, 0), (33, .iload_n 2, 1, 0, 0, 0), (34, .tableswitch 44 0 2 #[26, 31, 39], 26, 0, 0, 0), (60, .aload_n 3, 1, 0, 0, 0), (61, .invokevirtual 161, 3, 8, 0, 441), (64, .ireturn, 1, 0, 0, 0), (65, .aload_n 3, 1, 0, 0, 0), (66, .getfield 146, 3, 1, 1, 393), (69, .invokestatic 231, 3, 51, 1, 535), (72, .ireturn, 1, 0, 0, 0), (73, .aload_n 3, 1, 0, 0, 0), (74, .getfield 171, 3, 1, 2, 395), (77, .ireturn, 1, 0, 0, 0), (78, .iconst (-1), 1, 0, 0, 0), (79, .ireturn, 1, 0, 0, 0)]
def kX5_count : List am_E := [(0, .iload_n 1, 1, 0, 0, 0), (1, .tableswitch 117 0 10 #[59, 64, 69, 74, 79, 84, 89, 94, 102, 107, 112], 59, 0, 0, 0), (60, .aload_n 0, 1, 0, 0, 0), (61, .getfield 76, 3, 5, 1, 81), (64, .ireturn, 1, 0, 0, 0), (65, .aload_n 0, 1, 0, 0, 0), (66, .getfield 87, 3, 5, 3, 83), (69, .ireturn, 1, 0, 0, 0), (70, .aload_n 0, 1, 0, 0, 0), (71, .invokevirtual 261, 3, 75, 0, 555), (74, .ireturn, 1, 0, 0, 0), (75, .aload_n 0, 1, 0, 0, 0), (76, .getfield 138, 3, 5, 5, 85), (79, .ireturn, 1, 0, 0, 0), (80, .aload_n 0, 1, 0, 0, 0), (81, .getfield 62, 3, 5, 7, 87), (84, .ireturn, 1, 0, 0, 0), (85, .aload_n 0, 1, 0, 0, 0), (86, .getfield 49, 3, 5, 10, 90), (89, .ireturn, 1, 0, 0, 0), (90, .aload_n 0, 1, 0, 0, 0), (91, .invokevirtual 197, 3, 53, 0, 135), (94, .ireturn, 1, 0, 0, 0), (95, .aload_n 0, 1, 0, 0, 0), (96, .invokevirtual 83, 3, 54, 0, 233), (99, .invokestatic 231, 3, 51, 1, 535), (102, .ireturn, 1, 0, 0, 0), (103, .aload_n 0, 1, 0, 0, 0), (104, .getfield 135, 3, 5, 13, 93), (107, .ireturn, 1, 0, 0, 0), (108, .aload_n 0, 1, 0, 0, 0), (109, .invokevirtual 264, 3, 76, 0, 559), (112, .ireturn, 1, 0, 0, 0), (113, .aload_n 0, 1, 0, 0, 0), (114, .getfield 101, 3, 5, 14, 94), (117, .ireturn, 1, 0, 0, 0), (118, .iconst (-1), 1, 0, 0, 0), (119, .ireturn, 1, 0, 0, 0)]
def kX5_isWithin : List am_E := [(0, .iload_n 0, 1, 0, 0, 0), (1, .iload_n 1, 1, 0, 0, 0), (2, .if_icmp .lt 12, 3, 14, 0, 0), (5, .iload_n 0, 1, 0, 0, 0), (6, .iload_n 2, 1, 0, 0, 0), (7, .if_icmp .gt 7, 3, 14, 0, 0), (10, .iconst 1, 1, 0, 0, 0), (11, .goto 4, 3, 15, 0, 0), (14, .iconst 0, 1, 0, 0, 0), (15, .ireturn, 1, 1, 0, 0)]
def kX5_isPrice : List am_E := [(0, .iload_n 0, 1, 0, 0, 0), (1, .iconst 0, 1, 0, 0, 0), (2, .sipush 1000, 3, 0, 0, 0), (5, .invokestatic 72, 3, 49, 3, 153), (8, .ireturn, 1, 1, 0, 0)]
def kX5_asNumber : List am_E := [(0, .iload_n 0, 1, 0, 0, 0), (1, .ifCond .eq 7, 3, 8, 0, 0), (4, .iconst 1, 1, 0, 0, 0), (5, .goto 4, 3, 9, 0, 0), (8, .iconst 0, 1, 0, 0, 0), (9, .ireturn, 1, 0, 0, 0)]
def kX5_dayOf : List am_E := [(0, .iload_n 0, 1, 0, 0, 0), (1, .sipush 1440, 3, 0, 0, 0), (4, .idiv, 1, 0, 0, 0), (5, .ireturn, 1, 0, 0, 0)]
def kX5_today : List am_E := [(0, .aload_n 0, 1, 0, 0, 0), (1, .getfield 49, 3, 5, 10, 90), (4, .invokestatic 267, 3, 52, 1, 139), (7, .ireturn, 1, 0, 0, 0)]
def kX5_isOpen : List am_E := [(0, .aload_n 0, 1, 0, 0, 0), (1, .getfield 49, 3, 5, 10, 90), (4, .sipush 1440, 3, 0, 0, 0), (7, .irem, 1, 0, 0, 0), (8, .istore_n 1, 1, 0, 0, 0), (9, .iload_n 1, 1, 0, 0, 0), (10, .aload_n 0, 1, 0, 0, 0), (11, .getfield 55, 3, 5, 11, 91), (14, .if_icmp .lt 15, 3, 29, 0, 0), (17, .iload_n 1, 1, 0, 0, 0), (18, .aload_n 0, 1, 0, 0, 0), (19, .getfield 44, 3, 5, 12, 92), (22, .if_icmp .ge 7, 3, 29, 0, 0), (25, .iconst 1, 1, 0, 0, 0), (26, .goto 4, 3, 30, 0, 0), (29, .iconst 0, 1, 0, 0, 0), (30, .ireturn, 1, 1, 0, 0)]
def kX5_shelfAt : List am_E := [(0, .iload_n 1, 1, 0, 0, 0), (1, .iconst 0, 1, 0, 0, 0), (2, .aload_n 0, 1, 0, 0, 0), (3, .getfield 76, 3, 5, 1, 81), (6, .iconst 1, 1, 0, 0, 0), (7, .isub, 1, 0, 0, 0), (8, .invokestatic 72, 3, 49, 3, 153), (11, .ifCond .eq 12, 3, 23, 0, 0), (14, .aload_n 0, 1, 0, 0, 0), (15, .getfield 11, 3, 5, 0, 80), (18, .iload_n 1, 1, 0, 0, 0), (19, .aaload, 1, 0, 0, 0), (20, .goto 4, 3, 24, 0, 0), (23, .aconst_null, 1, 0, 0, 0), (24, .areturn, 1, 0, 0, 0)]
def kX5_thingAt : List am_E := [(0, .iload_n 1, 1, 0, 0, 0), (1, .iconst 0, 1, 0, 0, 0), (2, .aload_n 0, 1, 0, 0, 0), (3, .getfield 87, 3, 5, 3, 83), (6, .iconst 1, 1, 0, 0, 0), (7, .isub, 1, 0, 0, 0), (8, .invokestatic 72, 3, 49, 3, 153), (11, .ifCond .eq 12, 3, 23, 0, 0), (14, .aload_n 0, 1, 0, 0, 0), (15, .getfield 17, 3, 5, 2, 82), (18, .iload_n 1, 1, 0, 0, 0), (19, .aaload, 1, 0, 0, 0), (20, .goto 4, 3, 24, 0, 0), (23, .aconst_null, 1, 0, 0, 0), (24, .areturn, 1, 0, 0, 0)]
def kX5_claimAt : List am_E := [(0, .iload_n 1, 1, 0, 0, 0), (1, .iconst 0, 1, 0, 0, 0), (2, .aload_n 0, 1, 0, 0, 0), (3, .getfield 138, 3, 5, 5, 85), (6, .iconst 1, 1, 0, 0, 0), (7, .isub, 1, 0, 0, 0), (8, .invokestatic 72, 3, 49, 3, 153), (11, .ifCond .eq 12, 3, 23, 0, 0), (14, .aload_n 0, 1, 0, 0, 0), (15, .getfield 23, 3, 5, 4, 84), (18, .iload_n 1, 1, 0, 0, 0), (19, .aaload, 1, 0, 0, 0), (20, .goto 4, 3, 24, 0, 0), (23, .aconst_null, 1, 0, 0, 0), (24, .areturn, 1, 0, 0, 0)]
def kX5_ticketOf : List am_E := [(0, .bipush 100, 2, 0, 0, 0), (2, .iload_n 0, 1, 0, 0, 0), (3, .imul, 1, 0, 0, 0), (4, .iload_n 0, 1, 0, 0, 0), (5, .invokestatic 270, 3, 59, 1, 334), (8, .iadd, 1, 0, 0, 0), (9, .ireturn, 1, 0, 0, 0)]
def kX5_checkOf : List am_E := [(0, .bipush 37, 2, 0, 0, 0), (2, .iload_n 0, 1, 0, 0, 0), (3, .imul, 1, 0, 0, 0), (4, .bipush 11, 2, 0, 0, 0), (6, .iadd, 1, 0, 0, 0), (7, .bipush 97, 2, 0, 0, 0), (9, .irem, 1, 0, 0, 0), (10, .ireturn, 1, 0, 0, 0)]
def kX5_isTicket : List am_E := [(0, .iload_n 0, 1, 0, 0, 0), (1, .ifCond .lt 21, 3, 22, 0, 0), (4, .iload_n 0, 1, 0, 0, 0), (5, .bipush 100, 2, 0, 0, 0), (7, .irem, 1, 0, 0, 0), (8, .iload_n 0, 1, 0, 0, 0), (9, .bipush 100, 2, 0, 0, 0), (11, .idiv, 1, 0, 0, 0), (12, .invokestatic 270, 3, 59, 1, 334), (15, .if_icmp .ne 7, 3, 22, 0, 0), (18, .iconst 1, 1, 0, 0, 0), (19, .goto 4, 3, 23, 0, 0), (22, .iconst 0, 1, 0, 0, 0), (23, .ireturn, 1, 1, 0, 0)]
def kX5_lastRowDay : List am_E := [(0, .aload_n 0, 1, 0, 0, 0), (1, .getfield 62, 3, 5, 7, 87), (4, .ifCond .le 17, 3, 21, 0, 0), (7, .aload_n 0, 1, 0, 0, 0), (8, .getfield 29, 3, 5, 6, 86), (11, .aload_n 0, 1, 0, 0, 0), (12, .getfield 62, 3, 5, 7, 87), (15, .iconst 1, 1, 0, 0, 0), (16, .isub, 1, 0, 0, 0), (17, .aaload, 1, 0, 0, 0), (18, .goto 4, 3, 22, 0, 0), (21, .aconst_null, 1, 0, 0, 0), (22, .astore_n 1, 1, 0, 0, 0), (23, .aload_n 1, 1, 0, 0, 0), (24, .ifnonnull 7, 3, 31, 0, 0), (27, .iconst (-1), 1, 0, 0, 0), (28, .goto 7, 3, 35, 0, 0), (31, .aload_n 1, 1, 0, 0, 0), (32, .getfield 273, 3, 2, 0, 166), (35, .ireturn, 1, 0, 0, 0)]
def kX5_rowOn : List am_E := [(0, .aconst_null, 1, 0, 0, 0), (1, .astore_n 2, 1, 0, 0, 0), (2, .iconst 0, 1, 0, 0, 0), (3, .istore_n 3, 1, 0, 0, 0), (4, .iload_n 3, 1, 0, 0, 0), (5, .aload_n 0, 1, 0, 0, 0), (6, .getfield 62, 3, 5, 7, 87), (9, .if_icmp .ge 34, 3, 43, 0, 0), (12, .aload_n 0, 1, 0, 0, 0), (13, .getfield 29, 3, 5, 6, 86), (16, .iload_n 3, 1, 0, 0, 0), (17, .aaload, 1, 0, 0, 0), (18, .astore 4, 2, 0, 0, 0), (20, .aload 4, 2, 0, 0, 0), (22, .ifnull 15, 3, 37, 0, 0), (25, .aload 4, 2, 0, 0, 0), (27, .getfield 273, 3, 2, 0, 166), (30, .iload_n 1, 1, 0, 0, 0), (31, .if_icmp .gt 6, 3, 37, 0, 0), (34, .aload 4, 2, 0, 0, 0), (36, .astore_n 2, 1, 0, 0, 0), (37, .iinc 3 1, 3, 0, 0, 0), (40, .goto (-36), 3, 4, 0, 0), (43, .aload_n 2, 1, 0, 0, 0), (44, .areturn, 1, 0, 0, 0)]
def kX5_feeOf : List am_E := [(0, .aload_n 1, 1, 0, 0, 0), (1, .getfield 252, 3, 4, 6, 261), (4, .invokestatic 267, 3, 52, 1, 139), (7, .istore_n 2, 1, 0, 0, 0), (8, .aload_n 1, 1, 0, 0, 0), (9, .getfield 203, 3, 4, 10, 270), (12, .iconst (-1), 1, 0, 0, 0), (13, .if_icmp .ne 10, 3, 23, 0, 0), (16, .aload_n 0, 1, 0, 0, 0), (17, .invokevirtual 197, 3, 53, 0, 135), (20, .goto 7, 3, 27, 0, 0), (23, .aload_n 1, 1, 0, 0, 0), (24, .getfield 203, 3, 4, 10, 270), (27, .istore_n 3, 1, 0, 0, 0), (28, .aload_n 0, 1, 0, 0, 0), (29, .iload_n 2, 1, 0, 0, 0), (30, .invokevirtual 276, 3, 62, 1, 352), (33, .astore 4, 2, 0, 0, 0), (35, .aload 4, 2, 0, 0, 0), (37, .ifnonnull 7, 3, 44, 0, 0), (40, .iconst 0, 1, 0, 0, 0), (41, .goto 8, 3, 49, 0, 0), (44, .aload 4, 2, 0, 0, 0), (46, .getfield 280, 3, 2, 1, 168), (49, .istore 5, 2, 0, 0, 0), (51, .iload_n 2, 1, 0, 0, 0), (52, .istore 6, 2, 0, 0, 0), (54, .iload 6, 2, 0, 0, 0), (56, .iload_n 3, 1, 0, 0, 0), (57, .if_icmp .gt 53, 3, 110, 0, 0), (60, .aload_n 0, 1, 0, 0, 0), (61, .iload 6, 2, 0, 0, 0), (63, .invokevirtual 276, 3, 62, 1, 352), (66, .astore 7, 2, 0, 0, 0), (68, .aload 7, 2, 0, 0, 0), (70, .ifnull 34, 3, 104, 0, 0), (73, .iload 5, 2, 0, 0, 0), (75, .iload 6, 2, 0, 0, 0), (77, .aload_n 1, 1, 0, 0, 0), (78, .invokevirtual 200, 3, 18, 0, 356), (81, .if_icmp .le 14, 3, 95, 0, 0), (84, .iconst 2, 1, 0, 0, 0), (85, .aload 7, 2, 0, 0, 0), (87, .aload_n 1, 1, 0, 0, 0), (88, .invokevirtual 283, 3, 11, 1, 361), (91, .imul, 1, 0, 0, 0), (92, .goto 9, 3, 101, 0, 0), (95, .aload 7, 2, 0, 0, 0), (97, .aload_n 1, 1, 0, 0, 0), (98, .invokevirtual 283, 3, 11, 1, 361), (101, .iadd, 1, 0, 0, 0), (102, .istore 5, 2, 0, 0, 0), (104, .iinc 6 1, 3, 0, 0, 0), (107, .goto (-53), 3, 54, 0, 0), (110, .iload 5, 2, 0, 0, 0), (112, .ireturn, 1, 0, 0, 0)]
def kX5_letOldCoinsFall : List am_E := [(0, .iconst 0, 1, 0, 0, 0), (1, .istore_n 1, 1, 0, 0, 0), (2, .iload_n 1, 1, 0, 0, 0), (3, .aload_n 0, 1, 0, 0, 0), (4, .getfield 87, 3, 5, 3, 83), (7, .if_icmp .ge 65, 3, 72, 0, 0), (10, .aload_n 0, 1, 0, 0, 0), (11, .getfield 17, 3, 5, 2, 82), (14, .iload_n 1, 1, 0, 0, 0), (15, .aaload, 1, 0, 0, 0), (16, .astore_n 2, 1, 0, 0, 0), (17, .aload_n 2, 1, 0, 0, 0), (18, .ifnull 48, 3, 66, 0, 0), (21, .aload_n 2, 1, 0, 0, 0), (22, .getfield 118, 3, 4, 7, 264), (25, .iconst 2, 1, 0, 0, 0), (26, .if_icmp .ne 40, 3, 66, 0, 0), (29, .aload_n 0, 1, 0, 0, 0), (30, .invokevirtual 197, 3, 53, 0, 135), (33, .aload_n 2, 1, 0, 0, 0), (34, .getfield 203, 3, 4, 10, 270), (37, .isub, 1, 0, 0, 0), (38, .bipush 30, 2, 0, 0, 0), (40, .if_icmp .le 26, 3, 66, 0, 0), (43, .aload_n 0, 1, 0, 0, 0), (44, .dup, 1, 0, 0, 0), (45, .getfield 135, 3, 5, 13, 93), (48, .aload_n 2, 1, 0, 0, 0), (49, .getfield 209, 3, 4, 9, 268), (52, .iadd, 1, 0, 0, 0), (53, .putfield 135, 3, 5, 13, 93), (56, .aload_n 2, 1, 0, 0, 0), (57, .iconst 0, 1, 0, 0, 0), (58, .putfield 209, 3, 4, 9, 268), (61, .aload_n 2, 1, 0, 0, 0), (62, .iconst 4, 1, 0, 0, 0), (63, .putfield 118, 3, 4, 7, 264), (66, .iinc 1 1, 3, 0, 0, 0), (69, .goto (-67), 3, 2, 0, 0), (72, .return_, 1, 0, 0, 0)]
def kX5_shelfForNew : List am_E := [(0, .aconst_null, 1, 0, 0, 0), (1, .astore_n 2, 1, 0, 0, 0), (2, .iconst 0, 1, 0, 0, 0), (3, .istore_n 3, 1, 0, 0, 0), (4, .iload_n 3, 1, 0, 0, 0), (5, .aload_n 0, 1, 0, 0, 0), (6, .getfield 76, 3, 5, 1, 81), (9, .if_icmp .ge 49, 3, 58, 0, 0), (12, .aload_n 0, 1, 0, 0, 0), (13, .getfield 11, 3, 5, 0, 80), (16, .iload_n 3, 1, 0, 0, 0), (17, .aaload, 1, 0, 0, 0), (18, .astore 4, 2, 0, 0, 0), (20, .aload 4, 2, 0, 0, 0), (22, .ifnull 30, 3, 52, 0, 0), (25, .aload 4, 2, 0, 0, 0), (27, .aload_n 1, 1, 0, 0, 0), (28, .invokevirtual 286, 3, 14, 1, 298), (31, .ifCond .eq 21, 3, 52, 0, 0), (34, .aload_n 2, 1, 0, 0, 0), (35, .ifnull 14, 3, 49, 0, 0), (38, .aload_n 0, 1, 0, 0, 0), (39, .aload 4, 2, 0, 0, 0), (41, .aload_n 2, 1, 0, 0, 0), (42, .aload_n 1, 1, 0, 0, 0), (43, .invokevirtual 289, 3, 66, 3, 306), (46, .ifCond .eq 6, 3, 52, 0, 0), (49, .aload 4, 2, 0, 0, 0), (51, .astore_n 2, 1, 0, 0, 0), (52, .iinc 3 1, 3, 0, 0, 0), (55, .goto (-51), 3, 4, 0, 0), (58, .aload_n 2, 1, 0, 0, 0), (59, .areturn, 1, 0, 0, 0)]
def kX5_isNearer : List am_E := [(0, .aload_n 3, 1, 0, 0, 0), (1, .aload_n 1, 1, 0, 0, 0), (2, .aload_n 0, 1, 0, 0, 0), (3, .getfield 49, 3, 5, 10, 90), (6, .invokevirtual 293, 3, 21, 2, 310), (9, .istore 4, 2, 0, 0, 0), (11, .aload_n 3, 1, 0, 0, 0), (12, .aload_n 2, 1, 0, 0, 0), (13, .aload_n 0, 1, 0, 0, 0), (14, .getfield 49, 3, 5, 10, 90), (17, .invokevirtual 293, 3, 21, 2, 310), (20, .istore 5, 2, 0, 0, 0), (22, .iload 4, 2, 0, 0, 0), (24, .iload 5, 2, 0, 0, 0), (26, .if_icmp .lt 21, 3, 47, 0, 0), (29, .iload 4, 2, 0, 0, 0), (31, .iload 5, 2, 0, 0, 0), (33, .if_icmp .ne 18, 3, 51, 0, 0), (36, .aload_n 1, 1, 0, 0, 0), (37, .getfield 104, 3, 3, 4, 203), (40, .aload_n 2, 1, 0, 0, 0), (41, .getfield 104, 3, 3, 4, 203), (44, .if_icmp .ge 7, 3, 51, 0, 0), (47, .iconst 1, 1, 0, 0, 0), (48, .goto 4, 3, 52, 0, 0), (51, .iconst 0, 1, 0, 0, 0), (52, .ireturn, 1, 1, 0, 0)]
def kX5_takeAway : List am_E := [(0, .aload_n 1, 1, 0, 0, 0), (1, .getfield 297, 3, 4, 8, 267), (4, .astore_n 3, 1, 0, 0, 0), (5, .aload_n 3, 1, 0, 0, 0), (6, .ifnull 23, 3, 29, 0, 0), (9, .aload_n 0, 1, 0, 0, 0), (10, .dup, 1, 0, 0, 0), (11, .getfield 101, 3, 5, 14, 94), (14, .iconst 2, 1, 0, 0, 0), (15, .aload_n 3, 1, 0, 0, 0), (16, .getfield 104, 3, 3, 4, 203), (19, .imul, 1, 0, 0, 0), (20, .iadd, 1, 0, 0, 0), (21, .putfield 101, 3, 5, 14, 94), (24, .aload_n 3, 1, 0, 0, 0), (25, .aload_n 1, 1, 0, 0, 0), (26, .invokevirtual 301, 3, 16, 1, 378), (29, .aload_n 1, 1, 0, 0, 0), (30, .iload_n 2, 1, 0, 0, 0), (31, .putfield 118, 3, 4, 7, 264), (34, .return_, 1, 0, 0, 0)]
def kX5_meantBy : List am_E := [(0, .iconst 0, 1, 0, 0, 0), (1, .istore_n 2, 1, 0, 0, 0), (2, .iconst 0, 1, 0, 0, 0), (3, .istore_n 3, 1, 0, 0, 0), (4, .iload_n 3, 1, 0, 0, 0), (5, .aload_n 0, 1, 0, 0, 0), (6, .getfield 87, 3, 5, 3, 83), (9, .if_icmp .ge 34, 3, 43, 0, 0), (12, .aload_n 0, 1, 0, 0, 0), (13, .getfield 17, 3, 5, 2, 82), (16, .iload_n 3, 1, 0, 0, 0), (17, .aaload, 1, 0, 0, 0), (18, .astore 4, 2, 0, 0, 0), (20, .aload 4, 2, 0, 0, 0), (22, .ifnull 15, 3, 37, 0, 0), (25, .aload_n 1, 1, 0, 0, 0), (26, .aload 4, 2, 0, 0, 0), (28, .invokevirtual 304, 3, 9, 1, 415), (31, .ifCond .eq 6, 3, 37, 0, 0), (34, .iinc 2 1, 3, 0, 0, 0), (37, .iinc 3 1, 3, 0, 0, 0), (40, .goto (-36), 3, 4, 0, 0), (43, .iload_n 2, 1, 0, 0, 0), (44, .ireturn, 1, 0, 0, 0)]
def kX5_firstMeantBy : List am_E := [(0, .iconst 0, 1, 0, 0, 0), (1, .istore_n 2, 1, 0, 0, 0), (2, .iload_n 2, 1, 0, 0, 0), (3, .aload_n 0, 1, 0, 0, 0), (4, .getfield 87, 3, 5, 3, 83), (7, .if_icmp .ge 30, 3, 37, 0, 0), (10, .aload_n 0, 1, 0, 0, 0), (11, .getfield 17, 3, 5, 2, 82), (14, .iload_n 2, 1, 0, 0, 0), (15, .aaload, 1, 0, 0, 0), (16, .astore_n 3, 1, 0, 0, 0), (17, .aload_n 3, 1, 0, 0, 0), (18, .ifnull 13, 3, 31, 0, 0), (21, .aload_n 1, 1, 0, 0, 0), (22, .aload_n 3, 1, 0, 0, 0), (23, .invokevirtual 304, 3, 9, 1, 415), (26, .ifCond .eq 5, 3, 31, 0, 0), (29, .iload_n 2, 1, 0, 0, 0), (30, .ireturn, 1, 0, 0, 0), (31, .iinc 2 1, 3, 0, 0, 0), (34, .goto (-32), 3, 2, 0, 0), (37, .iconst (-1), 1, 0, 0, 0), (38, .ireturn, 1, 0, 0, 0)]
def kX5_greatestHeap : List am_E := [(0, .iconst 0, 1, 0, 0, 0), (1, .istore_n 3, 1, 0, 0, 0), (2, .iload_n 3, 1, 0, 0, 0), (3, .aload_n 0, 1, 0, 0, 0), (4, .getfield 33, 3, 5, 8, 88), (7, .arraylength, 1, 0, 0, 0), (8, .if_icmp .ge 16, 3, 24, 0, 0), (11, .aload_n 0, 1, 0, 0, 0), (12, .getfield 33, 3, 5, 8, 88), (15, .iload_n 3, 1, 0, 0, 0), (16, .iconst 0, 1, 0, 0, 0), (17, .iastore, 1, 0, 0, 0), (18, .iinc 3 1, 3, 0, 0, 0), (21, .goto (-19), 3, 2, 0, 0), (24, .iconst 0, 1, 0, 0, 0), (25, .istore_n 3, 1, 0, 0, 0), (26, .iconst 0, 1, 0, 0, 0), (27, .istore 4, 2, 0, 0, 0), (29, .iload 4, 2, 0, 0, 0), (31, .aload_n 0, 1, 0, 0, 0), (32, .getfield 87, 3, 5, 3, 83), (35, .if_icmp .ge 63, 3, 98, 0, 0), (38, .aload_n 0, 1, 0, 0, 0), (39, .getfield 17, 3, 5, 2, 82), (42, .iload 4, 2, 0, 0, 0), (44, .aaload, 1, 0, 0, 0), (45, .astore 5, 2, 0, 0, 0), (47, .aload 5, 2, 0, 0, 0), (49, .ifnull 43, 3, 92, 0, 0), (52, .aload_n 1, 1, 0, 0, 0), (53, .aload 5, 2, 0, 0, 0), (55, .invokevirtual 304, 3, 9, 1, 415), (58, .ifCond .eq 34, 3, 92, 0, 0), (61, .aload 5, 2, 0, 0, 0), (63, .iload_n 2, 1, 0, 0, 0), (64, .invokevirtual 307, 3, 19, 1, 435), (67, .istore 6, 2, 0, 0, 0), (69, .aload_n 0, 1, 0, 0, 0), (70, .getfield 33, 3, 5, 8, 88), (73, .iload 6, 2, 0, 0, 0), (75, .dup2, 1, 0, 0, 0), (76, .iaload, 1, 0, 0, 0), (77, .iconst 1, 1, 0, 0, 0), (78, .iadd, 1, 0, 0, 0), (79, .iastore, 1, 0, 0, 0), (80, .iload_n 3, 1, 0, 0, 0), (81, .aload_n 0, 1, 0, 0, 0), (82, .getfield 33, 3, 5, 8, 88), (85, .iload 6, 2, 0, 0, 0), (87, .iaload, 1, 0, 0, 0), (88, .invokestatic 310, 3, 120, 2, 436), (91, .istore_n 3, 1, 0, 0, 0), (92, .iinc 4 1, 3, 0, 0, 0), (95, .goto (-66), 3, 29, 0, 0), (98, .iload_n 3, 1, 0, 0, 0), (99, .ireturn, 1, 0, 0, 0)]
def kX5_isContested : List am_E := [(0, .iconst 0, 1, 0, 0, 0), (1, .istore_n 3, 1, 0, 0, 0), (2, .iload_n 3, 1, 0, 0, 0), (3, .aload_n 0, 1, 0, 0, 0), (4, .getfield 138, 3, 5, 5, 85), (7, .if_icmp .ge 66, 3, 73, 0, 0), (10, .aload_n 0, 1, 0, 0, 0), (11, .getfield 23, 3, 5, 4, 84), (14, .iload_n 3, 1, 0, 0, 0), (15, .aaload, 1, 0, 0, 0), (16, .astore 4, 2, 0, 0, 0), (18, .aload 4, 2, 0, 0, 0), (20, .ifnull 47, 3, 67, 0, 0), (23, .aload 4, 2, 0, 0, 0), (25, .aload_n 1, 1, 0, 0, 0), (26, .if_acmp .eq 41, 3, 67, 0, 0), (29, .aload 4, 2, 0, 0, 0), (31, .getfield 146, 3, 1, 1, 393), (34, .ifCond .ne 33, 3, 67, 0, 0), (37, .aload 4, 2, 0, 0, 0), (39, .invokevirtual 161, 3, 8, 0, 441), (42, .iconst 3, 1, 0, 0, 0), (43, .if_icmp .lt 24, 3, 67, 0, 0), (46, .aload 4, 2, 0, 0, 0), (48, .aload_n 2, 1, 0, 0, 0), (49, .invokevirtual 304, 3, 9, 1, 415), (52, .ifCond .eq 15, 3, 67, 0, 0), (55, .aload_n 0, 1, 0, 0, 0), (56, .aload 4, 2, 0, 0, 0), (58, .invokevirtual 153, 3, 68, 1, 411), (61, .iconst 1, 1, 0, 0, 0), (62, .if_icmp .ne 5, 3, 67, 0, 0), (65, .iconst 1, 1, 0, 0, 0), (66, .ireturn, 1, 1, 0, 0), (67, .iinc 3 1, 3, 0, 0, 0), (70, .goto (-68), 3, 2, 0, 0), (73, .iconst 0, 1, 0, 0, 0), (74, .ireturn, 1, 1, 0, 0)]
def kX5_makeBestMove : List am_E := [(0, .aconst_null, 1, 0, 0, 0), (1, .astore_n 1, 1, 0, 0, 0), (2, .aconst_null, 1, 0, 0, 0), (3, .astore_n 2, 1, 0, 0, 0), (4, .iconst 0, 1, 0, 0, 0), (5, .istore_n 3, 1, 0, 0, 0), (6, .iconst 0, 1, 0, 0, 0), (7, .istore 4, 2, 0, 0, 0), (9, .iload 4, 2, 0, 0, 0), (11, .aload_n 0, 1, 0, 0, 0), (12, .getfield 87, 3, 5, 3, 83), (15, .if_icmp .ge 81, 3, 96, 0, 0), (18, .aload_n 0, 1, 0, 0, 0), (19, .getfield 17, 3, 5, 2, 82), (22, .iload 4, 2, 0, 0, 0), (24, .aaload, 1, 0, 0, 0), (25, .astore 5, 2, 0, 0, 0), (27, .aload 5, 2, 0, 0, 0), (29, .ifnonnull 7, 3, 36, 0, 0), (32, .aconst_null, 1, 0, 0, 0), (33, .goto 9, 3, 42, 0, 0), (36, .aload_n 0, 1, 0, 0, 0), (37, .aload 5, 2, 0, 0, 0), (39, .invokevirtual 313, 3, 73, 1, 470), (42, .astore 6, 2, 0, 0, 0), (44, .aload 6, 2, 0, 0, 0), (46, .ifnonnull 6, 3, 52, 0, 0), (49, .goto 41, 3, 90, 0, 0), (52, .aload 5, 2, 0, 0, 0), (54, .aload_n 0, 1, 0, 0, 0), (55, .getfield 49, 3, 5, 10, 90), (58, .invokevirtual 174, 3, 22, 1, 457), (61, .aload 5, 2, 0, 0, 0), (63, .aload 6, 2, 0, 0, 0), (65, .aload_n 0, 1, 0, 0, 0), (66, .getfield 49, 3, 5, 10, 90), (69, .invokevirtual 293, 3, 21, 2, 310), (72, .isub, 1, 0, 0, 0), (73, .istore 7, 2, 0, 0, 0), (75, .iload 7, 2, 0, 0, 0), (77, .iload_n 3, 1, 0, 0, 0), (78, .if_icmp .le 12, 3, 90, 0, 0), (81, .iload 7, 2, 0, 0, 0), (83, .istore_n 3, 1, 0, 0, 0), (84, .aload 5, 2, 0, 0, 0), (86, .astore_n 1, 1, 0, 0, 0), (87, .aload 6, 2, 0, 0, 0), (89, .astore_n 2, 1, 0, 0, 0), (90, .iinc 4 1, 3, 0, 0, 0), (93, .goto (-84), 3, 9, 0, 0), (96, .aload_n 1, 1, 0, 0, 0), (97, .ifnull 7, 3, 104, 0, 0), (100, .aload_n 2, 1, 0, 0, 0), (101, .ifnonnull 5, 3, 106, 0, 0), (104, .iconst 0, 1, 0, 0, 0), (105, .ireturn, 1, 1, 0, 0), (106, .aload_n 0, 1, 0, 0, 0), (107, .aload_n 1, 1, 0, 0, 0), (108, .aload_n 2, 1, 0, 0, 0), (109, .invokevirtual 316, 3, 74, 2, 474), (112, .iconst 1, 1, 0, 0, 0), (113, .ireturn, 1, 1, 0, 0)]
def kX5_shelfForMove : List am_E := [(0, .aload_n 1, 1, 0, 0, 0), (1, .getfield 118, 3, 4, 7, 264), (4, .ifCond .ne 10, 3, 14, 0, 0), (7, .aload_n 1, 1, 0, 0, 0), (8, .invokevirtual 128, 3, 24, 0, 370), (11, .ifCond .eq 5, 3, 16, 0, 0), (14, .aconst_null, 1, 0, 0, 0), (15, .areturn, 1, 0, 0, 0), (16, .aconst_null, 1, 0, 0, 0), (17, .astore_n 2, 1, 0, 0, 0), (18, .iconst 0, 1, 0, 0, 0), (19, .istore_n 3, 1, 0, 0, 0), (20, .iconst 0, 1, 0, 0, 0), (21, .istore 4, 2, 0, 0, 0), (23, .iload 4, 2, 0, 0, 0), (25, .aload_n 0, 1, 0, 0, 0), (26, .getfield 76, 3, 5, 1, 81), (29, .if_icmp .ge 72, 3, 101, 0, 0), (32, .aload_n 0, 1, 0, 0, 0), (33, .getfield 11, 3, 5, 0, 80), (36, .iload 4, 2, 0, 0, 0), (38, .aaload, 1, 0, 0, 0), (39, .astore 5, 2, 0, 0, 0), (41, .aload 5, 2, 0, 0, 0), (43, .ifnull 52, 3, 95, 0, 0), (46, .aload 5, 2, 0, 0, 0), (48, .aload_n 1, 1, 0, 0, 0), (49, .getfield 297, 3, 4, 8, 267), (52, .if_acmp .eq 43, 3, 95, 0, 0), (55, .aload 5, 2, 0, 0, 0), (57, .aload_n 1, 1, 0, 0, 0), (58, .invokevirtual 286, 3, 14, 1, 298), (61, .ifCond .ne 6, 3, 67, 0, 0), (64, .goto 31, 3, 95, 0, 0), (67, .aload_n 1, 1, 0, 0, 0), (68, .aload 5, 2, 0, 0, 0), (70, .aload_n 0, 1, 0, 0, 0), (71, .getfield 49, 3, 5, 10, 90), (74, .invokevirtual 293, 3, 21, 2, 310), (77, .istore 6, 2, 0, 0, 0), (79, .aload_n 2, 1, 0, 0, 0), (80, .ifnull 9, 3, 89, 0, 0), (83, .iload 6, 2, 0, 0, 0), (85, .iload_n 3, 1, 0, 0, 0), (86, .if_icmp .ge 9, 3, 95, 0, 0), (89, .aload 5, 2, 0, 0, 0), (91, .astore_n 2, 1, 0, 0, 0), (92, .iload 6, 2, 0, 0, 0), (94, .istore_n 3, 1, 0, 0, 0), (95, .iinc 4 1, 3, 0, 0, 0), (98, .goto (-75), 3, 23, 0, 0), (101, .aload_n 2, 1, 0, 0, 0), (102, .areturn, 1, 0, 0, 0)]
def kX5_move : List am_E := [(0, .aload_n 1, 1, 0, 0, 0), (1, .getfield 297, 3, 4, 8, 267), (4, .astore_n 3, 1, 0, 0, 0), (5, .aload_n 3, 1, 0, 0, 0), (6, .ifnonnull 4, 3, 10, 0, 0), (9, .return_, 1, 0, 0, 0), (10, .aload_n 0, 1, 0, 0, 0), (11, .dup, 1, 0, 0, 0), (12, .getfield 101, 3, 5, 14, 94), (15, .aload_n 3, 1, 0, 0, 0), (16, .getfield 104, 3, 3, 4, 203), (19, .aload_n 2, 1, 0, 0, 0), (20, .getfield 104, 3, 3, 4, 203), (23, .iadd, 1, 0, 0, 0), (24, .iadd, 1, 0, 0, 0), (25, .putfield 101, 3, 5, 14, 94), (28, .aload_n 3, 1, 0, 0, 0), (29, .aload_n 1, 1, 0, 0, 0), (30, .invokevirtual 301, 3, 16, 1, 378), (33, .aload_n 2, 1, 0, 0, 0), (34, .aload_n 1, 1, 0, 0, 0), (35, .invokevirtual 97, 3, 15, 1, 327), (38, .return_, 1, 0, 0, 0)]
def kX5_thingsIn : List am_E := [(0, .iconst 0, 1, 0, 0, 0), (1, .istore_n 1, 1, 0, 0, 0), (2, .iconst 0, 1, 0, 0, 0), (3, .istore_n 2, 1, 0, 0, 0), (4, .iload_n 2, 1, 0, 0, 0), (5, .aload_n 0, 1, 0, 0, 0), (6, .getfield 76, 3, 5, 1, 81), (9, .if_icmp .ge 27, 3, 36, 0, 0), (12, .aload_n 0, 1, 0, 0, 0), (13, .getfield 11, 3, 5, 0, 80), (16, .iload_n 2, 1, 0, 0, 0), (17, .aaload, 1, 0, 0, 0), (18, .astore_n 3, 1, 0, 0, 0), (19, .aload_n 3, 1, 0, 0, 0), (20, .ifnull 10, 3, 30, 0, 0), (23, .iload_n 1, 1, 0, 0, 0), (24, .aload_n 3, 1, 0, 0, 0), (25, .getfield 238, 3, 3, 6, 207), (28, .iadd, 1, 0, 0, 0), (29, .istore_n 1, 1, 0, 0, 0), (30, .iinc 2 1, 3, 0, 0, 0), (33, .goto (-29), 3, 4, 0, 0), (36, .iload_n 1, 1, 0, 0, 0), (37, .ireturn, 1, 0, 0, 0)]
def kX5_coinsKept : List am_E := [(0, .iconst 0, 1, 0, 0, 0), (1, .istore_n 1, 1, 0, 0, 0), (2, .iconst 0, 1, 0, 0, 0), (3, .istore_n 2, 1, 0, 0, 0), (4, .iload_n 2, 1, 0, 0, 0), (5, .aload_n 0, 1, 0, 0, 0), (6, .getfield 87, 3, 5, 3, 83), (9, .if_icmp .ge 27, 3, 36, 0, 0), (12, .aload_n 0, 1, 0, 0, 0), (13, .getfield 17, 3, 5, 2, 82), (16, .iload_n 2, 1, 0, 0, 0), (17, .aaload, 1, 0, 0, 0), (18, .astore_n 3, 1, 0, 0, 0), (19, .aload_n 3, 1, 0, 0, 0), (20, .ifnull 10, 3, 30, 0, 0), (23, .iload_n 1, 1, 0, 0, 0), (24, .aload_n 3, 1, 0, 0, 0), (25, .getfield 209, 3, 4, 9, 268), (28, .iadd, 1, 0, 0, 0), (29, .istore_n 1, 1, 0, 0, 0), (30, .iinc 2 1, 3, 0, 0, 0), (33, .goto (-29), 3, 4, 0, 0), (36, .iload_n 1, 1, 0, 0, 0), (37, .ireturn, 1, 0, 0, 0)]
def kX6_init : List am_E := [(0, .aload_n 0, 1, 0, 0, 0), (1, .invokespecial 1, 3, 999, 0, 568), (4, .aload_n 0, 1, 0, 0, 0), (5, .sipush 1440, 3, 0, 0, 0), (8, .putfield 7, 3, 6, 2, 571), (11, .aload_n 0, 1, 0, 0, 0), (12, .bipush 12, 2, 0, 0, 0), (14, .newarray .int, 2, 7, 0, 0), (16, .putfield 13, 3, 6, 6, 575), (19, .aload_n 0, 1, 0, 0, 0), (20, .bipush 12, 2, 0, 0, 0), (22, .newarray .int, 2, 7, 0, 0), (24, .putfield 17, 3, 6, 7, 576), (27, .aload_n 0, 1, 0, 0, 0), (28, .bipush 12, 2, 0, 0, 0), (30, .newarray .int, 2, 7, 0, 0), (32, .putfield 20, 3, 6, 8, 577), (35, .aload_n 0, 1, 0, 0, 0), (36, .bipush 12, 2, 0, 0, 0), (38, .newarray .int, 2, 7, 0, 0), (40, .putfield 23, 3, 6, 9, 578), (43, .aload_n 0, 1, 0, 0, 0), (44, .bipush 12, 2, 0, 0, 0), (46, .newarray .int, 2, 7, 0, 0), (48, .putfield 26, 3, 6, 10, 579), (51, .aload_n 0, 1, 0, 0, 0), (52, .bipush 16, 2, 0, 0, 0), (54, .newarray .int, 2, 7, 0, 0), (56, .putfield 29, 3, 6, 13, 582), (59, .aload_n 0, 1, 0, 0, 0), (60, .bipush 16, 2, 0, 0, 0), (62, .newarray .int, 2, 7, 0, 0), (64, .putfield 32, 3, 6, 14, 583), (67, .aload_n 0, 1, 0, 0, 0), (68, .bipush 16, 2, 0, 0, 0), (70, .newarray .int, 2, 7, 0, 0), (72, .putfield 35, 3, 6, 15, 584), (75, .aload_n 0, 1, 0, 0, 0), (76, .bipush 16, 2, 0, 0, 0), (78, .newarray .boolean, 2, 8, 0, 0), (80, .putfield 38, 3, 6, 16, 585), (83, .aload_n 0, 1, 0, 0, 0), (84, .bipush 16, 2, 0, 0, 0), (86, .newarray .boolean, 2, 8, 0, 0), (88, .putfield 42, 3, 6, 17, 586), (91, .aload_n 0, 1, 0, 0, 0), (92, .bipush 120, 2, 0, 0, 0), (94, .newarray .int, 2, 7, 0, 0), (96, .putfield 45, 3, 6, 18, 587), (99, .aload_n 0, 1, 0, 0, 0), (100, .bipush 120, 2, 0, 0, 0), (102, .newarray .int, 2, 7, 0, 0), (104, .putfield 48, 3, 6, 19, 588), (107, .aload_n 0, 1, 0, 0, 0), (108, .bipush 120, 2, 0, 0, 0), (110, .newarray .int, 2, 7, 0, 0), (112, .putfield 51, 3, 6, 20, 589), (115, .aload_n 0, 1, 0, 0, 0), (116, .bipush 120, 2, 0, 0, 0), (118, .newarray .int, 2, 7, 0, 0), (120, .putfield 54, 3, 6, 21, 590), (123, .aload_n 0, 1, 0, 0, 0), (124, .bipush 120, 2, 0, 0, 0), (126, .newarray .int, 2, 7, 0, 0), (128, .putfield 57, 3, 6, 22, 591), (131, .aload_n 0, 1, 0, 0, 0), (132, .bipush 120, 2, 0, 0, 0), (134, .newarray .int, 2, 7, 0, 0), (136, .putfield 60, 3, 6, 23, 592), (139, .aload_n 0, 1, 0, 0, 0), (140, .bipush 120, 2, 0, 0, 0), (142, .newarray .int, 2, 7, 0, 0), (144, .putfield 63, 3, 6, 24, 593), (147, .aload_n 0, 1, 0, 0, 0), (148, .bipush 120, 2, 0, 0, 0), (150, .newarray .int, 2, 7, 0, 0), (152, .putfield 66, 3, 6, 25, 594), (155, .aload_n 0, 1, 0, 0, 0), (156, .bipush 120, 2, 0, 0, 0), (158, .newarray .int, 2, 7, 0, 0), (160, .putfield 69, 3, 6, 26, 595), (163, .aload_n 0, 1, 0, 0, 0), (164, .bipush 120, 2, 0, 0, 0), (166, .newarray .boolean, 2, 8, 0, 0), (168, .putfield 72, 3, 6, 27, 596), (171, .aload_n 0, 1, 0, 0, 0), (172, .bipush 120, 2, 0, 0, 0), (174, .newarray .boolean, 2, 8, 0, 0), (176, .putfield 75, 3, 6, 28, 597), (179, .aload_n 0, 1, 0, 0, 0), (180, .sipush 160, 3, 0, 0, 0), (183, .newarray .int, 2, 7, 0, 0), (185, .putfield 78, 3, 6, 30, 599), (188, .aload_n 0, 1, 0, 0, 0), (189, .bipush 40, 2, 0, 0, 0), (191, .newarray .int, 2, 7, 0, 0), (193, .putfield 81, 3, 6, 31, 600), (196, .aload_n 0, 1, 0, 0, 0), (197, .bipush 40, 2, 0, 0, 0), (199, .newarray .boolean, 2, 8, 0, 0), (201, .putfield 84, 3, 6, 32, 601), (204, .aload_n 0, 1, 0, 0, 0), (205, .bipush 6, 2, 0, 0, 0), (207, .newarray .int, 2, 7, 0, 0), (209, .putfield 87, 3, 6, 33, 602), (212, .aload_n 0, 1, 0, 0, 0), (213, .bipush 6, 2, 0, 0, 0), (215, .newarray .int, 2, 7, 0, 0), (217, .putfield 90, 3, 6, 34, 603), (220, .aload_n 0, 1, 0, 0, 0), (221, .bipush 16, 2, 0, 0, 0), (223, .newarray .int, 2, 7, 0, 0), (225, .putfield 93, 3, 6, 35, 604), (228, .return_, 1, 0, 0, 0)]
def kX6_in : List am_E := [(0, .iload_n 0, 1, 0, 0, 0), (1, .iload_n 1, 1, 0, 0, 0), (2, .if_icmp .lt 12, 3, 14, 0, 0), (5, .iload_n 0, 1, 0, 0, 0), (6, .iload_n 2, 1, 0, 0, 0), (7, .if_icmp .gt 7, 3, 14, 0, 0), (10, .iconst 1, 1, 0, 0, 0), (11, .goto 4, 3, 15, 0, 0), (14, .iconst 0, 1, 0, 0, 0), (15, .ireturn, 1, 1, 0, 0)]
def kX6_gap : List am_E := [(0, .iload_n 0, 1, 0, 0, 0), (1, .iload_n 1, 1, 0, 0, 0), (2, .if_icmp .le 9, 3, 11, 0, 0), (5, .iload_n 0, 1, 0, 0, 0), (6, .iload_n 1, 1, 0, 0, 0), (7, .isub, 1, 0, 0, 0), (8, .goto 6, 3, 14, 0, 0), (11, .iload_n 1, 1, 0, 0, 0), (12, .iload_n 0, 1, 0, 0, 0), (13, .isub, 1, 0, 0, 0), (14, .ireturn, 1, 0, 0, 0)]
def kX6_isOpen : List am_E := [(0, .aload_n 0, 1, 0, 0, 0), (1, .getfield 96, 3, 6, 0, 569), (4, .sipush 1440, 3, 0, 0, 0), (7, .irem, 1, 0, 0, 0), (8, .aload_n 0, 1, 0, 0, 0), (9, .getfield 99, 3, 6, 1, 570), (12, .if_icmp .lt 22, 3, 34, 0, 0), (15, .aload_n 0, 1, 0, 0, 0), (16, .getfield 96, 3, 6, 0, 569), (19, .sipush 1440, 3, 0, 0, 0), (22, .irem, 1, 0, 0, 0), (23, .aload_n 0, 1, 0, 0, 0), (24, .getfield 7, 3, 6, 2, 571), (27, .if_icmp .ge 7, 3, 34, 0, 0), (30, .iconst 1, 1, 0, 0, 0), (31, .goto 4, 3, 35, 0, 0), (34, .iconst 0, 1, 0, 0, 0), (35, .ireturn, 1, 1, 0, 0)]
def kX6_hours : List am_E := [(0, .iload_n 1, 1, 0, 0, 0), (1, .iconst 0, 1, 0, 0, 0), (2, .sipush 1440, 3, 0, 0, 0), (5, .invokestatic 102, 3, 78, 3, 683), (8, .ifCond .eq 19, 3, 27, 0, 0), (11, .iload_n 2, 1, 0, 0, 0), (12, .iconst 0, 1, 0, 0, 0), (13, .sipush 1440, 3, 0, 0, 0), (16, .invokestatic 102, 3, 78, 3, 683), (19, .ifCond .eq 8, 3, 27, 0, 0), (22, .iload_n 1, 1, 0, 0, 0), (23, .iload_n 2, 1, 0, 0, 0), (24, .if_icmp .lt 5, 3, 29, 0, 0), (27, .iconst 0, 1, 0, 0, 0), (28, .ireturn, 1, 1, 0, 0), (29, .aload_n 0, 1, 0, 0, 0), (30, .iload_n 1, 1, 0, 0, 0), (31, .putfield 99, 3, 6, 1, 570), (34, .aload_n 0, 1, 0, 0, 0), (35, .iload_n 2, 1, 0, 0, 0), (36, .putfield 7, 3, 6, 2, 571), (39, .iconst 1, 1, 0, 0, 0), (40, .ireturn, 1, 1, 0, 0)]
def kX6_clock : List am_E := [(0, .iload_n 1, 1, 0, 0, 0), (1, .iconst 1, 1, 0, 0, 0), (2, .if_icmp .lt 14, 3, 16, 0, 0), (5, .iload_n 1, 1, 0, 0, 0), (6, .ldc 106, 2, 100000, 0, 690), (8, .aload_n 0, 1, 0, 0, 0), (9, .getfield 96, 3, 6, 0, 569), (12, .isub, 1, 0, 0, 0), (13, .if_icmp .le 5, 3, 18, 0, 0), (16, .iconst (-1), 1, 0, 0, 0), (17, .ireturn, 1, 0, 0, 0), (18, .aload_n 0, 1, 0, 0, 0), (19, .dup, 1, 0, 0, 0), (20, .getfield 96, 3, 6, 0, 569), (23, .iload_n 1, 1, 0, 0, 0), (24, .iadd, 1, 0, 0, 0), (25, .putfield 96, 3, 6, 0, 569), (28, .iconst 0, 1, 0, 0, 0), (29, .istore_n 2, 1, 0, 0, 0), (30, .iload_n 2, 1, 0, 0, 0), (31, .aload_n 0, 1, 0, 0, 0), (32, .getfield 107, 3, 6, 12, 581), (35, .if_icmp .ge 71, 3, 106, 0, 0), (38, .aload_n 0, 1, 0, 0, 0), (39, .getfield 60, 3, 6, 23, 592), (42, .iload_n 2, 1, 0, 0, 0), (43, .iaload, 1, 0, 0, 0), (44, .iconst 2, 1, 0, 0, 0), (45, .if_icmp .ne 55, 3, 100, 0, 0), (48, .aload_n 0, 1, 0, 0, 0), (49, .getfield 96, 3, 6, 0, 569), (52, .sipush 1440, 3, 0, 0, 0), (55, .idiv, 1, 0, 0, 0), (56, .aload_n 0, 1, 0, 0, 0), (57, .getfield 69, 3, 6, 26, 595), (60, .iload_n 2, 1, 0, 0, 0), (61, .iaload, 1, 0, 0, 0), (62, .isub, 1, 0, 0, 0), (63, .bipush 30, 2, 0, 0, 0), (65, .if_icmp .gt 6, 3, 71, 0, 0), (68, .goto 32, 3, 100, 0, 0), (71, .aload_n 0, 1, 0, 0, 0), (72, .getfield 60, 3, 6, 23, 592), (75, .iload_n 2, 1, 0, 0, 0), (76, .iconst 4, 1, 0, 0, 0), (77, .iastore, 1, 0, 0, 0), (78, .aload_n 0, 1, 0, 0, 0), (79, .dup, 1, 0, 0, 0), (80, .getfield 110, 3, 6, 3, 572), (83, .aload_n 0, 1, 0, 0, 0), (84, .getfield 66, 3, 6, 25, 594), (87, .iload_n 2, 1, 0, 0, 0), (88, .iaload, 1, 0, 0, 0), (89, .iadd, 1, 0, 0, 0), (90, .putfield 110, 3, 6, 3, 572), (93, .aload_n 0, 1, 0, 0, 0), (94, .getfield 66, 3, 6, 25, 594), (97, .iload_n 2, 1, 0, 0, 0), (98, .iconst 0, 1, 0, 0, 0), (99, .iastore, 1, 0, 0, 0), (100, .iinc 2 1, 3, 0, 0, 0), (103, .goto (-73), 3, 30, 0, 0), (106, .aload_n 0, 1, 0, 0, 0), (107, .getfield 96, 3, 6, 0, 569), (110, .ireturn, 1, 0, 0, 0)]
def kX6_prices : List am_E := [(0, .iload_n 1, 1, 0, 0, 0), (1, .ifCond .lt 80, 3, 81, 0, 0), (4, .aload_n 0, 1, 0, 0, 0), (5, .getfield 113, 3, 6, 5, 574), (8, .bipush 12, 2, 0, 0, 0), (10, .if_icmp .eq 71, 3, 81, 0, 0), (13, .aload_n 0, 1, 0, 0, 0), (14, .getfield 113, 3, 6, 5, 574), (17, .ifCond .le 18, 3, 35, 0, 0), (20, .iload_n 1, 1, 0, 0, 0), (21, .aload_n 0, 1, 0, 0, 0), (22, .getfield 13, 3, 6, 6, 575), (25, .aload_n 0, 1, 0, 0, 0), (26, .getfield 113, 3, 6, 5, 574), (29, .iconst 1, 1, 0, 0, 0), (30, .isub, 1, 0, 0, 0), (31, .iaload, 1, 0, 0, 0), (32, .if_icmp .le 49, 3, 81, 0, 0), (35, .iload_n 2, 1, 0, 0, 0), (36, .iconst 0, 1, 0, 0, 0), (37, .sipush 1000, 3, 0, 0, 0), (40, .invokestatic 102, 3, 78, 3, 683), (43, .ifCond .eq 38, 3, 81, 0, 0), (46, .iload_n 3, 1, 0, 0, 0), (47, .iconst 0, 1, 0, 0, 0), (48, .sipush 1000, 3, 0, 0, 0), (51, .invokestatic 102, 3, 78, 3, 683), (54, .ifCond .eq 27, 3, 81, 0, 0), (57, .iload 4, 2, 0, 0, 0), (59, .iconst 0, 1, 0, 0, 0), (60, .sipush 1000, 3, 0, 0, 0), (63, .invokestatic 102, 3, 78, 3, 683), (66, .ifCond .eq 15, 3, 81, 0, 0), (69, .iload 5, 2, 0, 0, 0), (71, .iconst 0, 1, 0, 0, 0), (72, .sipush 1000, 3, 0, 0, 0), (75, .invokestatic 102, 3, 78, 3, 683), (78, .ifCond .ne 5, 3, 83, 0, 0), (81, .iconst 0, 1, 0, 0, 0), (82, .ireturn, 1, 1, 0, 0), (83, .aload_n 0, 1, 0, 0, 0), (84, .getfield 13, 3, 6, 6, 575), (87, .aload_n 0, 1, 0, 0, 0), (88, .getfield 113, 3, 6, 5, 574), (91, .iload_n 1, 1, 0, 0, 0), (92, .iastore, 1, 0, 0, 0), (93, .aload_n 0, 1, 0, 0, 0), (94, .getfield 17, 3, 6, 7, 576), (97, .aload_n 0, 1, 0, 0, 0), (98, .getfield 113, 3, 6, 5, 574), (101, .iload_n 2, 1, 0, 0, 0), (102, .iastore, 1, 0, 0, 0), (103, .aload_n 0, 1, 0, 0, 0), (104, .getfield 20, 3, 6, 8, 577), (107, .aload_n 0, 1, 0, 0, 0), (108, .getfield 113, 3, 6, 5, 574), (111, .iload_n 3, 1, 0, 0, 0), (112, .iastore, 1, 0, 0, 0), (113, .aload_n 0, 1, 0, 0, 0), (114, .getfield 23, 3, 6, 9, 578), (117, .aload_n 0, 1, 0, 0, 0), (118, .getfield 113, 3, 6, 5, 574), (121, .iload 4, 2, 0, 0, 0), (123, .iastore, 1, 0, 0, 0), (124, .aload_n 0, 1, 0, 0, 0), (125, .getfield 26, 3, 6, 10, 579), (128, .aload_n 0, 1, 0, 0, 0), (129, .getfield 113, 3, 6, 5, 574), (132, .iload 5, 2, 0, 0, 0), (134, .iastore, 1, 0, 0, 0), (135, .aload_n 0, 1, 0, 0, 0), (136, .dup, 1, 0, 0, 0), (137, .getfield 113, 3, 6, 5, 574), (140, .iconst 1, 1, 0, 0, 0), (141, .iadd, 1, 0, 0, 0), (142, .putfield 113, 3, 6, 5, 574), (145, .iconst 1, 1, 0, 0, 0), (146, .ireturn, 1, 1, 0, 0)]
def kX6_rowOf : List am_E := [(0, .iconst (-1), 1, 0, 0, 0), (1, .istore_n 2, 1, 0, 0, 0), (2, .iconst 0, 1, 0, 0, 0), (3, .istore_n 3, 1, 0, 0, 0), (4, .iload_n 3, 1, 0, 0, 0), (5, .aload_n 0, 1, 0, 0, 0), (6, .getfield 113, 3, 6, 5, 574), (9, .if_icmp .ge 21, 3, 30, 0, 0), (12, .aload_n 0, 1, 0, 0, 0), (13, .getfield 13, 3, 6, 6, 575), (16, .iload_n 3, 1, 0, 0, 0), (17, .iaload, 1, 0, 0, 0), (18, .iload_n 1, 1, 0, 0, 0), (19, .if_icmp .gt 5, 3, 24, 0, 0), (22, .iload_n 3, 1, 0, 0, 0), (23, .istore_n 2, 1, 0, 0, 0), (24, .iinc 3 1, 3, 0, 0, 0), (27, .goto (-23), 3, 4, 0, 0), (30, .iload_n 2, 1, 0, 0, 0), (31, .ireturn, 1, 0, 0, 0)]
def kX6_shelf : List am_E := [(0, .iload_n 1, 1, 0, 0, 0), (1, .iconst 1, 1, 0, 0, 0), (2, .bipush 60, 2, 0, 0, 0), (4, .invokestatic 102, 3, 78, 3, 683), (7, .ifCond .eq 32, 3, 39, 0, 0), (10, .iload_n 2, 1, 0, 0, 0), (11, .iconst 0, 1, 0, 0, 0), (12, .iconst 2, 1, 0, 0, 0), (13, .invokestatic 102, 3, 78, 3, 683), (16, .ifCond .eq 23, 3, 39, 0, 0), (19, .iload 4, 2, 0, 0, 0), (21, .iconst 1, 1, 0, 0, 0), (22, .bipush 99, 2, 0, 0, 0), (24, .invokestatic 102, 3, 78, 3, 683), (27, .ifCond .eq 12, 3, 39, 0, 0), (30, .aload_n 0, 1, 0, 0, 0), (31, .getfield 116, 3, 6, 11, 580), (34, .bipush 16, 2, 0, 0, 0), (36, .if_icmp .ne 5, 3, 41, 0, 0), (39, .iconst (-1), 1, 0, 0, 0), (40, .ireturn, 1, 0, 0, 0), (41, .aload_n 0, 1, 0, 0, 0), (42, .getfield 29, 3, 6, 13, 582), (45, .aload_n 0, 1, 0, 0, 0), (46, .getfield 116, 3, 6, 11, 580), (49, .iload_n 1, 1, 0, 0, 0), (50, .iastore, 1, 0, 0, 0), (51, .aload_n 0, 1, 0, 0, 0), (52, .getfield 32, 3, 6, 14, 583), (55, .aload_n 0, 1, 0, 0, 0), (56, .getfield 116, 3, 6, 11, 580), (59, .iload_n 2, 1, 0, 0, 0), (60, .iastore, 1, 0, 0, 0), (61, .aload_n 0, 1, 0, 0, 0), (62, .getfield 38, 3, 6, 16, 585), (65, .aload_n 0, 1, 0, 0, 0), (66, .getfield 116, 3, 6, 11, 580), (69, .iload_n 3, 1, 0, 0, 0), (70, .bastore, 1, 0, 0, 0), (71, .aload_n 0, 1, 0, 0, 0), (72, .getfield 35, 3, 6, 15, 584), (75, .aload_n 0, 1, 0, 0, 0), (76, .getfield 116, 3, 6, 11, 580), (79, .iload 4, 2, 0, 0, 0), (81, .iastore, 1, 0, 0, 0), (82, .aload_n 0, 1, 0, 0, 0), (83, .dup, 1, 0, 0, 0), (84, .getfield 116, 3, 6, 11, 580), (87, .iconst 1, 1, 0, 0, 0), (88, .iadd, 1, 0, 0, 0), (89, .putfield 116, 3, 6, 11, 580), (92, .aload_n 0, 1, 0, 0, 0), (93, .getfield 116, 3, 6, 11, 580), (96, .iconst 1, 1, 0, 0, 0), (97, .isub, 1, 0, 0, 0), (98, .ireturn, 1, 0, 0, 0)]
def kX6_free : List am_E := [(0, .aload_n 0, 1, 0, 0, 0), (1, .getfield 29, 3, 6, 13, 582), (4, .iload_n 1, 1, 0, 0, 0), (5, .iaload, 1, 0, 0, 0), (6, .istore_n 2, 1, 0, 0, 0), (7, .iconst 0, 1, 0, 0, 0), (8, .istore_n 3, 1, 0, 0, 0), (9, .iload_n 3, 1, 0, 0, 0), (10, .aload_n 0, 1, 0, 0, 0), (11, .getfield 107, 3, 6, 12, 581), (14, .if_icmp .ge 37, 3, 51, 0, 0), (17, .aload_n 0, 1, 0, 0, 0), (18, .getfield 60, 3, 6, 23, 592), (21, .iload_n 3, 1, 0, 0, 0), (22, .iaload, 1, 0, 0, 0), (23, .ifCond .ne 22, 3, 45, 0, 0), (26, .aload_n 0, 1, 0, 0, 0), (27, .getfield 63, 3, 6, 24, 593), (30, .iload_n 3, 1, 0, 0, 0), (31, .iaload, 1, 0, 0, 0), (32, .iload_n 1, 1, 0, 0, 0), (33, .if_icmp .ne 12, 3, 45, 0, 0), (36, .iload_n 2, 1, 0, 0, 0), (37, .aload_n 0, 1, 0, 0, 0), (38, .getfield 45, 3, 6, 18, 587), (41, .iload_n 3, 1, 0, 0, 0), (42, .iaload, 1, 0, 0, 0), (43, .isub, 1, 0, 0, 0), (44, .istore_n 2, 1, 0, 0, 0), (45, .iinc 3 1, 3, 0, 0, 0), (48, .goto (-39), 3, 9, 0, 0), (51, .iload_n 2, 1, 0, 0, 0), (52, .ireturn, 1, 0, 0, 0)]
def kX6_suits : List am_E := [(0, .aload_n 0, 1, 0, 0, 0), (1, .getfield 42, 3, 6, 17, 586), (4, .iload_n 2, 1, 0, 0, 0), (5, .baload, 1, 0, 0, 0), (6, .ifCond .ne 37, 3, 43, 0, 0), (9, .aload_n 0, 1, 0, 0, 0), (10, .getfield 32, 3, 6, 14, 583), (13, .iload_n 2, 1, 0, 0, 0), (14, .iaload, 1, 0, 0, 0), (15, .aload_n 0, 1, 0, 0, 0), (16, .getfield 48, 3, 6, 19, 588), (19, .iload_n 1, 1, 0, 0, 0), (20, .iaload, 1, 0, 0, 0), (21, .if_icmp .lt 22, 3, 43, 0, 0), (24, .aload_n 0, 1, 0, 0, 0), (25, .getfield 38, 3, 6, 16, 585), (28, .iload_n 2, 1, 0, 0, 0), (29, .baload, 1, 0, 0, 0), (30, .aload_n 0, 1, 0, 0, 0), (31, .getfield 72, 3, 6, 27, 596), (34, .iload_n 1, 1, 0, 0, 0), (35, .baload, 1, 0, 0, 0), (36, .if_icmp .ne 7, 3, 43, 0, 0), (39, .iconst 1, 1, 0, 0, 0), (40, .goto 4, 3, 44, 0, 0), (43, .iconst 0, 1, 0, 0, 0), (44, .ireturn, 1, 1, 0, 0)]
def kX6_fits : List am_E := [(0, .aload_n 0, 1, 0, 0, 0), (1, .iload_n 1, 1, 0, 0, 0), (2, .iload_n 2, 1, 0, 0, 0), (3, .invokevirtual 119, 3, 87, 2, 712), (6, .ifCond .eq 21, 3, 27, 0, 0), (9, .aload_n 0, 1, 0, 0, 0), (10, .iload_n 2, 1, 0, 0, 0), (11, .invokevirtual 123, 3, 86, 1, 716), (14, .aload_n 0, 1, 0, 0, 0), (15, .getfield 45, 3, 6, 18, 587), (18, .iload_n 1, 1, 0, 0, 0), (19, .iaload, 1, 0, 0, 0), (20, .if_icmp .lt 7, 3, 27, 0, 0), (23, .iconst 1, 1, 0, 0, 0), (24, .goto 4, 3, 28, 0, 0), (27, .iconst 0, 1, 0, 0, 0), (28, .ireturn, 1, 1, 0, 0)]
def kX6_wanted : List am_E := [(0, .aload_n 0, 1, 0, 0, 0), (1, .getfield 54, 3, 6, 21, 590), (4, .iload_n 1, 1, 0, 0, 0), (5, .iaload, 1, 0, 0, 0), (6, .aload_n 0, 1, 0, 0, 0), (7, .getfield 96, 3, 6, 0, 569), (10, .if_icmp .le 20, 3, 30, 0, 0), (13, .aload_n 0, 1, 0, 0, 0), (14, .getfield 54, 3, 6, 21, 590), (17, .iload_n 1, 1, 0, 0, 0), (18, .iaload, 1, 0, 0, 0), (19, .aload_n 0, 1, 0, 0, 0), (20, .getfield 96, 3, 6, 0, 569), (23, .isub, 1, 0, 0, 0), (24, .bipush 60, 2, 0, 0, 0), (26, .idiv, 1, 0, 0, 0), (27, .goto 4, 3, 31, 0, 0), (30, .iconst 0, 1, 0, 0, 0), (31, .istore_n 2, 1, 0, 0, 0), (32, .iload_n 2, 1, 0, 0, 0), (33, .bipush 98, 2, 0, 0, 0), (35, .if_icmp .le 8, 3, 43, 0, 0), (38, .bipush 99, 2, 0, 0, 0), (40, .goto 6, 3, 46, 0, 0), (43, .iconst 1, 1, 0, 0, 0), (44, .iload_n 2, 1, 0, 0, 0), (45, .iadd, 1, 0, 0, 0), (46, .ireturn, 1, 0, 0, 0)]
def kX6_misfitOn : List am_E := [(0, .aload_n 0, 1, 0, 0, 0), (1, .getfield 35, 3, 6, 15, 584), (4, .iload_n 2, 1, 0, 0, 0), (5, .iaload, 1, 0, 0, 0), (6, .aload_n 0, 1, 0, 0, 0), (7, .iload_n 1, 1, 0, 0, 0), (8, .invokevirtual 127, 3, 89, 1, 724), (11, .invokestatic 130, 3, 79, 2, 728), (14, .ireturn, 1, 0, 0, 0)]
def kX6_ticketOf : List am_E := [(0, .bipush 100, 2, 0, 0, 0), (2, .iload_n 0, 1, 0, 0, 0), (3, .imul, 1, 0, 0, 0), (4, .bipush 37, 2, 0, 0, 0), (6, .iload_n 0, 1, 0, 0, 0), (7, .imul, 1, 0, 0, 0), (8, .bipush 11, 2, 0, 0, 0), (10, .iadd, 1, 0, 0, 0), (11, .bipush 97, 2, 0, 0, 0), (13, .irem, 1, 0, 0, 0), (14, .iadd, 1, 0, 0, 0), (15, .ireturn, 1, 0, 0, 0)]
def kX6_put : List am_E := [(0, .iload_n 1, 1, 0, 0, 0), (1, .iconst 1, 1, 0, 0, 0), (2, .bipush 20, 2, 0, 0, 0), (4, .invokestatic 102, 3, 78, 3, 683), (7, .ifCond .eq 34, 3, 41, 0, 0), (10, .iload_n 2, 1, 0, 0, 0), (11, .iconst 0, 1, 0, 0, 0), (12, .iconst 2, 1, 0, 0, 0), (13, .invokestatic 102, 3, 78, 3, 683), (16, .ifCond .eq 25, 3, 41, 0, 0), (19, .iload 5, 2, 0, 0, 0), (21, .iconst 0, 1, 0, 0, 0), (22, .ldc 134, 2, 65535, 0, 703), (24, .invokestatic 102, 3, 78, 3, 683), (27, .ifCond .eq 14, 3, 41, 0, 0), (30, .iload 6, 2, 0, 0, 0), (32, .iconst 0, 1, 0, 0, 0), (33, .ldc 106, 2, 100000, 0, 690), (35, .invokestatic 102, 3, 78, 3, 683), (38, .ifCond .ne 6, 3, 44, 0, 0), (41, .bipush (-2), 2, 0, 0, 0), (43, .ireturn, 1, 0, 0, 0), (44, .aload_n 0, 1, 0, 0, 0), (45, .invokevirtual 135, 3, 80, 0, 704), (48, .ifCond .ne 6, 3, 54, 0, 0), (51, .bipush (-3), 2, 0, 0, 0), (53, .ireturn, 1, 0, 0, 0), (54, .aload_n 0, 1, 0, 0, 0), (55, .getfield 107, 3, 6, 12, 581), (58, .bipush 120, 2, 0, 0, 0), (60, .if_icmp .ne 6, 3, 66, 0, 0), (63, .bipush (-4), 2, 0, 0, 0), (65, .ireturn, 1, 0, 0, 0), (66, .aload_n 0, 1, 0, 0, 0), (67, .getfield 107, 3, 6, 12, 581), (70, .istore 7, 2, 0, 0, 0), (72, .aload_n 0, 1, 0, 0, 0), (73, .getfield 45, 3, 6, 18, 587), (76, .iload 7, 2, 0, 0, 0), (78, .iload_n 1, 1, 0, 0, 0), (79, .iastore, 1, 0, 0, 0), (80, .aload_n 0, 1, 0, 0, 0), (81, .getfield 48, 3, 6, 19, 588), (84, .iload 7, 2, 0, 0, 0), (86, .iload_n 2, 1, 0, 0, 0), (87, .iastore, 1, 0, 0, 0), (88, .aload_n 0, 1, 0, 0, 0), (89, .getfield 72, 3, 6, 27, 596), (92, .iload 7, 2, 0, 0, 0), (94, .iload_n 3, 1, 0, 0, 0), (95, .bastore, 1, 0, 0, 0), (96, .aload_n 0, 1, 0, 0, 0), (97, .getfield 75, 3, 6, 28, 597), (100, .iload 7, 2, 0, 0, 0), (102, .iload 4, 2, 0, 0, 0), (104, .bastore, 1, 0, 0, 0), (105, .aload_n 0, 1, 0, 0, 0), (106, .getfield 51, 3, 6, 20, 589), (109, .iload 7, 2, 0, 0, 0), (111, .iload 5, 2, 0, 0, 0), (113, .iastore, 1, 0, 0, 0), (114, .aload_n 0, 1, 0, 0, 0), (115, .getfield 54, 3, 6, 21, 590), (118, .iload 7, 2, 0, 0, 0), (120, .iload 6, 2, 0, 0, 0), (122, .iastore, 1, 0, 0, 0), (123, .iconst (-1), 1, 0, 0, 0), (124, .istore 8, 2, 0, 0, 0), (126, .iconst 0, 1, 0, 0, 0), (127, .istore 9, 2, 0, 0, 0), (129, .iload 9, 2, 0, 0, 0), (131, .aload_n 0, 1, 0, 0, 0), (132, .getfield 116, 3, 6, 11, 580), (135, .if_icmp .ge 87, 3, 222, 0, 0), (138, .aload_n 0, 1, 0, 0, 0), (139, .iload 7, 2, 0, 0, 0), (141, .iload 9, 2, 0, 0, 0), (143, .invokevirtual 139, 3, 88, 2, 708), (146, .ifCond .ne 6, 3, 152, 0, 0), (149, .goto 67, 3, 216, 0, 0), (152, .iload 8, 2, 0, 0, 0), (154, .ifCond .lt 58, 3, 212, 0, 0), (157, .aload_n 0, 1, 0, 0, 0), (158, .iload 7, 2, 0, 0, 0), (160, .iload 9, 2, 0, 0, 0), (162, .invokevirtual 142, 3, 90, 2, 720), (165, .aload_n 0, 1, 0, 0, 0), (166, .iload 7, 2, 0, 0, 0), (168, .iload 8, 2, 0, 0, 0), (170, .invokevirtual 142, 3, 90, 2, 720), (173, .if_icmp .lt 39, 3, 212, 0, 0), (176, .aload_n 0, 1, 0, 0, 0), (177, .iload 7, 2, 0, 0, 0), (179, .iload 9, 2, 0, 0, 0), (181, .invokevirtual 142, 3, 90, 2, 720), (184, .aload_n 0, 1, 0, 0, 0), (185, .iload 7, 2, 0, 0, 0), (187, .iload 8, 2, 0, 0, 0), (189, .invokevirtual 142, 3, 90, 2, 720), (192, .if_icmp .ne 24, 3, 216, 0, 0), (195, .aload_n 0, 1, 0, 0, 0), (196, .getfield 35, 3, 6, 15, 584), (199, .iload 9, 2, 0, 0, 0), (201, .iaload, 1, 0, 0, 0), (202, .aload_n 0, 1, 0, 0, 0), (203, .getfield 35, 3, 6, 15, 584), (206, .iload 8, 2, 0, 0, 0), (208, .iaload, 1, 0, 0, 0), (209, .if_icmp .ge 7, 3, 216, 0, 0), (212, .iload 9, 2, 0, 0, 0), (214, .istore 8, 2, 0, 0, 0), (216, .iinc 9 1, 3, 0, 0, 0), (219, .goto (-90), 3, 129, 0, 0), (222, .iload 8, 2, 0, 0, 0), (224, .ifCond .ge 6, 3, 230, 0, 0), (227, .bipush (-5), 2, 0, 0, 0), (229, .ireturn, 1, 0, 0, 0), (230, .aload_n 0, 1, 0, 0, 0), (231, .getfield 57, 3, 6, 22, 591), (234, .iload 7, 2, 0, 0, 0), (236, .aload_n 0, 1, 0, 0, 0), (237, .getfield 96, 3, 6, 0, 569), (240, .iastore, 1, 0, 0, 0), (241, .aload_n 0, 1, 0, 0, 0), (242, .getfield 60, 3, 6, 23, 592), (245, .iload 7, 2, 0, 0, 0), (247, .iconst 0, 1, 0, 0, 0), (248, .iastore, 1, 0, 0, 0), (249, .aload_n 0, 1, 0, 0, 0), (250, .getfield 63, 3, 6, 24, 593), (253, .iload 7, 2, 0, 0, 0), (255, .iload 8, 2, 0, 0, 0), (257, .iastore, 1, 0, 0, 0), (258, .aload_n 0, 1, 0, 0, 0), (259, .getfield 66, 3, 6, 25, 594), (262, .iload 7, 2, 0, 0, 0), (264, .iconst 0, 1, 0, 0, 0), (265, .iastore, 1, 0, 0, 0), (266, .aload_n 0, 1, 0, 0, 0), (267, .getfield 69, 3, 6, 26, 595), (270, .iload 7, 2, 0, 0, 0), (272, .iconst (-1), 1, 0, 0, 0), (273, .iastore, 1, 0, 0, 0), (274, .aload_n 0, 1, 0, 0, 0), (275, .dup, 1, 0, 0, 0), (276, .getfield 107, 3, 6, 12, 581), (279, .iconst 1, 1, 0, 0, 0), (280, .iadd, 1, 0, 0, 0), (281, .putfield 107, 3, 6, 12, 581), (284, .aload_n 0, 1, 0, 0, 0), (285, .dup, 1, 0, 0, 0), (286, .getfield 145, 3, 6, 4, 573), (289, .iconst 2, 1, 0, 0, 0), (290, .aload_n 0, 1, 0, 0, 0), (291, .getfield 35, 3, 6, 15, 584), (294, .iload 8, 2, 0, 0, 0), (296, .iaload, 1, 0, 0, 0), (297, .imul, 1, 0, 0, 0), (298, .iadd, 1, 0, 0, 0), (299, .putfield 145, 3, 6, 4, 573), (302, .iload 7, 2, 0, 0, 0), (304, .invokestatic 148, 3, 91, 1, 731), (307, .ireturn, 1, 0, 0, 0)]
def kX6_feeOf : List am_E := [(0, .aload_n 0, 1, 0, 0, 0), (1, .getfield 57, 3, 6, 22, 591), (4, .iload_n 1, 1, 0, 0, 0), (5, .iaload, 1, 0, 0, 0), (6, .sipush 1440, 3, 0, 0, 0), (9, .idiv, 1, 0, 0, 0), (10, .istore_n 2, 1, 0, 0, 0), (11, .aload_n 0, 1, 0, 0, 0), (12, .getfield 69, 3, 6, 26, 595), (15, .iload_n 1, 1, 0, 0, 0), (16, .iaload, 1, 0, 0, 0), (17, .ifCond .lt 12, 3, 29, 0, 0), (20, .aload_n 0, 1, 0, 0, 0), (21, .getfield 69, 3, 6, 26, 595), (24, .iload_n 1, 1, 0, 0, 0), (25, .iaload, 1, 0, 0, 0), (26, .goto 11, 3, 37, 0, 0), (29, .aload_n 0, 1, 0, 0, 0), (30, .getfield 96, 3, 6, 0, 569), (33, .sipush 1440, 3, 0, 0, 0), (36, .idiv, 1, 0, 0, 0), (37, .istore_n 3, 1, 0, 0, 0), (38, .aload_n 0, 1, 0, 0, 0), (39, .iload_n 2, 1, 0, 0, 0), (40, .invokevirtual 151, 3, 84, 1, 746), (43, .ifCond .ge 7, 3, 50, 0, 0), (46, .iconst 0, 1, 0, 0, 0), (47, .goto 13, 3, 60, 0, 0), (50, .aload_n 0, 1, 0, 0, 0), (51, .getfield 17, 3, 6, 7, 576), (54, .aload_n 0, 1, 0, 0, 0), (55, .iload_n 2, 1, 0, 0, 0), (56, .invokevirtual 151, 3, 84, 1, 746), (59, .iaload, 1, 0, 0, 0), (60, .istore 4, 2, 0, 0, 0), (62, .iload_n 2, 1, 0, 0, 0), (63, .istore 5, 2, 0, 0, 0), (65, .iload 5, 2, 0, 0, 0), (67, .iload_n 3, 1, 0, 0, 0), (68, .if_icmp .gt 99, 3, 167, 0, 0), (71, .aload_n 0, 1, 0, 0, 0), (72, .iload 5, 2, 0, 0, 0), (74, .invokevirtual 151, 3, 84, 1, 746), (77, .istore 6, 2, 0, 0, 0), (79, .iload 6, 2, 0, 0, 0), (81, .ifCond .ge 6, 3, 87, 0, 0), (84, .goto 77, 3, 161, 0, 0), (87, .aload_n 0, 1, 0, 0, 0), (88, .getfield 20, 3, 6, 8, 577), (91, .iload 6, 2, 0, 0, 0), (93, .iaload, 1, 0, 0, 0), (94, .aload_n 0, 1, 0, 0, 0), (95, .getfield 23, 3, 6, 9, 578), (98, .iload 6, 2, 0, 0, 0), (100, .iaload, 1, 0, 0, 0), (101, .aload_n 0, 1, 0, 0, 0), (102, .getfield 45, 3, 6, 18, 587), (105, .iload_n 1, 1, 0, 0, 0), (106, .iaload, 1, 0, 0, 0), (107, .imul, 1, 0, 0, 0), (108, .iadd, 1, 0, 0, 0), (109, .aload_n 0, 1, 0, 0, 0), (110, .getfield 72, 3, 6, 27, 596), (113, .iload_n 1, 1, 0, 0, 0), (114, .baload, 1, 0, 0, 0), (115, .ifCond .eq 13, 3, 128, 0, 0), (118, .aload_n 0, 1, 0, 0, 0), (119, .getfield 26, 3, 6, 10, 579), (122, .iload 6, 2, 0, 0, 0), (124, .iaload, 1, 0, 0, 0), (125, .goto 4, 3, 129, 0, 0), (128, .iconst 0, 1, 0, 0, 0), (129, .iadd, 1, 0, 0, 0), (130, .istore 7, 2, 0, 0, 0), (132, .iload 4, 2, 0, 0, 0), (134, .iload 5, 2, 0, 0, 0), (136, .aload_n 0, 1, 0, 0, 0), (137, .getfield 54, 3, 6, 21, 590), (140, .iload_n 1, 1, 0, 0, 0), (141, .iaload, 1, 0, 0, 0), (142, .sipush 1440, 3, 0, 0, 0), (145, .idiv, 1, 0, 0, 0), (146, .if_icmp .le 10, 3, 156, 0, 0), (149, .iconst 2, 1, 0, 0, 0), (150, .iload 7, 2, 0, 0, 0), (152, .imul, 1, 0, 0, 0), (153, .goto 5, 3, 158, 0, 0), (156, .iload 7, 2, 0, 0, 0), (158, .iadd, 1, 0, 0, 0), (159, .istore 4, 2, 0, 0, 0), (161, .iinc 5 1, 3, 0, 0, 0), (164, .goto (-99), 3, 65, 0, 0), (167, .iload 4, 2, 0, 0, 0), (169, .ireturn, 1, 0, 0, 0)]
def kX6_thingOf : List am_E := [(0, .iload_n 1, 1, 0, 0, 0), (1, .ifCond .lt 23, 3, 24, 0, 0), (4, .iload_n 1, 1, 0, 0, 0), (5, .bipush 100, 2, 0, 0, 0), (7, .irem, 1, 0, 0, 0), (8, .bipush 37, 2, 0, 0, 0), (10, .iload_n 1, 1, 0, 0, 0), (11, .bipush 100, 2, 0, 0, 0), (13, .idiv, 1, 0, 0, 0), (14, .imul, 1, 0, 0, 0), (15, .bipush 11, 2, 0, 0, 0), (17, .iadd, 1, 0, 0, 0), (18, .bipush 97, 2, 0, 0, 0), (20, .irem, 1, 0, 0, 0), (21, .if_icmp .eq 6, 3, 27, 0, 0), (24, .bipush (-2), 2, 0, 0, 0), (26, .ireturn, 1, 0, 0, 0), (27, .iload_n 1, 1, 0, 0, 0), (28, .bipush 100, 2, 0, 0, 0), (30, .idiv, 1, 0, 0, 0), (31, .aload_n 0, 1, 0, 0, 0), (32, .getfield 107, 3, 6, 12, 581), (35, .if_icmp .ge 10, 3, 45, 0, 0), (38, .iload_n 1, 1, 0, 0, 0), (39, .bipush 100, 2, 0, 0, 0), (41, .idiv, 1, 0, 0, 0), (42, .goto 5, 3, 47, 0, 0), (45, .bipush (-3), 2, 0, 0, 0), (47, .ireturn, 1, 0, 0, 0)]
def kX6_fee : List am_E := [(0, .aload_n 0, 1, 0, 0, 0), (1, .iload_n 1, 1, 0, 0, 0), (2, .invokevirtual 154, 3, 94, 1, 738), (5, .istore_n 2, 1, 0, 0, 0), (6, .iload_n 2, 1, 0, 0, 0), (7, .ifCond .ge 5, 3, 12, 0, 0), (10, .iload_n 2, 1, 0, 0, 0), (11, .ireturn, 1, 0, 0, 0), (12, .aload_n 0, 1, 0, 0, 0), (13, .getfield 60, 3, 6, 23, 592), (16, .iload_n 2, 1, 0, 0, 0), (17, .iaload, 1, 0, 0, 0), (18, .ifCond .eq 13, 3, 31, 0, 0), (21, .aload_n 0, 1, 0, 0, 0), (22, .getfield 60, 3, 6, 23, 592), (25, .iload_n 2, 1, 0, 0, 0), (26, .iaload, 1, 0, 0, 0), (27, .iconst 2, 1, 0, 0, 0), (28, .if_icmp .ne 11, 3, 39, 0, 0), (31, .aload_n 0, 1, 0, 0, 0), (32, .iload_n 2, 1, 0, 0, 0), (33, .invokevirtual 157, 3, 93, 1, 742), (36, .goto 5, 3, 41, 0, 0), (39, .bipush (-4), 2, 0, 0, 0), (41, .ireturn, 1, 0, 0, 0)]
def kX6_leaves : List am_E := [(0, .aload_n 0, 1, 0, 0, 0), (1, .dup, 1, 0, 0, 0), (2, .getfield 145, 3, 6, 4, 573), (5, .iconst 2, 1, 0, 0, 0), (6, .aload_n 0, 1, 0, 0, 0), (7, .getfield 35, 3, 6, 15, 584), (10, .aload_n 0, 1, 0, 0, 0), (11, .getfield 63, 3, 6, 24, 593), (14, .iload_n 1, 1, 0, 0, 0), (15, .iaload, 1, 0, 0, 0), (16, .iaload, 1, 0, 0, 0), (17, .imul, 1, 0, 0, 0), (18, .iadd, 1, 0, 0, 0), (19, .putfield 145, 3, 6, 4, 573), (22, .aload_n 0, 1, 0, 0, 0), (23, .getfield 60, 3, 6, 23, 592), (26, .iload_n 1, 1, 0, 0, 0), (27, .iload_n 2, 1, 0, 0, 0), (28, .iastore, 1, 0, 0, 0), (29, .return_, 1, 0, 0, 0)]
def kX6_give : List am_E := [(0, .aload_n 0, 1, 0, 0, 0), (1, .iload_n 1, 1, 0, 0, 0), (2, .invokevirtual 160, 3, 95, 1, 754), (5, .istore_n 2, 1, 0, 0, 0), (6, .iload_n 2, 1, 0, 0, 0), (7, .ifCond .ge 5, 3, 12, 0, 0), (10, .iload_n 2, 1, 0, 0, 0), (11, .ireturn, 1, 0, 0, 0), (12, .aload_n 0, 1, 0, 0, 0), (13, .iload_n 1, 1, 0, 0, 0), (14, .invokevirtual 154, 3, 94, 1, 738), (17, .istore_n 3, 1, 0, 0, 0), (18, .aload_n 0, 1, 0, 0, 0), (19, .getfield 60, 3, 6, 23, 592), (22, .iload_n 3, 1, 0, 0, 0), (23, .iaload, 1, 0, 0, 0), (24, .iconst 2, 1, 0, 0, 0), (25, .if_icmp .ne 6, 3, 31, 0, 0), (28, .bipush (-5), 2, 0, 0, 0), (30, .ireturn, 1, 0, 0, 0), (31, .aload_n 0, 1, 0, 0, 0), (32, .invokevirtual 135, 3, 80, 0, 704), (35, .ifCond .ne 6, 3, 41, 0, 0), (38, .bipush (-6), 2, 0, 0, 0), (40, .ireturn, 1, 0, 0, 0), (41, .aload_n 0, 1, 0, 0, 0), (42, .getfield 42, 3, 6, 17, 586), (45, .aload_n 0, 1, 0, 0, 0), (46, .getfield 63, 3, 6, 24, 593), (49, .iload_n 3, 1, 0, 0, 0), (50, .iaload, 1, 0, 0, 0), (51, .baload, 1, 0, 0, 0), (52, .ifCond .eq 6, 3, 58, 0, 0), (55, .bipush (-7), 2, 0, 0, 0), (57, .ireturn, 1, 0, 0, 0), (58, .aload_n 0, 1, 0, 0, 0), (59, .dup, 1, 0, 0, 0), (60, .getfield 110, 3, 6, 3, 572), (63, .iload_n 2, 1, 0, 0, 0), (64, .iadd, 1, 0, 0, 0), (65, .putfield 110, 3, 6, 3, 572), (68, .aload_n 0, 1, 0, 0, 0), (69, .iload_n 3, 1, 0, 0, 0), (70, .iconst 1, 1, 0, 0, 0), (71, .invokevirtual 163, 3, 96, 2, 755), (74, .iload_n 2, 1, 0, 0, 0), (75, .ireturn, 1, 0, 0, 0)]
def kX6_claim : List am_E := [(0, .aload_n 0, 1, 0, 0, 0), (1, .getfield 167, 3, 6, 29, 598), (4, .bipush 40, 2, 0, 0, 0), (6, .if_icmp .ne 5, 3, 11, 0, 0), (9, .iconst (-1), 1, 0, 0, 0), (10, .ireturn, 1, 0, 0, 0), (11, .iconst 0, 1, 0, 0, 0), (12, .istore_n 1, 1, 0, 0, 0), (13, .iload_n 1, 1, 0, 0, 0), (14, .iconst 4, 1, 0, 0, 0), (15, .if_icmp .ge 23, 3, 38, 0, 0), (18, .aload_n 0, 1, 0, 0, 0), (19, .getfield 78, 3, 6, 30, 599), (22, .iconst 4, 1, 0, 0, 0), (23, .aload_n 0, 1, 0, 0, 0), (24, .getfield 167, 3, 6, 29, 598), (27, .imul, 1, 0, 0, 0), (28, .iload_n 1, 1, 0, 0, 0), (29, .iadd, 1, 0, 0, 0), (30, .iconst (-1), 1, 0, 0, 0), (31, .iastore, 1, 0, 0, 0), (32, .iinc 1 1, 3, 0, 0, 0), (35, .goto (-22), 3, 13, 0, 0), (38, .aload_n 0, 1, 0, 0, 0), (39, .getfield 81, 3, 6, 31, 600), (42, .aload_n 0, 1, 0, 0, 0), (43, .getfield 167, 3, 6, 29, 598), (46, .iconst (-1), 1, 0, 0, 0), (47, .iastore, 1, 0, 0, 0), (48, .aload_n 0, 1, 0, 0, 0), (49, .dup, 1, 0, 0, 0), (50, .getfield 167, 3, 6, 29, 598), (53, .iconst 1, 1, 0, 0, 0), (54, .iadd, 1, 0, 0, 0), (55, .putfield 167, 3, 6, 29, 598), (58, .aload_n 0, 1, 0, 0, 0), (59, .getfield 167, 3, 6, 29, 598), (62, .iconst 1, 1, 0, 0, 0), (63, .isub, 1, 0, 0, 0), (64, .ireturn, 1, 0, 0, 0)]
def kX6_isClaim : List am_E := [(0, .iload_n 1, 1, 0, 0, 0), (1, .iconst 0, 1, 0, 0, 0), (2, .aload_n 0, 1, 0, 0, 0), (3, .getfield 167, 3, 6, 29, 598), (6, .iconst 1, 1, 0, 0, 0), (7, .isub, 1, 0, 0, 0), (8, .invokestatic 102, 3, 78, 3, 683), (11, .ireturn, 1, 1, 0, 0)]
def kX6_markOf : List am_E := [(0, .iload_n 0, 1, 0, 0, 0), (1, .iconst 4, 1, 0, 0, 0), (2, .iload_n 1, 1, 0, 0, 0), (3, .imul, 1, 0, 0, 0), (4, .ishr, 1, 0, 0, 0), (5, .bipush 15, 2, 0, 0, 0), (7, .iand, 1, 0, 0, 0), (8, .ireturn, 1, 0, 0, 0)]
def kX6_isMeant : List am_E := [(0, .aload_n 0, 1, 0, 0, 0), (1, .getfield 60, 3, 6, 23, 592), (4, .iload_n 2, 1, 0, 0, 0), (5, .iaload, 1, 0, 0, 0), (6, .ifCond .eq 5, 3, 11, 0, 0), (9, .iconst 0, 1, 0, 0, 0), (10, .ireturn, 1, 1, 0, 0), (11, .iconst 0, 1, 0, 0, 0), (12, .istore_n 3, 1, 0, 0, 0), (13, .iload_n 3, 1, 0, 0, 0), (14, .iconst 4, 1, 0, 0, 0), (15, .if_icmp .ge 47, 3, 62, 0, 0), (18, .aload_n 0, 1, 0, 0, 0), (19, .getfield 78, 3, 6, 30, 599), (22, .iconst 4, 1, 0, 0, 0), (23, .iload_n 1, 1, 0, 0, 0), (24, .imul, 1, 0, 0, 0), (25, .iload_n 3, 1, 0, 0, 0), (26, .iadd, 1, 0, 0, 0), (27, .iaload, 1, 0, 0, 0), (28, .ifCond .lt 28, 3, 56, 0, 0), (31, .aload_n 0, 1, 0, 0, 0), (32, .getfield 78, 3, 6, 30, 599), (35, .iconst 4, 1, 0, 0, 0), (36, .iload_n 1, 1, 0, 0, 0), (37, .imul, 1, 0, 0, 0), (38, .iload_n 3, 1, 0, 0, 0), (39, .iadd, 1, 0, 0, 0), (40, .iaload, 1, 0, 0, 0), (41, .aload_n 0, 1, 0, 0, 0), (42, .getfield 51, 3, 6, 20, 589), (45, .iload_n 2, 1, 0, 0, 0), (46, .iaload, 1, 0, 0, 0), (47, .iload_n 3, 1, 0, 0, 0), (48, .invokestatic 170, 3, 100, 2, 775), (51, .if_icmp .eq 5, 3, 56, 0, 0), (54, .iconst 0, 1, 0, 0, 0), (55, .ireturn, 1, 1, 0, 0), (56, .iinc 3 1, 3, 0, 0, 0), (59, .goto (-46), 3, 13, 0, 0), (62, .iconst 1, 1, 0, 0, 0), (63, .ireturn, 1, 1, 0, 0)]
def kX6_meant : List am_E := [(0, .iconst (-1), 1, 0, 0, 0), (1, .istore_n 2, 1, 0, 0, 0), (2, .iconst 0, 1, 0, 0, 0), (3, .istore_n 3, 1, 0, 0, 0), (4, .iload_n 3, 1, 0, 0, 0), (5, .aload_n 0, 1, 0, 0, 0), (6, .getfield 107, 3, 6, 12, 581), (9, .if_icmp .ge 20, 3, 29, 0, 0), (12, .aload_n 0, 1, 0, 0, 0), (13, .iload_n 1, 1, 0, 0, 0), (14, .iload_n 3, 1, 0, 0, 0), (15, .invokevirtual 173, 3, 101, 2, 771), (18, .ifCond .eq 5, 3, 23, 0, 0), (21, .iload_n 3, 1, 0, 0, 0), (22, .istore_n 2, 1, 0, 0, 0), (23, .iinc 3 1, 3, 0, 0, 0), (26, .goto (-22), 3, 4, 0, 0), (29, .iload_n 2, 1, 0, 0, 0), (30, .ireturn, 1, 0, 0, 0)]
def kX6_manyTold : List am_E := [(0, .iconst 0, 1, 0, 0, 0), (1, .istore_n 2, 1, 0, 0, 0), (2, .iconst 0, 1, 0, 0, 0), (3, .istore_n 3, 1, 0, 0, 0), (4, .iload_n 3, 1, 0, 0, 0), (5, .iconst 4, 1, 0, 0, 0), (6, .if_icmp .ge 30, 3, 36, 0, 0), (9, .iload_n 2, 1, 0, 0, 0), (10, .aload_n 0, 1, 0, 0, 0), (11, .getfield 78, 3, 6, 30, 599), (14, .iconst 4, 1, 0, 0, 0), (15, .iload_n 1, 1, 0, 0, 0), (16, .imul, 1, 0, 0, 0), (17, .iload_n 3, 1, 0, 0, 0), (18, .iadd, 1, 0, 0, 0), (19, .iaload, 1, 0, 0, 0), (20, .ifCond .lt 7, 3, 27, 0, 0), (23, .iconst 1, 1, 0, 0, 0), (24, .goto 4, 3, 28, 0, 0), (27, .iconst 0, 1, 0, 0, 0), (28, .iadd, 1, 0, 0, 0), (29, .istore_n 2, 1, 0, 0, 0), (30, .iinc 3 1, 3, 0, 0, 0), (33, .goto (-29), 3, 4, 0, 0), (36, .iload_n 2, 1, 0, 0, 0), (37, .ireturn, 1, 0, 0, 0)]
def kX6_means : List am_E := [(0, .aload_n 0, 1, 0, 0, 0), (1, .iload_n 1, 1, 0, 0, 0), (2, .invokevirtual 176, 3, 99, 1, 767), (5, .ifCond .ne 5, 3, 10, 0, 0), (8, .iconst (-1), 1, 0, 0, 0), (9, .ireturn, 1, 0, 0, 0), (10, .iconst 0, 1, 0, 0, 0), (11, .istore_n 2, 1, 0, 0, 0), (12, .iconst 0, 1, 0, 0, 0), (13, .istore_n 3, 1, 0, 0, 0), (14, .iload_n 3, 1, 0, 0, 0), (15, .aload_n 0, 1, 0, 0, 0), (16, .getfield 107, 3, 6, 12, 581), (19, .if_icmp .ge 26, 3, 45, 0, 0), (22, .iload_n 2, 1, 0, 0, 0), (23, .aload_n 0, 1, 0, 0, 0), (24, .iload_n 1, 1, 0, 0, 0), (25, .iload_n 3, 1, 0, 0, 0), (26, .invokevirtual 173, 3, 101, 2, 771), (29, .ifCond .eq 7, 3, 36, 0, 0), (32, .iconst 1, 1, 0, 0, 0), (33, .goto 4, 3, 37, 0, 0), (36, .iconst 0, 1, 0, 0, 0), (37, .iadd, 1, 0, 0, 0), (38, .istore_n 2, 1, 0, 0, 0), (39, .iinc 3 1, 3, 0, 0, 0), (42, .goto (-28), 3, 14, 0, 0), (45, .iload_n 2, 1, 0, 0, 0), (46, .ireturn, 1, 0, 0, 0)]
def kX6_mark : List am_E := [(0, .aload_n 0, 1, 0, 0, 0), (1, .iload_n 1, 1, 0, 0, 0), (2, .invokevirtual 176, 3, 99, 1, 767), (5, .ifCond .eq 31, 3, 36, 0, 0), (8, .aload_n 0, 1, 0, 0, 0), (9, .getfield 84, 3, 6, 32, 601), (12, .iload_n 1, 1, 0, 0, 0), (13, .baload, 1, 0, 0, 0), (14, .ifCond .ne 22, 3, 36, 0, 0), (17, .iload_n 2, 1, 0, 0, 0), (18, .iconst 0, 1, 0, 0, 0), (19, .iconst 3, 1, 0, 0, 0), (20, .invokestatic 102, 3, 78, 3, 683), (23, .ifCond .eq 13, 3, 36, 0, 0), (26, .iload_n 3, 1, 0, 0, 0), (27, .iconst (-1), 1, 0, 0, 0), (28, .bipush 15, 2, 0, 0, 0), (30, .invokestatic 102, 3, 78, 3, 683), (33, .ifCond .ne 5, 3, 38, 0, 0), (36, .iconst (-1), 1, 0, 0, 0), (37, .ireturn, 1, 0, 0, 0), (38, .aload_n 0, 1, 0, 0, 0), (39, .getfield 78, 3, 6, 30, 599), (42, .iconst 4, 1, 0, 0, 0), (43, .iload_n 1, 1, 0, 0, 0), (44, .imul, 1, 0, 0, 0), (45, .iload_n 2, 1, 0, 0, 0), (46, .iadd, 1, 0, 0, 0), (47, .iload_n 3, 1, 0, 0, 0), (48, .iastore, 1, 0, 0, 0), (49, .aload_n 0, 1, 0, 0, 0), (50, .iload_n 1, 1, 0, 0, 0), (51, .invokevirtual 180, 3, 104, 1, 782), (54, .ireturn, 1, 0, 0, 0)]
def kX6_ask : List am_E := [(0, .aload_n 0, 1, 0, 0, 0), (1, .iload_n 1, 1, 0, 0, 0), (2, .invokevirtual 176, 3, 99, 1, 767), (5, .ifCond .eq 21, 3, 26, 0, 0), (8, .aload_n 0, 1, 0, 0, 0), (9, .getfield 84, 3, 6, 32, 601), (12, .iload_n 1, 1, 0, 0, 0), (13, .baload, 1, 0, 0, 0), (14, .ifCond .ne 12, 3, 26, 0, 0), (17, .aload_n 0, 1, 0, 0, 0), (18, .iload_n 1, 1, 0, 0, 0), (19, .invokevirtual 180, 3, 104, 1, 782), (22, .iconst 2, 1, 0, 0, 0), (23, .if_icmp .ge 5, 3, 28, 0, 0), (26, .iconst (-1), 1, 0, 0, 0), (27, .ireturn, 1, 0, 0, 0), (28, .iconst (-1), 1, 0, 0, 0), (29, .istore_n 2, 1, 0, 0, 0), (30, .iconst 0, 1, 0, 0, 0), (31, .istore_n 3, 1, 0, 0, 0), (32, .iconst 0, 1, 0, 0, 0), (33, .istore 4, 2, 0, 0, 0), (35, .iload 4, 2, 0, 0, 0), (37, .iconst 4, 1, 0, 0, 0), (38, .if_icmp .ge 138, 3, 176, 0, 0), (41, .aload_n 0, 1, 0, 0, 0), (42, .getfield 78, 3, 6, 30, 599), (45, .iconst 4, 1, 0, 0, 0), (46, .iload_n 1, 1, 0, 0, 0), (47, .imul, 1, 0, 0, 0), (48, .iload 4, 2, 0, 0, 0), (50, .iadd, 1, 0, 0, 0), (51, .iaload, 1, 0, 0, 0), (52, .ifCond .lt 6, 3, 58, 0, 0), (55, .goto 115, 3, 170, 0, 0), (58, .iconst 0, 1, 0, 0, 0), (59, .istore 5, 2, 0, 0, 0), (61, .iconst 0, 1, 0, 0, 0), (62, .istore 6, 2, 0, 0, 0), (64, .iload 6, 2, 0, 0, 0), (66, .bipush 16, 2, 0, 0, 0), (68, .if_icmp .ge 83, 3, 151, 0, 0), (71, .iconst 0, 1, 0, 0, 0), (72, .istore 7, 2, 0, 0, 0), (74, .iconst 0, 1, 0, 0, 0), (75, .istore 8, 2, 0, 0, 0), (77, .iload 8, 2, 0, 0, 0), (79, .aload_n 0, 1, 0, 0, 0), (80, .getfield 107, 3, 6, 12, 581), (83, .if_icmp .ge 46, 3, 129, 0, 0), (86, .iload 7, 2, 0, 0, 0), (88, .aload_n 0, 1, 0, 0, 0), (89, .iload_n 1, 1, 0, 0, 0), (90, .iload 8, 2, 0, 0, 0), (92, .invokevirtual 173, 3, 101, 2, 771), (95, .ifCond .eq 24, 3, 119, 0, 0), (98, .aload_n 0, 1, 0, 0, 0), (99, .getfield 51, 3, 6, 20, 589), (102, .iload 8, 2, 0, 0, 0), (104, .iaload, 1, 0, 0, 0), (105, .iload 4, 2, 0, 0, 0), (107, .invokestatic 170, 3, 100, 2, 775), (110, .iload 6, 2, 0, 0, 0), (112, .if_icmp .ne 7, 3, 119, 0, 0), (115, .iconst 1, 1, 0, 0, 0), (116, .goto 4, 3, 120, 0, 0), (119, .iconst 0, 1, 0, 0, 0), (120, .iadd, 1, 0, 0, 0), (121, .istore 7, 2, 0, 0, 0), (123, .iinc 8 1, 3, 0, 0, 0), (126, .goto (-49), 3, 77, 0, 0), (129, .iload 7, 2, 0, 0, 0), (131, .iload 5, 2, 0, 0, 0), (133, .if_icmp .le 8, 3, 141, 0, 0), (136, .iload 7, 2, 0, 0, 0), (138, .goto 5, 3, 143, 0, 0), (141, .iload 5, 2, 0, 0, 0), (143, .istore 5, 2, 0, 0, 0), (145, .iinc 6 1, 3, 0, 0, 0), (148, .goto (-84), 3, 64, 0, 0), (151, .iload_n 2, 1, 0, 0, 0), (152, .ifCond .lt 12, 3, 164, 0, 0), (155, .iload 5, 2, 0, 0, 0), (157, .iload_n 3, 1, 0, 0, 0), (158, .if_icmp .lt 6, 3, 164, 0, 0), (161, .goto 9, 3, 170, 0, 0), (164, .iload 4, 2, 0, 0, 0), (166, .istore_n 2, 1, 0, 0, 0), (167, .iload 5, 2, 0, 0, 0), (169, .istore_n 3, 1, 0, 0, 0), (170, .iinc 4 1, 3, 0, 0, 0), (173, .goto (-138), 3, 35, 0, 0), (176, .iload_n 2, 1, 0, 0, 0), (177, .ireturn, 1, 0, 0, 0)]
def kX6_settle : List am_E := [(0, .aload_n 0, 1, 0, 0, 0), (1, .iload_n 1, 1, 0, 0, 0), (2, .invokevirtual 176, 3, 99, 1, 767), (5, .ifCond .eq 12, 3, 17, 0, 0), (8, .aload_n 0, 1, 0, 0, 0), (9, .getfield 84, 3, 6, 32, 601), (12, .iload_n 1, 1, 0, 0, 0), (13, .baload, 1, 0, 0, 0), (14, .ifCond .eq 6, 3, 20, 0, 0), (17, .bipush (-2), 2, 0, 0, 0), (19, .ireturn, 1, 0, 0, 0), (20, .aload_n 0, 1, 0, 0, 0), (21, .iload_n 1, 1, 0, 0, 0), (22, .invokevirtual 183, 3, 103, 1, 791), (25, .iconst 3, 1, 0, 0, 0), (26, .if_icmp .ge 6, 3, 32, 0, 0), (29, .bipush (-3), 2, 0, 0, 0), (31, .ireturn, 1, 0, 0, 0), (32, .aload_n 0, 1, 0, 0, 0), (33, .iload_n 1, 1, 0, 0, 0), (34, .invokevirtual 180, 3, 104, 1, 782), (37, .istore_n 2, 1, 0, 0, 0), (38, .iload_n 2, 1, 0, 0, 0), (39, .iconst 1, 1, 0, 0, 0), (40, .if_icmp .eq 15, 3, 55, 0, 0), (43, .iload_n 2, 1, 0, 0, 0), (44, .ifCond .ne 8, 3, 52, 0, 0), (47, .bipush (-4), 2, 0, 0, 0), (49, .goto 5, 3, 54, 0, 0), (52, .bipush (-5), 2, 0, 0, 0), (54, .ireturn, 1, 0, 0, 0), (55, .aload_n 0, 1, 0, 0, 0), (56, .iload_n 1, 1, 0, 0, 0), (57, .invokevirtual 186, 3, 102, 1, 795), (60, .istore_n 3, 1, 0, 0, 0), (61, .iconst 0, 1, 0, 0, 0), (62, .istore 4, 2, 0, 0, 0), (64, .iload 4, 2, 0, 0, 0), (66, .aload_n 0, 1, 0, 0, 0), (67, .getfield 167, 3, 6, 29, 598), (70, .if_icmp .ge 58, 3, 128, 0, 0), (73, .iload 4, 2, 0, 0, 0), (75, .iload_n 1, 1, 0, 0, 0), (76, .if_icmp .eq 46, 3, 122, 0, 0), (79, .aload_n 0, 1, 0, 0, 0), (80, .getfield 84, 3, 6, 32, 601), (83, .iload 4, 2, 0, 0, 0), (85, .baload, 1, 0, 0, 0), (86, .ifCond .ne 36, 3, 122, 0, 0), (89, .aload_n 0, 1, 0, 0, 0), (90, .iload 4, 2, 0, 0, 0), (92, .invokevirtual 183, 3, 103, 1, 791), (95, .iconst 3, 1, 0, 0, 0), (96, .if_icmp .lt 26, 3, 122, 0, 0), (99, .aload_n 0, 1, 0, 0, 0), (100, .iload 4, 2, 0, 0, 0), (102, .invokevirtual 180, 3, 104, 1, 782), (105, .iconst 1, 1, 0, 0, 0), (106, .if_icmp .ne 16, 3, 122, 0, 0), (109, .aload_n 0, 1, 0, 0, 0), (110, .iload 4, 2, 0, 0, 0), (112, .invokevirtual 186, 3, 102, 1, 795), (115, .iload_n 3, 1, 0, 0, 0), (116, .if_icmp .ne 6, 3, 122, 0, 0), (119, .bipush (-6), 2, 0, 0, 0), (121, .ireturn, 1, 0, 0, 0), (122, .iinc 4 1, 3, 0, 0, 0), (125, .goto (-61), 3, 64, 0, 0), (128, .aload_n 0, 1, 0, 0, 0), (129, .invokevirtual 135, 3, 80, 0, 704), (132, .ifCond .ne 6, 3, 138, 0, 0), (135, .bipush (-7), 2, 0, 0, 0), (137, .ireturn, 1, 0, 0, 0), (138, .aload_n 0, 1, 0, 0, 0), (139, .getfield 42, 3, 6, 17, 586), (142, .aload_n 0, 1, 0, 0, 0), (143, .getfield 63, 3, 6, 24, 593), (146, .iload_n 3, 1, 0, 0, 0), (147, .iaload, 1, 0, 0, 0), (148, .baload, 1, 0, 0, 0), (149, .ifCond .eq 6, 3, 155, 0, 0), (152, .bipush (-8), 2, 0, 0, 0), (154, .ireturn, 1, 0, 0, 0), (155, .aload_n 0, 1, 0, 0, 0), (156, .iload_n 3, 1, 0, 0, 0), (157, .invokevirtual 157, 3, 93, 1, 742), (160, .sipush 500, 3, 0, 0, 0), (163, .iadd, 1, 0, 0, 0), (164, .istore 4, 2, 0, 0, 0), (166, .aload_n 0, 1, 0, 0, 0), (167, .dup, 1, 0, 0, 0), (168, .getfield 110, 3, 6, 3, 572), (171, .iload 4, 2, 0, 0, 0), (173, .iadd, 1, 0, 0, 0), (174, .putfield 110, 3, 6, 3, 572), (177, .aload_n 0, 1, 0, 0, 0), (178, .iload_n 3, 1, 0, 0, 0), (179, .iconst 1, 1, 0, 0, 0), (180, .invokevirtual 163, 3, 96, 2, 755), (183, .aload_n 0, 1, 0, 0, 0), (184, .getfield 84, 3, 6, 32, 601), (187, .iload_n 1, 1, 0, 0, 0), (188, .iconst 1, 1, 0, 0, 0), (189, .bastore, 1, 0, 0, 0), (190, .aload_n 0, 1, 0, 0, 0), (191, .getfield 81, 3, 6, 31, 600), (194, .iload_n 1, 1, 0, 0, 0), (195, .iload_n 3, 1, 0, 0, 0), (196, .iastore, 1, 0, 0, 0), (197, .iload 4, 2, 0, 0, 0), (199, .ireturn, 1, 0, 0, 0)]
def kX6_misfit : List am_E := [(0, .iconst 0, 1, 0, 0, 0), (1, .istore_n 1, 1, 0, 0, 0), (2, .iconst 0, 1, 0, 0, 0), (3, .istore_n 2, 1, 0, 0, 0), (4, .iload_n 2, 1, 0, 0, 0), (5, .aload_n 0, 1, 0, 0, 0), (6, .getfield 107, 3, 6, 12, 581), (9, .if_icmp .ge 32, 3, 41, 0, 0), (12, .aload_n 0, 1, 0, 0, 0), (13, .getfield 60, 3, 6, 23, 592), (16, .iload_n 2, 1, 0, 0, 0), (17, .iaload, 1, 0, 0, 0), (18, .ifCond .ne 17, 3, 35, 0, 0), (21, .iload_n 1, 1, 0, 0, 0), (22, .aload_n 0, 1, 0, 0, 0), (23, .iload_n 2, 1, 0, 0, 0), (24, .aload_n 0, 1, 0, 0, 0), (25, .getfield 63, 3, 6, 24, 593), (28, .iload_n 2, 1, 0, 0, 0), (29, .iaload, 1, 0, 0, 0), (30, .invokevirtual 142, 3, 90, 2, 720), (33, .iadd, 1, 0, 0, 0), (34, .istore_n 1, 1, 0, 0, 0), (35, .iinc 2 1, 3, 0, 0, 0), (38, .goto (-34), 3, 4, 0, 0), (41, .iload_n 1, 1, 0, 0, 0), (42, .ireturn, 1, 0, 0, 0)]
def kX6_tidy : List am_E := [(0, .iload_n 1, 1, 0, 0, 0), (1, .iconst 0, 1, 0, 0, 0), (2, .bipush 50, 2, 0, 0, 0), (4, .invokestatic 102, 3, 78, 3, 683), (7, .ifCond .eq 10, 3, 17, 0, 0), (10, .aload_n 0, 1, 0, 0, 0), (11, .invokevirtual 135, 3, 80, 0, 704), (14, .ifCond .eq 5, 3, 19, 0, 0), (17, .iconst (-1), 1, 0, 0, 0), (18, .ireturn, 1, 0, 0, 0), (19, .iconst 0, 1, 0, 0, 0), (20, .istore_n 2, 1, 0, 0, 0), (21, .iconst 1, 1, 0, 0, 0), (22, .istore_n 3, 1, 0, 0, 0), (23, .iload_n 3, 1, 0, 0, 0), (24, .ifCond .eq 212, 3, 236, 0, 0), (27, .iload_n 2, 1, 0, 0, 0), (28, .iload_n 1, 1, 0, 0, 0), (29, .if_icmp .ge 207, 3, 236, 0, 0), (32, .iconst 0, 1, 0, 0, 0), (33, .istore 4, 2, 0, 0, 0), (35, .iconst (-1), 1, 0, 0, 0), (36, .istore 5, 2, 0, 0, 0), (38, .iconst (-1), 1, 0, 0, 0), (39, .istore 6, 2, 0, 0, 0), (41, .iconst 0, 1, 0, 0, 0), (42, .istore 7, 2, 0, 0, 0), (44, .iload 7, 2, 0, 0, 0), (46, .aload_n 0, 1, 0, 0, 0), (47, .getfield 107, 3, 6, 12, 581), (50, .if_icmp .ge 124, 3, 174, 0, 0), (53, .aload_n 0, 1, 0, 0, 0), (54, .getfield 60, 3, 6, 23, 592), (57, .iload 7, 2, 0, 0, 0), (59, .iaload, 1, 0, 0, 0), (60, .ifCond .ne 108, 3, 168, 0, 0), (63, .aload_n 0, 1, 0, 0, 0), (64, .getfield 42, 3, 6, 17, 586), (67, .aload_n 0, 1, 0, 0, 0), (68, .getfield 63, 3, 6, 24, 593), (71, .iload 7, 2, 0, 0, 0), (73, .iaload, 1, 0, 0, 0), (74, .baload, 1, 0, 0, 0), (75, .ifCond .eq 6, 3, 81, 0, 0), (78, .goto 90, 3, 168, 0, 0), (81, .iconst 0, 1, 0, 0, 0), (82, .istore 8, 2, 0, 0, 0), (84, .iload 8, 2, 0, 0, 0), (86, .aload_n 0, 1, 0, 0, 0), (87, .getfield 116, 3, 6, 11, 580), (90, .if_icmp .ge 78, 3, 168, 0, 0), (93, .aload_n 0, 1, 0, 0, 0), (94, .iload 7, 2, 0, 0, 0), (96, .aload_n 0, 1, 0, 0, 0), (97, .getfield 63, 3, 6, 24, 593), (100, .iload 7, 2, 0, 0, 0), (102, .iaload, 1, 0, 0, 0), (103, .invokevirtual 142, 3, 90, 2, 720), (106, .aload_n 0, 1, 0, 0, 0), (107, .iload 7, 2, 0, 0, 0), (109, .iload 8, 2, 0, 0, 0), (111, .invokevirtual 142, 3, 90, 2, 720), (114, .isub, 1, 0, 0, 0), (115, .istore 9, 2, 0, 0, 0), (117, .iload 9, 2, 0, 0, 0), (119, .iload 4, 2, 0, 0, 0), (121, .if_icmp .le 41, 3, 162, 0, 0), (124, .iload 8, 2, 0, 0, 0), (126, .aload_n 0, 1, 0, 0, 0), (127, .getfield 63, 3, 6, 24, 593), (130, .iload 7, 2, 0, 0, 0), (132, .iaload, 1, 0, 0, 0), (133, .if_icmp .eq 29, 3, 162, 0, 0), (136, .aload_n 0, 1, 0, 0, 0), (137, .iload 7, 2, 0, 0, 0), (139, .iload 8, 2, 0, 0, 0), (141, .invokevirtual 139, 3, 88, 2, 708), (144, .ifCond .ne 6, 3, 150, 0, 0), (147, .goto 15, 3, 162, 0, 0), (150, .iload 9, 2, 0, 0, 0), (152, .istore 4, 2, 0, 0, 0), (154, .iload 7, 2, 0, 0, 0), (156, .istore 5, 2, 0, 0, 0), (158, .iload 8, 2, 0, 0, 0), (160, .istore 6, 2, 0, 0, 0), (162, .iinc 8 1, 3, 0, 0, 0), (165, .goto (-81), 3, 84, 0, 0), (168, .iinc 7 1, 3, 0, 0, 0), (171, .goto (-127), 3, 44, 0, 0), (174, .iload 5, 2, 0, 0, 0), (176, .ifCond .lt 7, 3, 183, 0, 0), (179, .iconst 1, 1, 0, 0, 0), (180, .goto 4, 3, 184, 0, 0), (183, .iconst 0, 1, 0, 0, 0), (184, .istore_n 3, 1, 0, 0, 0), (185, .iload_n 3, 1, 0, 0, 0), (186, .ifCond .ne 6, 3, 192, 0, 0), (189, .goto (-166), 3, 23, 0, 0), (192, .aload_n 0, 1, 0, 0, 0), (193, .dup, 1, 0, 0, 0), (194, .getfield 145, 3, 6, 4, 573), (197, .aload_n 0, 1, 0, 0, 0), (198, .getfield 35, 3, 6, 15, 584), (201, .aload_n 0, 1, 0, 0, 0), (202, .getfield 63, 3, 6, 24, 593), (205, .iload 5, 2, 0, 0, 0), (207, .iaload, 1, 0, 0, 0), (208, .iaload, 1, 0, 0, 0), (209, .aload_n 0, 1, 0, 0, 0), (210, .getfield 35, 3, 6, 15, 584), (213, .iload 6, 2, 0, 0, 0), (215, .iaload, 1, 0, 0, 0), (216, .iadd, 1, 0, 0, 0), (217, .iadd, 1, 0, 0, 0), (218, .putfield 145, 3, 6, 4, 573), (221, .aload_n 0, 1, 0, 0, 0), (222, .getfield 63, 3, 6, 24, 593), (225, .iload 5, 2, 0, 0, 0), (227, .iload 6, 2, 0, 0, 0), (229, .iastore, 1, 0, 0, 0), (230, .iinc 2 1, 3, 0, 0, 0), (233, .goto (-210), 3, 23, 0, 0), (236, .iload_n 2, 1, 0, 0, 0), (237, .ireturn, 1, 0, 0, 0)]
def kX6_least : List am_E := [(0, .iconst 0, 1, 0, 0, 0), (1, .istore_n 1, 1, 0, 0, 0), (2, .iconst 0, 1, 0, 0, 0), (3, .istore_n 2, 1, 0, 0, 0), (4, .iconst 0, 1, 0, 0, 0), (5, .istore_n 3, 1, 0, 0, 0), (6, .iload_n 3, 1, 0, 0, 0), (7, .aload_n 0, 1, 0, 0, 0), (8, .getfield 107, 3, 6, 12, 581), (11, .if_icmp .ge 69, 3, 80, 0, 0), (14, .aload_n 0, 1, 0, 0, 0), (15, .getfield 60, 3, 6, 23, 592), (18, .iload_n 3, 1, 0, 0, 0), (19, .iaload, 1, 0, 0, 0), (20, .ifCond .eq 6, 3, 26, 0, 0), (23, .goto 51, 3, 74, 0, 0), (26, .aload_n 0, 1, 0, 0, 0), (27, .getfield 42, 3, 6, 17, 586), (30, .aload_n 0, 1, 0, 0, 0), (31, .getfield 63, 3, 6, 24, 593), (34, .iload_n 3, 1, 0, 0, 0), (35, .iaload, 1, 0, 0, 0), (36, .baload, 1, 0, 0, 0), (37, .ifCond .eq 20, 3, 57, 0, 0), (40, .iload_n 2, 1, 0, 0, 0), (41, .aload_n 0, 1, 0, 0, 0), (42, .iload_n 3, 1, 0, 0, 0), (43, .aload_n 0, 1, 0, 0, 0), (44, .getfield 63, 3, 6, 24, 593), (47, .iload_n 3, 1, 0, 0, 0), (48, .iaload, 1, 0, 0, 0), (49, .invokevirtual 142, 3, 90, 2, 720), (52, .iadd, 1, 0, 0, 0), (53, .istore_n 2, 1, 0, 0, 0), (54, .goto 20, 3, 74, 0, 0), (57, .iload_n 1, 1, 0, 0, 0), (58, .iconst 5, 1, 0, 0, 0), (59, .if_icmp .ne 5, 3, 64, 0, 0), (62, .iconst (-1), 1, 0, 0, 0), (63, .ireturn, 1, 0, 0, 0), (64, .aload_n 0, 1, 0, 0, 0), (65, .getfield 87, 3, 6, 33, 602), (68, .iload_n 1, 1, 0, 0, 0), (69, .iload_n 3, 1, 0, 0, 0), (70, .iastore, 1, 0, 0, 0), (71, .iinc 1 1, 3, 0, 0, 0), (74, .iinc 3 1, 3, 0, 0, 0), (77, .goto (-71), 3, 6, 0, 0), (80, .iconst 0, 1, 0, 0, 0), (81, .istore_n 3, 1, 0, 0, 0), (82, .iload_n 3, 1, 0, 0, 0), (83, .aload_n 0, 1, 0, 0, 0), (84, .getfield 116, 3, 6, 11, 580), (87, .if_icmp .ge 21, 3, 108, 0, 0), (90, .aload_n 0, 1, 0, 0, 0), (91, .getfield 93, 3, 6, 35, 604), (94, .iload_n 3, 1, 0, 0, 0), (95, .aload_n 0, 1, 0, 0, 0), (96, .getfield 29, 3, 6, 13, 582), (99, .iload_n 3, 1, 0, 0, 0), (100, .iaload, 1, 0, 0, 0), (101, .iastore, 1, 0, 0, 0), (102, .iinc 3 1, 3, 0, 0, 0), (105, .goto (-23), 3, 82, 0, 0), (108, .iconst (-1), 1, 0, 0, 0), (109, .istore_n 3, 1, 0, 0, 0), (110, .iconst 0, 1, 0, 0, 0), (111, .istore 4, 2, 0, 0, 0), (113, .iconst 0, 1, 0, 0, 0), (114, .istore 5, 2, 0, 0, 0), (116, .aload_n 0, 1, 0, 0, 0), (117, .getfield 90, 3, 6, 34, 603), (120, .iconst 0, 1, 0, 0, 0), (121, .iconst (-1), 1, 0, 0, 0), (122, .iastore, 1, 0, 0, 0), (123, .iload 5, 2, 0, 0, 0), (125, .ifCond .lt 213, 3, 338, 0, 0), (128, .iload 5, 2, 0, 0, 0), (130, .iload_n 1, 1, 0, 0, 0), (131, .if_icmp .ne 26, 3, 157, 0, 0), (134, .iload_n 3, 1, 0, 0, 0), (135, .ifCond .lt 9, 3, 144, 0, 0), (138, .iload 4, 2, 0, 0, 0), (140, .iload_n 3, 1, 0, 0, 0), (141, .if_icmp .ge 8, 3, 149, 0, 0), (144, .iload 4, 2, 0, 0, 0), (146, .goto 4, 3, 150, 0, 0), (149, .iload_n 3, 1, 0, 0, 0), (150, .istore_n 3, 1, 0, 0, 0), (151, .iinc 5 (-1), 3, 0, 0, 0), (154, .goto (-31), 3, 123, 0, 0), (157, .aload_n 0, 1, 0, 0, 0), (158, .getfield 87, 3, 6, 33, 602), (161, .iload 5, 2, 0, 0, 0), (163, .iaload, 1, 0, 0, 0), (164, .istore 6, 2, 0, 0, 0), (166, .aload_n 0, 1, 0, 0, 0), (167, .getfield 90, 3, 6, 34, 603), (170, .iload 5, 2, 0, 0, 0), (172, .iaload, 1, 0, 0, 0), (173, .ifCond .lt 43, 3, 216, 0, 0), (176, .aload_n 0, 1, 0, 0, 0), (177, .getfield 93, 3, 6, 35, 604), (180, .aload_n 0, 1, 0, 0, 0), (181, .getfield 90, 3, 6, 34, 603), (184, .iload 5, 2, 0, 0, 0), (186, .iaload, 1, 0, 0, 0), (187, .dup2, 1, 0, 0, 0), (188, .iaload, 1, 0, 0, 0), (189, .aload_n 0, 1, 0, 0, 0), (190, .getfield 45, 3, 6, 18, 587), (193, .iload 6, 2, 0, 0, 0), (195, .iaload, 1, 0, 0, 0), (196, .iadd, 1, 0, 0, 0), (197, .iastore, 1, 0, 0, 0), (198, .iload 4, 2, 0, 0, 0), (200, .aload_n 0, 1, 0, 0, 0), (201, .iload 6, 2, 0, 0, 0), (203, .aload_n 0, 1, 0, 0, 0), (204, .getfield 90, 3, 6, 34, 603), (207, .iload 5, 2, 0, 0, 0), (209, .iaload, 1, 0, 0, 0), (210, .invokevirtual 142, 3, 90, 2, 720), (213, .isub, 1, 0, 0, 0), (214, .istore 4, 2, 0, 0, 0), (216, .aload_n 0, 1, 0, 0, 0), (217, .getfield 90, 3, 6, 34, 603), (220, .iload 5, 2, 0, 0, 0), (222, .iaload, 1, 0, 0, 0), (223, .iconst 1, 1, 0, 0, 0), (224, .iadd, 1, 0, 0, 0), (225, .istore 7, 2, 0, 0, 0), (227, .iload 7, 2, 0, 0, 0), (229, .aload_n 0, 1, 0, 0, 0), (230, .getfield 116, 3, 6, 11, 580), (233, .if_icmp .ge 37, 3, 270, 0, 0), (236, .aload_n 0, 1, 0, 0, 0), (237, .iload 6, 2, 0, 0, 0), (239, .iload 7, 2, 0, 0, 0), (241, .invokevirtual 119, 3, 87, 2, 712), (244, .ifCond .eq 20, 3, 264, 0, 0), (247, .aload_n 0, 1, 0, 0, 0), (248, .getfield 93, 3, 6, 35, 604), (251, .iload 7, 2, 0, 0, 0), (253, .iaload, 1, 0, 0, 0), (254, .aload_n 0, 1, 0, 0, 0), (255, .getfield 45, 3, 6, 18, 587), (258, .iload 6, 2, 0, 0, 0), (260, .iaload, 1, 0, 0, 0), (261, .if_icmp .ge 9, 3, 270, 0, 0), (264, .iinc 7 1, 3, 0, 0, 0), (267, .goto (-40), 3, 227, 0, 0), (270, .iload 7, 2, 0, 0, 0), (272, .aload_n 0, 1, 0, 0, 0), (273, .getfield 116, 3, 6, 11, 580), (276, .if_icmp .ne 9, 3, 285, 0, 0), (279, .iinc 5 (-1), 3, 0, 0, 0), (282, .goto (-159), 3, 123, 0, 0), (285, .aload_n 0, 1, 0, 0, 0), (286, .getfield 90, 3, 6, 34, 603), (289, .iload 5, 2, 0, 0, 0), (291, .iload 7, 2, 0, 0, 0), (293, .iastore, 1, 0, 0, 0), (294, .aload_n 0, 1, 0, 0, 0), (295, .getfield 93, 3, 6, 35, 604), (298, .iload 7, 2, 0, 0, 0), (300, .dup2, 1, 0, 0, 0), (301, .iaload, 1, 0, 0, 0), (302, .aload_n 0, 1, 0, 0, 0), (303, .getfield 45, 3, 6, 18, 587), (306, .iload 6, 2, 0, 0, 0), (308, .iaload, 1, 0, 0, 0), (309, .isub, 1, 0, 0, 0), (310, .iastore, 1, 0, 0, 0), (311, .iload 4, 2, 0, 0, 0), (313, .aload_n 0, 1, 0, 0, 0), (314, .iload 6, 2, 0, 0, 0), (316, .iload 7, 2, 0, 0, 0), (318, .invokevirtual 142, 3, 90, 2, 720), (321, .iadd, 1, 0, 0, 0), (322, .istore 4, 2, 0, 0, 0), (324, .iinc 5 1, 3, 0, 0, 0), (327, .aload_n 0, 1, 0, 0, 0), (328, .getfield 90, 3, 6, 34, 603), (331, .iload 5, 2, 0, 0, 0), (333, .iconst (-1), 1, 0, 0, 0), (334, .iastore, 1, 0, 0, 0), (335, .goto (-212), 3, 123, 0, 0), (338, .iload_n 3, 1, 0, 0, 0), (339, .iload_n 2, 1, 0, 0, 0), (340, .iadd, 1, 0, 0, 0), (341, .ireturn, 1, 0, 0, 0)]
def kX6_sell : List am_E := [(0, .iload_n 1, 1, 0, 0, 0), (1, .iconst 0, 1, 0, 0, 0), (2, .aload_n 0, 1, 0, 0, 0), (3, .getfield 107, 3, 6, 12, 581), (6, .iconst 1, 1, 0, 0, 0), (7, .isub, 1, 0, 0, 0), (8, .invokestatic 102, 3, 78, 3, 683), (11, .ifCond .eq 13, 3, 24, 0, 0), (14, .iload_n 2, 1, 0, 0, 0), (15, .iconst 0, 1, 0, 0, 0), (16, .ldc 106, 2, 100000, 0, 690), (18, .invokestatic 102, 3, 78, 3, 683), (21, .ifCond .ne 6, 3, 27, 0, 0), (24, .bipush (-2), 2, 0, 0, 0), (26, .ireturn, 1, 0, 0, 0), (27, .aload_n 0, 1, 0, 0, 0), (28, .getfield 60, 3, 6, 23, 592), (31, .iload_n 1, 1, 0, 0, 0), (32, .iaload, 1, 0, 0, 0), (33, .ifCond .eq 6, 3, 39, 0, 0), (36, .bipush (-3), 2, 0, 0, 0), (38, .ireturn, 1, 0, 0, 0), (39, .aload_n 0, 1, 0, 0, 0), (40, .getfield 96, 3, 6, 0, 569), (43, .sipush 1440, 3, 0, 0, 0), (46, .idiv, 1, 0, 0, 0), (47, .aload_n 0, 1, 0, 0, 0), (48, .getfield 54, 3, 6, 21, 590), (51, .iload_n 1, 1, 0, 0, 0), (52, .iaload, 1, 0, 0, 0), (53, .sipush 1440, 3, 0, 0, 0), (56, .idiv, 1, 0, 0, 0), (57, .isub, 1, 0, 0, 0), (58, .bipush 7, 2, 0, 0, 0), (60, .if_icmp .ge 6, 3, 66, 0, 0), (63, .bipush (-4), 2, 0, 0, 0), (65, .ireturn, 1, 0, 0, 0), (66, .aload_n 0, 1, 0, 0, 0), (67, .getfield 42, 3, 6, 17, 586), (70, .aload_n 0, 1, 0, 0, 0), (71, .getfield 63, 3, 6, 24, 593), (74, .iload_n 1, 1, 0, 0, 0), (75, .iaload, 1, 0, 0, 0), (76, .baload, 1, 0, 0, 0), (77, .ifCond .eq 6, 3, 83, 0, 0), (80, .bipush (-5), 2, 0, 0, 0), (82, .ireturn, 1, 0, 0, 0), (83, .aload_n 0, 1, 0, 0, 0), (84, .getfield 69, 3, 6, 26, 595), (87, .iload_n 1, 1, 0, 0, 0), (88, .aload_n 0, 1, 0, 0, 0), (89, .getfield 96, 3, 6, 0, 569), (92, .sipush 1440, 3, 0, 0, 0), (95, .idiv, 1, 0, 0, 0), (96, .iastore, 1, 0, 0, 0), (97, .aload_n 0, 1, 0, 0, 0), (98, .getfield 75, 3, 6, 28, 597), (101, .iload_n 1, 1, 0, 0, 0), (102, .baload, 1, 0, 0, 0), (103, .ifCond .eq 11, 3, 114, 0, 0), (106, .aload_n 0, 1, 0, 0, 0), (107, .iload_n 1, 1, 0, 0, 0), (108, .iconst 5, 1, 0, 0, 0), (109, .invokevirtual 163, 3, 96, 2, 755), (112, .iconst 1, 1, 0, 0, 0), (113, .ireturn, 1, 0, 0, 0), (114, .aload_n 0, 1, 0, 0, 0), (115, .getfield 66, 3, 6, 25, 594), (118, .iload_n 1, 1, 0, 0, 0), (119, .iload_n 2, 1, 0, 0, 0), (120, .iastore, 1, 0, 0, 0), (121, .aload_n 0, 1, 0, 0, 0), (122, .iload_n 1, 1, 0, 0, 0), (123, .iconst 2, 1, 0, 0, 0), (124, .invokevirtual 163, 3, 96, 2, 755), (127, .iconst 0, 1, 0, 0, 0), (128, .ireturn, 1, 0, 0, 0)]
def kX6_pay : List am_E := [(0, .aload_n 0, 1, 0, 0, 0), (1, .iload_n 1, 1, 0, 0, 0), (2, .invokevirtual 154, 3, 94, 1, 738), (5, .istore_n 2, 1, 0, 0, 0), (6, .iload_n 2, 1, 0, 0, 0), (7, .ifCond .ge 5, 3, 12, 0, 0), (10, .iload_n 2, 1, 0, 0, 0), (11, .ireturn, 1, 0, 0, 0), (12, .aload_n 0, 1, 0, 0, 0), (13, .getfield 60, 3, 6, 23, 592), (16, .iload_n 2, 1, 0, 0, 0), (17, .iaload, 1, 0, 0, 0), (18, .iconst 2, 1, 0, 0, 0), (19, .if_icmp .eq 6, 3, 25, 0, 0), (22, .bipush (-4), 2, 0, 0, 0), (24, .ireturn, 1, 0, 0, 0), (25, .aload_n 0, 1, 0, 0, 0), (26, .invokevirtual 135, 3, 80, 0, 704), (29, .ifCond .ne 6, 3, 35, 0, 0), (32, .bipush (-6), 2, 0, 0, 0), (34, .ireturn, 1, 0, 0, 0), (35, .aload_n 0, 1, 0, 0, 0), (36, .iload_n 2, 1, 0, 0, 0), (37, .invokevirtual 157, 3, 93, 1, 742), (40, .istore_n 3, 1, 0, 0, 0), (41, .iload_n 3, 1, 0, 0, 0), (42, .aload_n 0, 1, 0, 0, 0), (43, .getfield 66, 3, 6, 25, 594), (46, .iload_n 2, 1, 0, 0, 0), (47, .iaload, 1, 0, 0, 0), (48, .if_icmp .ge 7, 3, 55, 0, 0), (51, .iload_n 3, 1, 0, 0, 0), (52, .goto 9, 3, 61, 0, 0), (55, .aload_n 0, 1, 0, 0, 0), (56, .getfield 66, 3, 6, 25, 594), (59, .iload_n 2, 1, 0, 0, 0), (60, .iaload, 1, 0, 0, 0), (61, .istore 4, 2, 0, 0, 0), (63, .aload_n 0, 1, 0, 0, 0), (64, .getfield 66, 3, 6, 25, 594), (67, .iload_n 2, 1, 0, 0, 0), (68, .iaload, 1, 0, 0, 0), (69, .iload 4, 2, 0, 0, 0), (71, .isub, 1, 0, 0, 0), (72, .istore 5, 2, 0, 0, 0), (74, .aload_n 0, 1, 0, 0, 0), (75, .dup, 1, 0, 0, 0), (76, .getfield 110, 3, 6, 3, 572), (79, .iload 4, 2, 0, 0, 0), (81, .iadd, 1, 0, 0, 0), (82, .putfield 110, 3, 6, 3, 572), (85, .aload_n 0, 1, 0, 0, 0), (86, .getfield 66, 3, 6, 25, 594), (89, .iload_n 2, 1, 0, 0, 0), (90, .iconst 0, 1, 0, 0, 0), (91, .iastore, 1, 0, 0, 0), (92, .aload_n 0, 1, 0, 0, 0), (93, .getfield 60, 3, 6, 23, 592), (96, .iload_n 2, 1, 0, 0, 0), (97, .iconst 3, 1, 0, 0, 0), (98, .iastore, 1, 0, 0, 0), (99, .iload 5, 2, 0, 0, 0), (101, .ireturn, 1, 0, 0, 0)]
def kX6_tear : List am_E := [(0, .iload_n 1, 1, 0, 0, 0), (1, .iconst 0, 1, 0, 0, 0), (2, .aload_n 0, 1, 0, 0, 0), (3, .getfield 116, 3, 6, 11, 580), (6, .iconst 1, 1, 0, 0, 0), (7, .isub, 1, 0, 0, 0), (8, .invokestatic 102, 3, 78, 3, 683), (11, .ifCond .eq 12, 3, 23, 0, 0), (14, .aload_n 0, 1, 0, 0, 0), (15, .getfield 42, 3, 6, 17, 586), (18, .iload_n 1, 1, 0, 0, 0), (19, .baload, 1, 0, 0, 0), (20, .ifCond .eq 5, 3, 25, 0, 0), (23, .iconst 0, 1, 0, 0, 0), (24, .ireturn, 1, 1, 0, 0), (25, .aload_n 0, 1, 0, 0, 0), (26, .getfield 42, 3, 6, 17, 586), (29, .iload_n 1, 1, 0, 0, 0), (30, .iconst 1, 1, 0, 0, 0), (31, .bastore, 1, 0, 0, 0), (32, .iconst 1, 1, 0, 0, 0), (33, .ireturn, 1, 1, 0, 0)]
def kX6_mend : List am_E := [(0, .iload_n 1, 1, 0, 0, 0), (1, .iconst 0, 1, 0, 0, 0), (2, .aload_n 0, 1, 0, 0, 0), (3, .getfield 116, 3, 6, 11, 580), (6, .iconst 1, 1, 0, 0, 0), (7, .isub, 1, 0, 0, 0), (8, .invokestatic 102, 3, 78, 3, 683), (11, .ifCond .eq 12, 3, 23, 0, 0), (14, .aload_n 0, 1, 0, 0, 0), (15, .getfield 42, 3, 6, 17, 586), (18, .iload_n 1, 1, 0, 0, 0), (19, .baload, 1, 0, 0, 0), (20, .ifCond .ne 5, 3, 25, 0, 0), (23, .iconst 0, 1, 0, 0, 0), (24, .ireturn, 1, 1, 0, 0), (25, .aload_n 0, 1, 0, 0, 0), (26, .getfield 42, 3, 6, 17, 586), (29, .iload_n 1, 1, 0, 0, 0), (30, .iconst 0, 1, 0, 0, 0), (31, .bastore, 1, 0, 0, 0), (32, .iconst 1, 1, 0, 0, 0), (33, .ireturn, 1, 1, 0, 0)]
def kX6_shelfOf : List am_E := [(0, .iload_n 1, 1, 0, 0, 0), (1, .iconst 0, 1, 0, 0, 0), (2, .aload_n 0, 1, 0, 0, 0), (3, .getfield 116, 3, 6, 11, 580), (6, .iconst 1, 1, 0, 0, 0), (7, .isub, 1, 0, 0, 0), (8, .invokestatic 102, 3, 78, 3, 683), (11, .ifCond .ne 5, 3, 16, 0, 0), (14, .iconst (-1), 1, 0, 0, 0), (15, .ireturn, 1, 0, 0, 0), (16, .iload_n 2, 1, 0, 0, 0), (17, .tableswitch 151 0 6 #[43, 50, 57, 72, 79, 85, 136], 43, 0, 0, 0), (60, .aload_n 0, 1, 0, 0, 0), (61, .getfield 29, 3, 6, 13, 582), (64, .iload_n 1, 1, 0, 0, 0), (65, .iaload, 1, 0, 0, 0), (66, .ireturn, 1, 0, 0, 0), (67, .aload_n 0, 1, 0, 0, 0), (68, .getfield 32, 3, 6, 14, 583), (71, .iload_n 1, 1, 0, 0, 0), (72, .iaload, 1, 0, 0, 0), (73, .ireturn, 1, 0, 0, 0), (74, .aload_n 0, 1, 0, 0, 0), (75, .getfield 38, 3, 6, 16, 585), (78, .iload_n 1, 1, 0, 0, 0), (79, .baload, 1, 0, 0, 0), (80, .ifCond .eq 7, 3, 87, 0, 0), (83, .iconst 1, 1, 0, 0, 0), (84, .goto 4, 3, 88, 0, 0), (87, .iconst 0, 1, 0, 0, 0), (88, .ireturn, 1, 0, 0, 0), (89, .aload_n 0, 1, 0, 0, 0), (90, .getfield 35, 3, 6, 15, 584), (93, .iload_n 1, 1, 0, 0, 0), (94, .iaload, 1, 0, 0, 0), (95, .ireturn, 1, 0, 0, 0), (96, .aload_n 0, 1, 0, 0, 0), (97, .iload_n 1, 1, 0, 0, 0), (98, .invokevirtual 123, 3, 86, 1, 716), (101, .ireturn, 1, 0, 0, 0), (102, .iconst 0, 1, 0, 0, 0), (103, .istore_n 3, 1, 0, 0, 0), (104, .iconst 0, 1, 0, 0, 0), (105, .istore 4, 2, 0, 0, 0), (107, .iload 4, 2, 0, 0, 0), (109, .aload_n 0, 1, 0, 0, 0), (110, .getfield 107, 3, 6, 12, 581), (113, .if_icmp .ge 38, 3, 151, 0, 0), (116, .iload_n 3, 1, 0, 0, 0), (117, .aload_n 0, 1, 0, 0, 0), (118, .getfield 60, 3, 6, 23, 592), (121, .iload 4, 2, 0, 0, 0), (123, .iaload, 1, 0, 0, 0), (124, .ifCond .ne 18, 3, 142, 0, 0), (127, .aload_n 0, 1, 0, 0, 0), (128, .getfield 63, 3, 6, 24, 593), (131, .iload 4, 2, 0, 0, 0), (133, .iaload, 1, 0, 0, 0), (134, .iload_n 1, 1, 0, 0, 0), (135, .if_icmp .ne 7, 3, 142, 0, 0), (138, .iconst 1, 1, 0, 0, 0), (139, .goto 4, 3, 143, 0, 0), (142, .iconst 0, 1, 0, 0, 0), (143, .iadd, 1, 0, 0, 0), (144, .istore_n 3, 1, 0, 0, 0), (145, .iinc 4 1, 3, 0, 0, 0), (148, .goto (-41), 3, 107, 0, 0), (151, .iload_n 3, 1, 0, 0, 0), (152, .ireturn, 1, 0, 0, 0), (153, .aload_n 0, 1, 0, 0, 0), (154, .getfield 42, 3, 6, 17, 586), (157, .iload_n 1, 1, 0, 0, 0), (158, .baload, 1, 0, 0, 0), (159, .ifCond .eq 7, 3, 166, 0, 0), (162, .iconst 1, 1, 0, 0, 0), (163, .goto 4, 3, 167, 0, 0), (166, .iconst 0, 1, 0, 0, 0), (167, .ireturn, 1, 0, 0, 0), (168, .iconst (-1), 1, 0, 0, 0), (169, .ireturn, 1, 0, 0, 0)]
def kX6_thing : List am_E := [(0, .iload_n 1, 1, 0, 0, 0), (1, .iconst 0, 1, 0, 0, 0), (2, .aload_n 0, 1, 0, 0, 0), (3, .getfield 107, 3, 6, 12, 581), (6, .iconst 1, 1, 0, 0, 0), (7, .isub, 1, 0, 0, 0), (8, .invokestatic 102, 3, 78, 3, 683), (11, .ifCond .ne 5, 3, 16, 0, 0), (14, .iconst (-1), 1, 0, 0, 0), (15, .ireturn, 1, 0, 0, 0), (16, .iload_n 2, 1, 0, 0, 0), (17, .tableswitch 204 0 12 #[67, 74, 81, 96, 111, 118, 125, 132, 139, 159, 165, 190, 197], 67, 0, 0, 0), (84, .aload_n 0, 1, 0, 0, 0), (85, .getfield 45, 3, 6, 18, 587), (88, .iload_n 1, 1, 0, 0, 0), (89, .iaload, 1, 0, 0, 0), (90, .ireturn, 1, 0, 0, 0), (91, .aload_n 0, 1, 0, 0, 0), (92, .getfield 48, 3, 6, 19, 588), (95, .iload_n 1, 1, 0, 0, 0), (96, .iaload, 1, 0, 0, 0), (97, .ireturn, 1, 0, 0, 0), (98, .aload_n 0, 1, 0, 0, 0), (99, .getfield 72, 3, 6, 27, 596), (102, .iload_n 1, 1, 0, 0, 0), (103, .baload, 1, 0, 0, 0), (104, .ifCond .eq 7, 3, 111, 0, 0), (107, .iconst 1, 1, 0, 0, 0), (108, .goto 4, 3, 112, 0, 0), (111, .iconst 0, 1, 0, 0, 0), (112, .ireturn, 1, 0, 0, 0), (113, .aload_n 0, 1, 0, 0, 0), (114, .getfield 75, 3, 6, 28, 597), (117, .iload_n 1, 1, 0, 0, 0), (118, .baload, 1, 0, 0, 0), (119, .ifCond .eq 7, 3, 126, 0, 0), (122, .iconst 1, 1, 0, 0, 0), (123, .goto 4, 3, 127, 0, 0), (126, .iconst 0, 1, 0, 0, 0), (127, .ireturn, 1, 0, 0, 0), (128, .aload_n 0, 1, 0, 0, 0), (129, .getfield 51, 3, 6, 20, 589), (132, .iload_n 1, 1, 0, 0, 0), (133, .iaload, 1, 0, 0, 0), (134, .ireturn, 1, 0, 0, 0), (135, .aload_n 0, 1, 0, 0, 0), (136, .getfield 54, 3, 6, 21, 590), (139, .iload_n 1, 1, 0, 0, 0), (140, .iaload, 1, 0, 0, 0), (141, .ireturn, 1, 0, 0, 0), (142, .aload_n 0, 1, 0, 0, 0), (143, .getfield 57, 3, 6, 22, 591), (146, .iload_n 1, 1, 0, 0, 0), (147, .iaload, 1, 0, 0, 0), (148, .ireturn, 1, 0, 0, 0), (149, .aload_n 0, 1, 0, 0, 0), (150, .getfield 60, 3, 6, 23, 592), (153, .iload_n 1, 1, 0, 0, 0), (154, .iaload, 1, 0, 0, 0), (155, .ireturn, 1, 0, 0, 0), (156, .aload_n 0, 1, 0, 0, 0), (157, .getfield 60, 3, 6, 23, 592), (160, .iload_n 1, 1, 0, 0, 0), (161, .iaload, 1, 0, 0, 0), (162, .ifCond .ne 12, 3, 174, 0, 0), (165, .aload_n 0, 1, 0, 0, 0), (166, .getfield 63, 3, 6, 24, 593), (169, .iload_n 1, 1, 0, 0, 0), (170, .iaload, 1, 0, 0, 0), (171, .goto 4, 3, 175, 0, 0), (174, .iconst (-1), 1, 0, 0, 0), (175, .ireturn, 1, 0, 0, 0), (176, .aload_n 0, 1, 0, 0, 0), (177, .iload_n 1, 1, 0, 0, 0), (178, .invokevirtual 127, 3, 89, 1, 724), (181, .ireturn, 1, 0, 0, 0), (182, .aload_n 0, 1, 0, 0, 0), (183, .getfield 60, 3, 6, 23, 592), (186, .iload_n 1, 1, 0, 0, 0), (187, .iaload, 1, 0, 0, 0), (188, .ifCond .ne 17, 3, 205, 0, 0), (191, .aload_n 0, 1, 0, 0, 0), (192, .iload_n 1, 1, 0, 0, 0), (193, .aload_n 0, 1, 0, 0, 0), (194, .getfield 63, 3, 6, 24, 593), (197, .iload_n 1, 1, 0, 0, 0), (198, .iaload, 1, 0, 0, 0), (199, .invokevirtual 142, 3, 90, 2, 720), (202, .goto 4, 3, 206, 0, 0), (205, .iconst (-1), 1, 0, 0, 0), (206, .ireturn, 1, 0, 0, 0), (207, .aload_n 0, 1, 0, 0, 0), (208, .getfield 66, 3, 6, 25, 594), (211, .iload_n 1, 1, 0, 0, 0), (212, .iaload, 1, 0, 0, 0), (213, .ireturn, 1, 0, 0, 0), (214, .aload_n 0, 1, 0, 0, 0), (215, .getfield 69, 3, 6, 26, 595), (218, .iload_n 1, 1, 0, 0, 0), (219, .iaload, 1, 0, 0, 0), (220, .ireturn, 1, 0, 0, 0), (221, .iconst (-1), 1, 0, 0, 0), (222, .ireturn, 1, 0, 0, 0)]
def kX6_claimOf : List am_E := [(0, .aload_n 0, 1, 0, 0, 0), (1, .iload_n 1, 1, 0, 0, 0), (2, .invokevirtual 176, 3, 99, 1, 767), (5, .ifCond .ne 5, 3, 10, 0, 0), (8, .iconst (-1), 1, 0, 0, 0), (9, .ireturn, 1, 0, 0, 0), (10, .iload_n 2, 1, 0, 0, 0), (11, .tableswitch 53 0 2 #[25, 31, 46], 25, 0, 0, 0), (36, .aload_n 0, 1, 0, 0, 0), (37, .iload_n 1, 1, 0, 0, 0), (38, .invokevirtual 183, 3, 103, 1, 791), (41, .ireturn, 1, 0, 0, 0), (42, .aload_n 0, 1, 0, 0, 0), (43, .getfield 84, 3, 6, 32, 601), (46, .iload_n 1, 1, 0, 0, 0), (47, .baload, 1, 0, 0, 0), (48, .ifCond .eq 7, 3, 55, 0, 0), (51, .iconst 1, 1, 0, 0, 0), (52, .goto 4, 3, 56, 0, 0), (55, .iconst 0, 1, 0, 0, 0), (56, .ireturn, 1, 0, 0, 0), (57, .aload_n 0, 1, 0, 0, 0), (58, .getfield 81, 3, 6, 31, 600), (61, .iload_n 1, 1, 0, 0, 0), (62, .iaload, 1, 0, 0, 0), (63, .ireturn, 1, 0, 0, 0), (64, .iload_n 2, 1, 0, 0, 0), (65, .bipush 10, 2, 0, 0, 0), (67, .bipush 13, 2, 0, 0, 0), (69, .invokestatic 102, 3, 78, 3, 683), (72, .ifCond .eq 19, 3, 91, 0, 0), (75, .aload_n 0, 1, 0, 0, 0), (76, .getfield 78, 3, 6, 30, 599), (79, .iconst 4, 1, 0, 0, 0), (80, .iload_n 1, 1, 0, 0, 0), (81, .imul, 1, 0, 0, 0), (82, .iload_n 2, 1, 0, 0, 0), (83, .iadd, 1, 0, 0, 0), (84, .bipush 10, 2, 0, 0, 0), (86, .isub, 1, 0, 0, 0), (87, .iaload, 1, 0, 0, 0), (88, .goto 4, 3, 92, 0, 0), (91, .iconst (-1), 1, 0, 0, 0), (92, .ireturn, 1, 0, 0, 0)]
def kX6_count : List am_E := [(0, .iconst 0, 1, 0, 0, 0), (1, .istore_n 2, 1, 0, 0, 0), (2, .iconst 0, 1, 0, 0, 0), (3, .istore_n 3, 1, 0, 0, 0), (4, .iconst 0, 1, 0, 0, 0), (5, .istore 4, 2, 0, 0, 0), (7, .iload 4, 2, 0, 0, 0), (9, .aload_n 0, 1, 0, 0, 0), (10, .getfield 107, 3, 6, 12, 581), (13, .if_icmp .ge 37, 3, 50, 0, 0), (16, .iload_n 2, 1, 0, 0, 0), (17, .aload_n 0, 1, 0, 0, 0), (18, .getfield 60, 3, 6, 23, 592), (21, .iload 4, 2, 0, 0, 0), (23, .iaload, 1, 0, 0, 0), (24, .ifCond .ne 7, 3, 31, 0, 0), (27, .iconst 1, 1, 0, 0, 0), (28, .goto 4, 3, 32, 0, 0), (31, .iconst 0, 1, 0, 0, 0), (32, .iadd, 1, 0, 0, 0), (33, .istore_n 2, 1, 0, 0, 0), (34, .iload_n 3, 1, 0, 0, 0), (35, .aload_n 0, 1, 0, 0, 0), (36, .getfield 66, 3, 6, 25, 594), (39, .iload 4, 2, 0, 0, 0), (41, .iaload, 1, 0, 0, 0), (42, .iadd, 1, 0, 0, 0), (43, .istore_n 3, 1, 0, 0, 0), (44, .iinc 4 1, 3, 0, 0, 0), (47, .goto (-40), 3, 7, 0, 0), (50, .iload_n 1, 1, 0, 0, 0), (51, .tableswitch 118 0 10 #[57, 62, 67, 69, 74, 79, 84, 93, 106, 111, 113], 57, 0, 0, 0), (108, .aload_n 0, 1, 0, 0, 0), (109, .getfield 116, 3, 6, 11, 580), (112, .ireturn, 1, 0, 0, 0), (113, .aload_n 0, 1, 0, 0, 0), (114, .getfield 107, 3, 6, 12, 581), (117, .ireturn, 1, 0, 0, 0), (118, .iload_n 2, 1, 0, 0, 0), (119, .ireturn, 1, 0, 0, 0), (120, .aload_n 0, 1, 0, 0, 0), (121, .getfield 167, 3, 6, 29, 598), (124, .ireturn, 1, 0, 0, 0), (125, .aload_n 0, 1, 0, 0, 0), (126, .getfield 113, 3, 6, 5, 574), (129, .ireturn, 1, 0, 0, 0), (130, .aload_n 0, 1, 0, 0, 0), (131, .getfield 96, 3, 6, 0, 569), (134, .ireturn, 1, 0, 0, 0), (135, .aload_n 0, 1, 0, 0, 0), (136, .getfield 96, 3, 6, 0, 569), (139, .sipush 1440, 3, 0, 0, 0), (142, .idiv, 1, 0, 0, 0), (143, .ireturn, 1, 0, 0, 0), (144, .aload_n 0, 1, 0, 0, 0), (145, .invokevirtual 135, 3, 80, 0, 704), (148, .ifCond .eq 7, 3, 155, 0, 0), (151, .iconst 1, 1, 0, 0, 0), (152, .goto 4, 3, 156, 0, 0), (155, .iconst 0, 1, 0, 0, 0), (156, .ireturn, 1, 0, 0, 0), (157, .aload_n 0, 1, 0, 0, 0), (158, .getfield 110, 3, 6, 3, 572), (161, .ireturn, 1, 0, 0, 0), (162, .iload_n 3, 1, 0, 0, 0), (163, .ireturn, 1, 0, 0, 0), (164, .aload_n 0, 1, 0, 0, 0), (165, .getfield 145, 3, 6, 4, 573), (168, .ireturn, 1, 0, 0, 0), (169, .iconst (-1), 1, 0, 0, 0), (170, .ireturn, 1, 0, 0, 0)]
def kJ9_abs_0f7a4 : List am_E := [(0, .iload_n 0, 1, 0, 0, 0), (1, .ifCond .ge 8, 3, 9, 0, 0), (4, .iload_n 0, 1, 0, 0, 0), (5, .ineg, 1, 0, 0, 0), (6, .goto 4, 3, 10, 0, 0), (9, .iload_n 0, 1, 0, 0, 0), (10, .ireturn, 1, 0, 0, 0)]
def kJ9_max_7cf53 : List am_E := [(0, .iload_n 0, 1, 0, 0, 0), (1, .iload_n 1, 1, 0, 0, 0), (2, .if_icmp .lt 7, 3, 9, 0, 0), (5, .iload_n 0, 1, 0, 0, 0), (6, .goto 4, 3, 10, 0, 0), (9, .iload_n 1, 1, 0, 0, 0), (10, .ireturn, 1, 0, 0, 0)]
def kJ9_min_7cf53 : List am_E := [(0, .iload_n 0, 1, 0, 0, 0), (1, .iload_n 1, 1, 0, 0, 0), (2, .if_icmp .gt 7, 3, 9, 0, 0), (5, .iload_n 0, 1, 0, 0, 0), (6, .goto 4, 3, 10, 0, 0), (9, .iload_n 1, 1, 0, 0, 0), (10, .ireturn, 1, 0, 0, 0)]
def kL_law : List am_E := [(0, .new 7, 3, 5, 0, 46), (3, .dup, 1, 0, 0, 0), (4, .invokespecial 9, 3, 25, 0, 48), (7, .astore_n 1, 1, 0, 0, 0), (8, .new 10, 3, 6, 0, 563), (11, .dup, 1, 0, 0, 0), (12, .invokespecial 12, 3, 77, 0, 565), (15, .astore_n 2, 1, 0, 0, 0), (16, .iconst 0, 1, 0, 0, 0), (17, .istore_n 3, 1, 0, 0, 0), (18, .iload_n 3, 1, 0, 0, 0), (19, .aload_n 0, 1, 0, 0, 0), (20, .arraylength, 1, 0, 0, 0), (21, .bipush 7, 2, 0, 0, 0), (23, .isub, 1, 0, 0, 0), (24, .if_icmp .gt 861, 3, 885, 0, 0), (27, .aload_n 0, 1, 0, 0, 0), (28, .iload_n 3, 1, 0, 0, 0), (29, .iaload, 1, 0, 0, 0), (30, .bipush 31, 2, 0, 0, 0), (32, .iand, 1, 0, 0, 0), (33, .tableswitch 846 0 22 #[107, 130, 163, 226, 295, 402, 425, 448, 461, 504, 527, 550, 573, 586, 609, 622, 655, 678, 701, 724, 757, 790, 823], 107, 0, 0, 0), (140, .aload_n 1, 1, 0, 0, 0), (141, .aload_n 0, 1, 0, 0, 0), (142, .iload_n 3, 1, 0, 0, 0), (143, .iconst 1, 1, 0, 0, 0), (144, .iadd, 1, 0, 0, 0), (145, .iaload, 1, 0, 0, 0), (146, .invokevirtual 13, 3, 26, 1, 126), (149, .aload_n 2, 1, 0, 0, 0), (150, .aload_n 0, 1, 0, 0, 0), (151, .iload_n 3, 1, 0, 0, 0), (152, .iconst 1, 1, 0, 0, 0), (153, .iadd, 1, 0, 0, 0), (154, .iaload, 1, 0, 0, 0), (155, .invokevirtual 17, 3, 82, 1, 686), (158, .if_icmp .eq 721, 3, 879, 0, 0), (161, .iconst 0, 1, 0, 0, 0), (162, .ireturn, 1, 1, 0, 0), (163, .aload_n 1, 1, 0, 0, 0), (164, .aload_n 0, 1, 0, 0, 0), (165, .iload_n 3, 1, 0, 0, 0), (166, .iconst 1, 1, 0, 0, 0), (167, .iadd, 1, 0, 0, 0), (168, .iaload, 1, 0, 0, 0), (169, .aload_n 0, 1, 0, 0, 0), (170, .iload_n 3, 1, 0, 0, 0), (171, .iconst 2, 1, 0, 0, 0), (172, .iadd, 1, 0, 0, 0), (173, .iaload, 1, 0, 0, 0), (174, .invokevirtual 18, 3, 27, 2, 142), (177, .aload_n 2, 1, 0, 0, 0), (178, .aload_n 0, 1, 0, 0, 0), (179, .iload_n 3, 1, 0, 0, 0), (180, .iconst 1, 1, 0, 0, 0), (181, .iadd, 1, 0, 0, 0), (182, .iaload, 1, 0, 0, 0), (183, .aload_n 0, 1, 0, 0, 0), (184, .iload_n 3, 1, 0, 0, 0), (185, .iconst 2, 1, 0, 0, 0), (186, .iadd, 1, 0, 0, 0), (187, .iaload, 1, 0, 0, 0), (188, .invokevirtual 22, 3, 81, 2, 679), (191, .if_icmp .eq 688, 3, 879, 0, 0), (194, .iconst 0, 1, 0, 0, 0), (195, .ireturn, 1, 1, 0, 0), (196, .aload_n 1, 1, 0, 0, 0), (197, .aload_n 0, 1, 0, 0, 0), (198, .iload_n 3, 1, 0, 0, 0), (199, .iconst 1, 1, 0, 0, 0), (200, .iadd, 1, 0, 0, 0), (201, .iaload, 1, 0, 0, 0), (202, .aload_n 0, 1, 0, 0, 0), (203, .iload_n 3, 1, 0, 0, 0), (204, .iconst 2, 1, 0, 0, 0), (205, .iadd, 1, 0, 0, 0), (206, .iaload, 1, 0, 0, 0), (207, .aload_n 0, 1, 0, 0, 0), (208, .iload_n 3, 1, 0, 0, 0), (209, .iconst 3, 1, 0, 0, 0), (210, .iadd, 1, 0, 0, 0), (211, .iaload, 1, 0, 0, 0), (212, .aload_n 0, 1, 0, 0, 0), (213, .iload_n 3, 1, 0, 0, 0), (214, .iconst 4, 1, 0, 0, 0), (215, .iadd, 1, 0, 0, 0), (216, .iaload, 1, 0, 0, 0), (217, .aload_n 0, 1, 0, 0, 0), (218, .iload_n 3, 1, 0, 0, 0), (219, .iconst 5, 1, 0, 0, 0), (220, .iadd, 1, 0, 0, 0), (221, .iaload, 1, 0, 0, 0), (222, .invokevirtual 23, 3, 28, 5, 146), (225, .aload_n 2, 1, 0, 0, 0), (226, .aload_n 0, 1, 0, 0, 0), (227, .iload_n 3, 1, 0, 0, 0), (228, .iconst 1, 1, 0, 0, 0), (229, .iadd, 1, 0, 0, 0), (230, .iaload, 1, 0, 0, 0), (231, .aload_n 0, 1, 0, 0, 0), (232, .iload_n 3, 1, 0, 0, 0), (233, .iconst 2, 1, 0, 0, 0), (234, .iadd, 1, 0, 0, 0), (235, .iaload, 1, 0, 0, 0), (236, .aload_n 0, 1, 0, 0, 0), (237, .iload_n 3, 1, 0, 0, 0), (238, .iconst 3, 1, 0, 0, 0), (239, .iadd, 1, 0, 0, 0), (240, .iaload, 1, 0, 0, 0), (241, .aload_n 0, 1, 0, 0, 0), (242, .iload_n 3, 1, 0, 0, 0), (243, .iconst 4, 1, 0, 0, 0), (244, .iadd, 1, 0, 0, 0), (245, .iaload, 1, 0, 0, 0), (246, .aload_n 0, 1, 0, 0, 0), (247, .iload_n 3, 1, 0, 0, 0), (248, .iconst 5, 1, 0, 0, 0), (249, .iadd, 1, 0, 0, 0), (250, .iaload, 1, 0, 0, 0), (251, .invokevirtual 27, 3, 83, 5, 691), (254, .if_icmp .eq 625, 3, 879, 0, 0), (257, .iconst 0, 1, 0, 0, 0), (258, .ireturn, 1, 1, 0, 0), (259, .aload_n 1, 1, 0, 0, 0), (260, .aload_n 0, 1, 0, 0, 0), (261, .iload_n 3, 1, 0, 0, 0), (262, .iconst 1, 1, 0, 0, 0), (263, .iadd, 1, 0, 0, 0), (264, .iaload, 1, 0, 0, 0), (265, .aload_n 0, 1, 0, 0, 0), (266, .iload_n 3, 1, 0, 0, 0), (267, .iconst 2, 1, 0, 0, 0), (268, .iadd, 1, 0, 0, 0), (269, .iaload, 1, 0, 0, 0), (270, .aload_n 0, 1, 0, 0, 0), (271, .iload_n 3, 1, 0, 0, 0), (272, .iconst 3, 1, 0, 0, 0), (273, .iadd, 1, 0, 0, 0), (274, .iaload, 1, 0, 0, 0), (275, .ifCond .eq 7, 3, 282, 0, 0), (278, .iconst 1, 1, 0, 0, 0), (279, .goto 4, 3, 283, 0, 0), (282, .iconst 0, 1, 0, 0, 0), (283, .aload_n 0, 1, 0, 0, 0), (284, .iload_n 3, 1, 0, 0, 0), (285, .iconst 4, 1, 0, 0, 0), (286, .iadd, 1, 0, 0, 0), (287, .iaload, 1, 0, 0, 0), (288, .invokevirtual 28, 3, 29, 4, 183), (291, .aload_n 2, 1, 0, 0, 0), (292, .aload_n 0, 1, 0, 0, 0), (293, .iload_n 3, 1, 0, 0, 0), (294, .iconst 1, 1, 0, 0, 0), (295, .iadd, 1, 0, 0, 0), (296, .iaload, 1, 0, 0, 0), (297, .aload_n 0, 1, 0, 0, 0), (298, .iload_n 3, 1, 0, 0, 0), (299, .iconst 2, 1, 0, 0, 0), (300, .iadd, 1, 0, 0, 0), (301, .iaload, 1, 0, 0, 0), (302, .aload_n 0, 1, 0, 0, 0), (303, .iload_n 3, 1, 0, 0, 0), (304, .iconst 3, 1, 0, 0, 0), (305, .iadd, 1, 0, 0, 0), (306, .iaload, 1, 0, 0, 0), (307, .ifCond .eq 7, 3, 314, 0, 0), (310, .iconst 1, 1, 0, 0, 0), (311, .goto 4, 3, 315, 0, 0), (314, .iconst 0, 1, 0, 0, 0), (315, .aload_n 0, 1, 0, 0, 0), (316, .iload_n 3, 1, 0, 0, 0), (317, .iconst 4, 1, 0, 0, 0), (318, .iadd, 1, 0, 0, 0), (319, .iaload, 1, 0, 0, 0), (320, .invokevirtual 32, 3, 85, 4, 695), (323, .if_icmp .eq 556, 3, 879, 0, 0), (326, .iconst 0, 1, 0, 0, 0), (327, .ireturn, 1, 1, 0, 0), (328, .aload_n 1, 1, 0, 0, 0), (329, .aload_n 0, 1, 0, 0, 0), (330, .iload_n 3, 1, 0, 0, 0), (331, .iconst 1, 1, 0, 0, 0), (332, .iadd, 1, 0, 0, 0), (333, .iaload, 1, 0, 0, 0), (334, .aload_n 0, 1, 0, 0, 0), (335, .iload_n 3, 1, 0, 0, 0), (336, .iconst 2, 1, 0, 0, 0), (337, .iadd, 1, 0, 0, 0), (338, .iaload, 1, 0, 0, 0), (339, .aload_n 0, 1, 0, 0, 0), (340, .iload_n 3, 1, 0, 0, 0), (341, .iconst 3, 1, 0, 0, 0), (342, .iadd, 1, 0, 0, 0), (343, .iaload, 1, 0, 0, 0), (344, .ifCond .eq 7, 3, 351, 0, 0), (347, .iconst 1, 1, 0, 0, 0), (348, .goto 4, 3, 352, 0, 0), (351, .iconst 0, 1, 0, 0, 0), (352, .aload_n 0, 1, 0, 0, 0), (353, .iload_n 3, 1, 0, 0, 0), (354, .iconst 4, 1, 0, 0, 0), (355, .iadd, 1, 0, 0, 0), (356, .iaload, 1, 0, 0, 0), (357, .ifCond .eq 7, 3, 364, 0, 0), (360, .iconst 1, 1, 0, 0, 0), (361, .goto 4, 3, 365, 0, 0), (364, .iconst 0, 1, 0, 0, 0), (365, .aload_n 0, 1, 0, 0, 0), (366, .iload_n 3, 1, 0, 0, 0), (367, .iconst 5, 1, 0, 0, 0), (368, .iadd, 1, 0, 0, 0), (369, .iaload, 1, 0, 0, 0), (370, .aload_n 0, 1, 0, 0, 0), (371, .iload_n 3, 1, 0, 0, 0), (372, .bipush 6, 2, 0, 0, 0), (374, .iadd, 1, 0, 0, 0), (375, .iaload, 1, 0, 0, 0), (376, .invokevirtual 33, 3, 30, 6, 228), (379, .aload_n 2, 1, 0, 0, 0), (380, .aload_n 0, 1, 0, 0, 0), (381, .iload_n 3, 1, 0, 0, 0), (382, .iconst 1, 1, 0, 0, 0), (383, .iadd, 1, 0, 0, 0), (384, .iaload, 1, 0, 0, 0), (385, .aload_n 0, 1, 0, 0, 0), (386, .iload_n 3, 1, 0, 0, 0), (387, .iconst 2, 1, 0, 0, 0), (388, .iadd, 1, 0, 0, 0), (389, .iaload, 1, 0, 0, 0), (390, .aload_n 0, 1, 0, 0, 0), (391, .iload_n 3, 1, 0, 0, 0), (392, .iconst 3, 1, 0, 0, 0), (393, .iadd, 1, 0, 0, 0), (394, .iaload, 1, 0, 0, 0), (395, .ifCond .eq 7, 3, 402, 0, 0), (398, .iconst 1, 1, 0, 0, 0), (399, .goto 4, 3, 403, 0, 0), (402, .iconst 0, 1, 0, 0, 0), (403, .aload_n 0, 1, 0, 0, 0), (404, .iload_n 3, 1, 0, 0, 0), (405, .iconst 4, 1, 0, 0, 0), (406, .iadd, 1, 0, 0, 0), (407, .iaload, 1, 0, 0, 0), (408, .ifCond .eq 7, 3, 415, 0, 0), (411, .iconst 1, 1, 0, 0, 0), (412, .goto 4, 3, 416, 0, 0), (415, .iconst 0, 1, 0, 0, 0), (416, .aload_n 0, 1, 0, 0, 0), (417, .iload_n 3, 1, 0, 0, 0), (418, .iconst 5, 1, 0, 0, 0), (419, .iadd, 1, 0, 0, 0), (420, .iaload, 1, 0, 0, 0), (421, .aload_n 0, 1, 0, 0, 0), (422, .iload_n 3, 1, 0, 0, 0), (423, .bipush 6, 2, 0, 0, 0), (425, .iadd, 1, 0, 0, 0), (426, .iaload, 1, 0, 0, 0), (427, .invokevirtual 37, 3, 92, 6, 699), (430, .if_icmp .eq 449, 3, 879, 0, 0), (433, .iconst 0, 1, 0, 0, 0), (434, .ireturn, 1, 1, 0, 0), (435, .aload_n 1, 1, 0, 0, 0), (436, .aload_n 0, 1, 0, 0, 0), (437, .iload_n 3, 1, 0, 0, 0), (438, .iconst 1, 1, 0, 0, 0), (439, .iadd, 1, 0, 0, 0), (440, .iaload, 1, 0, 0, 0), (441, .invokevirtual 38, 3, 31, 1, 337), (444, .aload_n 2, 1, 0, 0, 0), (445, .aload_n 0, 1, 0, 0, 0), (446, .iload_n 3, 1, 0, 0, 0), (447, .iconst 1, 1, 0, 0, 0), (448, .iadd, 1, 0, 0, 0), (449, .iaload, 1, 0, 0, 0), (450, .invokevirtual 41, 3, 95, 1, 734), (453, .if_icmp .eq 426, 3, 879, 0, 0), (456, .iconst 0, 1, 0, 0, 0), (457, .ireturn, 1, 1, 0, 0), (458, .aload_n 1, 1, 0, 0, 0), (459, .aload_n 0, 1, 0, 0, 0), (460, .iload_n 3, 1, 0, 0, 0), (461, .iconst 1, 1, 0, 0, 0), (462, .iadd, 1, 0, 0, 0), (463, .iaload, 1, 0, 0, 0), (464, .invokevirtual 42, 3, 32, 1, 365), (467, .aload_n 2, 1, 0, 0, 0), (468, .aload_n 0, 1, 0, 0, 0), (469, .iload_n 3, 1, 0, 0, 0), (470, .iconst 1, 1, 0, 0, 0), (471, .iadd, 1, 0, 0, 0), (472, .iaload, 1, 0, 0, 0), (473, .invokevirtual 45, 3, 97, 1, 750), (476, .if_icmp .eq 403, 3, 879, 0, 0), (479, .iconst 0, 1, 0, 0, 0), (480, .ireturn, 1, 1, 0, 0), (481, .aload_n 1, 1, 0, 0, 0), (482, .invokevirtual 46, 3, 33, 0, 382), (485, .aload_n 2, 1, 0, 0, 0), (486, .invokevirtual 50, 3, 98, 0, 759), (489, .if_icmp .eq 390, 3, 879, 0, 0), (492, .iconst 0, 1, 0, 0, 0), (493, .ireturn, 1, 1, 0, 0), (494, .aload_n 1, 1, 0, 0, 0), (495, .aload_n 0, 1, 0, 0, 0), (496, .iload_n 3, 1, 0, 0, 0), (497, .iconst 1, 1, 0, 0, 0), (498, .iadd, 1, 0, 0, 0), (499, .iaload, 1, 0, 0, 0), (500, .aload_n 0, 1, 0, 0, 0), (501, .iload_n 3, 1, 0, 0, 0), (502, .iconst 2, 1, 0, 0, 0), (503, .iadd, 1, 0, 0, 0), (504, .iaload, 1, 0, 0, 0), (505, .aload_n 0, 1, 0, 0, 0), (506, .iload_n 3, 1, 0, 0, 0), (507, .iconst 3, 1, 0, 0, 0), (508, .iadd, 1, 0, 0, 0), (509, .iaload, 1, 0, 0, 0), (510, .invokevirtual 51, 3, 34, 3, 403), (513, .aload_n 2, 1, 0, 0, 0), (514, .aload_n 0, 1, 0, 0, 0), (515, .iload_n 3, 1, 0, 0, 0), (516, .iconst 1, 1, 0, 0, 0), (517, .iadd, 1, 0, 0, 0), (518, .iaload, 1, 0, 0, 0), (519, .aload_n 0, 1, 0, 0, 0), (520, .iload_n 3, 1, 0, 0, 0), (521, .iconst 2, 1, 0, 0, 0), (522, .iadd, 1, 0, 0, 0), (523, .iaload, 1, 0, 0, 0), (524, .aload_n 0, 1, 0, 0, 0), (525, .iload_n 3, 1, 0, 0, 0), (526, .iconst 3, 1, 0, 0, 0), (527, .iadd, 1, 0, 0, 0), (528, .iaload, 1, 0, 0, 0), (529, .invokevirtual 55, 3, 105, 3, 778), (532, .if_icmp .eq 347, 3, 879, 0, 0), (535, .iconst 0, 1, 0, 0, 0), (536, .ireturn, 1, 1, 0, 0), (537, .aload_n 1, 1, 0, 0, 0), (538, .aload_n 0, 1, 0, 0, 0), (539, .iload_n 3, 1, 0, 0, 0), (540, .iconst 1, 1, 0, 0, 0), (541, .iadd, 1, 0, 0, 0), (542, .iaload, 1, 0, 0, 0), (543, .invokevirtual 56, 3, 35, 1, 423), (546, .aload_n 2, 1, 0, 0, 0), (547, .aload_n 0, 1, 0, 0, 0), (548, .iload_n 3, 1, 0, 0, 0), (549, .iconst 1, 1, 0, 0, 0), (550, .iadd, 1, 0, 0, 0), (551, .iaload, 1, 0, 0, 0), (552, .invokevirtual 59, 3, 104, 1, 763), (555, .if_icmp .eq 324, 3, 879, 0, 0), (558, .iconst 0, 1, 0, 0, 0), (559, .ireturn, 1, 1, 0, 0), (560, .aload_n 1, 1, 0, 0, 0), (561, .aload_n 0, 1, 0, 0, 0), (562, .iload_n 3, 1, 0, 0, 0), (563, .iconst 1, 1, 0, 0, 0), (564, .iadd, 1, 0, 0, 0), (565, .iaload, 1, 0, 0, 0), (566, .invokevirtual 60, 3, 36, 1, 427), (569, .aload_n 2, 1, 0, 0, 0), (570, .aload_n 0, 1, 0, 0, 0), (571, .iload_n 3, 1, 0, 0, 0), (572, .iconst 1, 1, 0, 0, 0), (573, .iadd, 1, 0, 0, 0), (574, .iaload, 1, 0, 0, 0), (575, .invokevirtual 63, 3, 106, 1, 783), (578, .if_icmp .eq 301, 3, 879, 0, 0), (581, .iconst 0, 1, 0, 0, 0), (582, .ireturn, 1, 1, 0, 0), (583, .aload_n 1, 1, 0, 0, 0), (584, .aload_n 0, 1, 0, 0, 0), (585, .iload_n 3, 1, 0, 0, 0), (586, .iconst 1, 1, 0, 0, 0), (587, .iadd, 1, 0, 0, 0), (588, .iaload, 1, 0, 0, 0), (589, .invokevirtual 64, 3, 37, 1, 437), (592, .aload_n 2, 1, 0, 0, 0), (593, .aload_n 0, 1, 0, 0, 0), (594, .iload_n 3, 1, 0, 0, 0), (595, .iconst 1, 1, 0, 0, 0), (596, .iadd, 1, 0, 0, 0), (597, .iaload, 1, 0, 0, 0), (598, .invokevirtual 67, 3, 107, 1, 787), (601, .if_icmp .eq 278, 3, 879, 0, 0), (604, .iconst 0, 1, 0, 0, 0), (605, .ireturn, 1, 1, 0, 0), (606, .aload_n 1, 1, 0, 0, 0), (607, .invokevirtual 68, 3, 38, 0, 453), (610, .aload_n 2, 1, 0, 0, 0), (611, .invokevirtual 71, 3, 108, 0, 799), (614, .if_icmp .eq 265, 3, 879, 0, 0), (617, .iconst 0, 1, 0, 0, 0), (618, .ireturn, 1, 1, 0, 0), (619, .aload_n 1, 1, 0, 0, 0), (620, .aload_n 0, 1, 0, 0, 0), (621, .iload_n 3, 1, 0, 0, 0), (622, .iconst 1, 1, 0, 0, 0), (623, .iadd, 1, 0, 0, 0), (624, .iaload, 1, 0, 0, 0), (625, .invokevirtual 72, 3, 39, 1, 462), (628, .aload_n 2, 1, 0, 0, 0), (629, .aload_n 0, 1, 0, 0, 0), (630, .iload_n 3, 1, 0, 0, 0), (631, .iconst 1, 1, 0, 0, 0), (632, .iadd, 1, 0, 0, 0), (633, .iaload, 1, 0, 0, 0), (634, .invokevirtual 75, 3, 109, 1, 803), (637, .if_icmp .eq 242, 3, 879, 0, 0), (640, .iconst 0, 1, 0, 0, 0), (641, .ireturn, 1, 1, 0, 0), (642, .aload_n 1, 1, 0, 0, 0), (643, .invokevirtual 76, 3, 40, 0, 478), (646, .aload_n 2, 1, 0, 0, 0), (647, .invokevirtual 79, 3, 110, 0, 807), (650, .if_icmp .eq 229, 3, 879, 0, 0), (653, .iconst 0, 1, 0, 0, 0), (654, .ireturn, 1, 1, 0, 0), (655, .aload_n 1, 1, 0, 0, 0), (656, .aload_n 0, 1, 0, 0, 0), (657, .iload_n 3, 1, 0, 0, 0), (658, .iconst 1, 1, 0, 0, 0), (659, .iadd, 1, 0, 0, 0), (660, .iaload, 1, 0, 0, 0), (661, .aload_n 0, 1, 0, 0, 0), (662, .iload_n 3, 1, 0, 0, 0), (663, .iconst 2, 1, 0, 0, 0), (664, .iadd, 1, 0, 0, 0), (665, .iaload, 1, 0, 0, 0), (666, .invokevirtual 80, 3, 41, 2, 510), (669, .aload_n 2, 1, 0, 0, 0), (670, .aload_n 0, 1, 0, 0, 0), (671, .iload_n 3, 1, 0, 0, 0), (672, .iconst 1, 1, 0, 0, 0), (673, .iadd, 1, 0, 0, 0), (674, .iaload, 1, 0, 0, 0), (675, .aload_n 0, 1, 0, 0, 0), (676, .iload_n 3, 1, 0, 0, 0), (677, .iconst 2, 1, 0, 0, 0), (678, .iadd, 1, 0, 0, 0), (679, .iaload, 1, 0, 0, 0), (680, .invokevirtual 84, 3, 111, 2, 811), (683, .if_icmp .eq 196, 3, 879, 0, 0), (686, .iconst 0, 1, 0, 0, 0), (687, .ireturn, 1, 1, 0, 0), (688, .aload_n 1, 1, 0, 0, 0), (689, .aload_n 0, 1, 0, 0, 0), (690, .iload_n 3, 1, 0, 0, 0), (691, .iconst 1, 1, 0, 0, 0), (692, .iadd, 1, 0, 0, 0), (693, .iaload, 1, 0, 0, 0), (694, .invokevirtual 85, 3, 42, 1, 514), (697, .aload_n 2, 1, 0, 0, 0), (698, .aload_n 0, 1, 0, 0, 0), (699, .iload_n 3, 1, 0, 0, 0), (700, .iconst 1, 1, 0, 0, 0), (701, .iadd, 1, 0, 0, 0), (702, .iaload, 1, 0, 0, 0), (703, .invokevirtual 88, 3, 112, 1, 815), (706, .if_icmp .eq 173, 3, 879, 0, 0), (709, .iconst 0, 1, 0, 0, 0), (710, .ireturn, 1, 1, 0, 0), (711, .aload_n 1, 1, 0, 0, 0), (712, .aload_n 0, 1, 0, 0, 0), (713, .iload_n 3, 1, 0, 0, 0), (714, .iconst 1, 1, 0, 0, 0), (715, .iadd, 1, 0, 0, 0), (716, .iaload, 1, 0, 0, 0), (717, .invokevirtual 89, 3, 43, 1, 519), (720, .aload_n 2, 1, 0, 0, 0), (721, .aload_n 0, 1, 0, 0, 0), (722, .iload_n 3, 1, 0, 0, 0), (723, .iconst 1, 1, 0, 0, 0), (724, .iadd, 1, 0, 0, 0), (725, .iaload, 1, 0, 0, 0), (726, .invokevirtual 93, 3, 113, 1, 819), (729, .if_icmp .eq 150, 3, 879, 0, 0), (732, .iconst 0, 1, 0, 0, 0), (733, .ireturn, 1, 1, 0, 0), (734, .aload_n 1, 1, 0, 0, 0), (735, .aload_n 0, 1, 0, 0, 0), (736, .iload_n 3, 1, 0, 0, 0), (737, .iconst 1, 1, 0, 0, 0), (738, .iadd, 1, 0, 0, 0), (739, .iaload, 1, 0, 0, 0), (740, .invokevirtual 94, 3, 44, 1, 527), (743, .aload_n 2, 1, 0, 0, 0), (744, .aload_n 0, 1, 0, 0, 0), (745, .iload_n 3, 1, 0, 0, 0), (746, .iconst 1, 1, 0, 0, 0), (747, .iadd, 1, 0, 0, 0), (748, .iaload, 1, 0, 0, 0), (749, .invokevirtual 97, 3, 114, 1, 823), (752, .if_icmp .eq 127, 3, 879, 0, 0), (755, .iconst 0, 1, 0, 0, 0), (756, .ireturn, 1, 1, 0, 0), (757, .aload_n 1, 1, 0, 0, 0), (758, .aload_n 0, 1, 0, 0, 0), (759, .iload_n 3, 1, 0, 0, 0), (760, .iconst 1, 1, 0, 0, 0), (761, .iadd, 1, 0, 0, 0), (762, .iaload, 1, 0, 0, 0), (763, .aload_n 0, 1, 0, 0, 0), (764, .iload_n 3, 1, 0, 0, 0), (765, .iconst 2, 1, 0, 0, 0), (766, .iadd, 1, 0, 0, 0), (767, .iaload, 1, 0, 0, 0), (768, .invokevirtual 98, 3, 45, 2, 531), (771, .aload_n 2, 1, 0, 0, 0), (772, .aload_n 0, 1, 0, 0, 0), (773, .iload_n 3, 1, 0, 0, 0), (774, .iconst 1, 1, 0, 0, 0), (775, .iadd, 1, 0, 0, 0), (776, .iaload, 1, 0, 0, 0), (777, .aload_n 0, 1, 0, 0, 0), (778, .iload_n 3, 1, 0, 0, 0), (779, .iconst 2, 1, 0, 0, 0), (780, .iadd, 1, 0, 0, 0), (781, .iaload, 1, 0, 0, 0), (782, .invokevirtual 101, 3, 115, 2, 827), (785, .if_icmp .eq 94, 3, 879, 0, 0), (788, .iconst 0, 1, 0, 0, 0), (789, .ireturn, 1, 1, 0, 0), (790, .aload_n 1, 1, 0, 0, 0), (791, .aload_n 0, 1, 0, 0, 0), (792, .iload_n 3, 1, 0, 0, 0), (793, .iconst 1, 1, 0, 0, 0), (794, .iadd, 1, 0, 0, 0), (795, .iaload, 1, 0, 0, 0), (796, .aload_n 0, 1, 0, 0, 0), (797, .iload_n 3, 1, 0, 0, 0), (798, .iconst 2, 1, 0, 0, 0), (799, .iadd, 1, 0, 0, 0), (800, .iaload, 1, 0, 0, 0), (801, .invokevirtual 102, 3, 46, 2, 538), (804, .aload_n 2, 1, 0, 0, 0), (805, .aload_n 0, 1, 0, 0, 0), (806, .iload_n 3, 1, 0, 0, 0), (807, .iconst 1, 1, 0, 0, 0), (808, .iadd, 1, 0, 0, 0), (809, .iaload, 1, 0, 0, 0), (810, .aload_n 0, 1, 0, 0, 0), (811, .iload_n 3, 1, 0, 0, 0), (812, .iconst 2, 1, 0, 0, 0), (813, .iadd, 1, 0, 0, 0), (814, .iaload, 1, 0, 0, 0), (815, .invokevirtual 105, 3, 116, 2, 831), (818, .if_icmp .eq 61, 3, 879, 0, 0), (821, .iconst 0, 1, 0, 0, 0), (822, .ireturn, 1, 1, 0, 0), (823, .aload_n 1, 1, 0, 0, 0), (824, .aload_n 0, 1, 0, 0, 0), (825, .iload_n 3, 1, 0, 0, 0), (826, .iconst 1, 1, 0, 0, 0), (827, .iadd, 1, 0, 0, 0), (828, .iaload, 1, 0, 0, 0), (829, .aload_n 0, 1, 0, 0, 0), (830, .iload_n 3, 1, 0, 0, 0), (831, .iconst 2, 1, 0, 0, 0), (832, .iadd, 1, 0, 0, 0), (833, .iaload, 1, 0, 0, 0), (834, .invokevirtual 106, 3, 47, 2, 547), (837, .aload_n 2, 1, 0, 0, 0), (838, .aload_n 0, 1, 0, 0, 0), (839, .iload_n 3, 1, 0, 0, 0), (840, .iconst 1, 1, 0, 0, 0), (841, .iadd, 1, 0, 0, 0), (842, .iaload, 1, 0, 0, 0), (843, .aload_n 0, 1, 0, 0, 0), (844, .iload_n 3, 1, 0, 0, 0), (845, .iconst 2, 1, 0, 0, 0), (846, .iadd, 1, 0, 0, 0), (847, .iaload, 1, 0, 0, 0), (848, .invokevirtual 109, 3, 117, 2, 835), (851, .if_icmp .eq 28, 3, 879, 0, 0), (854, .iconst 0, 1, 0, 0, 0), (855, .ireturn, 1, 1, 0, 0), (856, .aload_n 1, 1, 0, 0, 0), (857, .aload_n 0, 1, 0, 0, 0), (858, .iload_n 3, 1, 0, 0, 0), (859, .iconst 1, 1, 0, 0, 0), (860, .iadd, 1, 0, 0, 0), (861, .iaload, 1, 0, 0, 0), (862, .invokevirtual 110, 3, 48, 1, 551), (865, .aload_n 2, 1, 0, 0, 0), (866, .aload_n 0, 1, 0, 0, 0), (867, .iload_n 3, 1, 0, 0, 0), (868, .iconst 1, 1, 0, 0, 0), (869, .iadd, 1, 0, 0, 0), (870, .iaload, 1, 0, 0, 0), (871, .invokevirtual 113, 3, 118, 1, 839), (874, .if_icmp .eq 5, 3, 879, 0, 0), (877, .iconst 0, 1, 0, 0, 0), (878, .ireturn, 1, 1, 0, 0), (879, .iinc 3 7, 3, 0, 0, 0), (882, .goto (-864), 3, 18, 0, 0), (885, .iconst 1, 1, 0, 0, 0), (886, .ireturn, 1, 1, 0, 0)]
/-- the methods: name, bytes, locals, answer, own class, code -/
abbrev am_M : Type := MethodName × ByteArray × Nat × Option FieldType × String × List am_E
def mX0_init : am_M := (yX0_init, cX0_init, 1, none, RX0, kX0_init)
abbrev nX0_init : Nat := 0
def mX0_clear : am_M := (yX0_clear, cX0_clear, 2, none, RX0, kX0_clear)
abbrev nX0_clear : Nat := 1
def mX0_add : am_M := (yX0_add, cX0_add, 2, (some .boolean), RX0, kX0_add)
abbrev nX0_add : Nat := 2
def mX0_offer : am_M := (yX0_offer, cX0_offer, 6, none, RX0, kX0_offer)
abbrev nX0_offer : Nat := 3
def mX0_leastSum : am_M := (yX0_leastSum, cX0_leastSum, 1, (some .int), RX0, kX0_leastSum)
abbrev nX0_leastSum : Nat := 4
def mX0_fullSet : am_M := (yX0_fullSet, cX0_fullSet, 1, (some .int), RX0, kX0_fullSet)
abbrev nX0_fullSet : Nat := 5
def mX0_partSum : am_M := (yX0_partSum, cX0_partSum, 8, (some .int), RX0, kX0_partSum)
abbrev nX0_partSum : Nat := 6
def mX1_init : am_M := (yX1_init, cX1_init, 2, none, RX1, kX1_init)
abbrev nX1_init : Nat := 7
def mX1_toldCount : am_M := (yX1_toldCount, cX1_toldCount, 3, (some .int), RX1, kX1_toldCount)
abbrev nX1_toldCount : Nat := 8
def mX1_isAbout : am_M := (yX1_isAbout, cX1_isAbout, 3, (some .boolean), RX1, kX1_isAbout)
abbrev nX1_isAbout : Nat := 9
def mX2_init : am_M := (yX2_init, cX2_init, 6, none, RX2, kX2_init)
abbrev nX2_init : Nat := 10
def mX2_dayPrice : am_M := (yX2_dayPrice, cX2_dayPrice, 3, (some .int), RX2, kX2_dayPrice)
abbrev nX2_dayPrice : Nat := 11
def mX3_init : am_M := (yX3_init, cX3_init, 6, none, RX3, kX3_init)
abbrev nX3_init : Nat := 12
def mX3_suits : am_M := (yX3_suits, cX3_suits, 2, (some .boolean), RX3, kX3_suits)
abbrev nX3_suits : Nat := 13
def mX3_fits : am_M := (yX3_fits, cX3_fits, 2, (some .boolean), RX3, kX3_fits)
abbrev nX3_fits : Nat := 14
def mX3_take : am_M := (yX3_take, cX3_take, 2, none, RX3, kX3_take)
abbrev nX3_take : Nat := 15
def mX3_release : am_M := (yX3_release, cX3_release, 2, none, RX3, kX3_release)
abbrev nX3_release : Nat := 16
def mX4_init : am_M := (yX4_init, cX4_init, 8, none, RX4, kX4_init)
abbrev nX4_init : Nat := 17
def mX4_dueDay : am_M := (yX4_dueDay, cX4_dueDay, 1, (some .int), RX4, kX4_dueDay)
abbrev nX4_dueDay : Nat := 18
def mX4_markAt : am_M := (yX4_markAt, cX4_markAt, 2, (some .int), RX4, kX4_markAt)
abbrev nX4_markAt : Nat := 19
def mX4_wanted : am_M := (yX4_wanted, cX4_wanted, 3, (some .int), RX4, kX4_wanted)
abbrev nX4_wanted : Nat := 20
def mX4_misfitOn : am_M := (yX4_misfitOn, cX4_misfitOn, 3, (some .int), RX4, kX4_misfitOn)
abbrev nX4_misfitOn : Nat := 21
def mX4_misfitHere : am_M := (yX4_misfitHere, cX4_misfitHere, 2, (some .int), RX4, kX4_misfitHere)
abbrev nX4_misfitHere : Nat := 22
def mX4_placeNumber : am_M := (yX4_placeNumber, cX4_placeNumber, 1, (some .int), RX4, kX4_placeNumber)
abbrev nX4_placeNumber : Nat := 23
def mX4_isStuck : am_M := (yX4_isStuck, cX4_isStuck, 1, (some .boolean), RX4, kX4_isStuck)
abbrev nX4_isStuck : Nat := 24
def mX5_init : am_M := (yX5_init, cX5_init, 1, none, RX5, kX5_init)
abbrev nX5_init : Nat := 25
def mX5_clock : am_M := (yX5_clock, cX5_clock, 2, (some .int), RX5, kX5_clock)
abbrev nX5_clock : Nat := 26
def mX5_hours : am_M := (yX5_hours, cX5_hours, 3, (some .boolean), RX5, kX5_hours)
abbrev nX5_hours : Nat := 27
def mX5_prices : am_M := (yX5_prices, cX5_prices, 6, (some .boolean), RX5, kX5_prices)
abbrev nX5_prices : Nat := 28
def mX5_shelf : am_M := (yX5_shelf, cX5_shelf, 6, (some .int), RX5, kX5_shelf)
abbrev nX5_shelf : Nat := 29
def mX5_put : am_M := (yX5_put, cX5_put, 10, (some .int), RX5, kX5_put)
abbrev nX5_put : Nat := 30
def mX5_fee : am_M := (yX5_fee, cX5_fee, 3, (some .int), RX5, kX5_fee)
abbrev nX5_fee : Nat := 31
def mX5_give : am_M := (yX5_give, cX5_give, 4, (some .int), RX5, kX5_give)
abbrev nX5_give : Nat := 32
def mX5_claim : am_M := (yX5_claim, cX5_claim, 2, (some .int), RX5, kX5_claim)
abbrev nX5_claim : Nat := 33
def mX5_mark : am_M := (yX5_mark, cX5_mark, 5, (some .int), RX5, kX5_mark)
abbrev nX5_mark : Nat := 34
def mX5_means : am_M := (yX5_means, cX5_means, 3, (some .int), RX5, kX5_means)
abbrev nX5_means : Nat := 35
def mX5_ask : am_M := (yX5_ask, cX5_ask, 7, (some .int), RX5, kX5_ask)
abbrev nX5_ask : Nat := 36
def mX5_settle : am_M := (yX5_settle, cX5_settle, 6, (some .int), RX5, kX5_settle)
abbrev nX5_settle : Nat := 37
def mX5_misfit : am_M := (yX5_misfit, cX5_misfit, 4, (some .int), RX5, kX5_misfit)
abbrev nX5_misfit : Nat := 38
def mX5_tidy : am_M := (yX5_tidy, cX5_tidy, 3, (some .int), RX5, kX5_tidy)
abbrev nX5_tidy : Nat := 39
def mX5_least : am_M := (yX5_least, cX5_least, 4, (some .int), RX5, kX5_least)
abbrev nX5_least : Nat := 40
def mX5_sell : am_M := (yX5_sell, cX5_sell, 4, (some .int), RX5, kX5_sell)
abbrev nX5_sell : Nat := 41
def mX5_pay : am_M := (yX5_pay, cX5_pay, 5, (some .int), RX5, kX5_pay)
abbrev nX5_pay : Nat := 42
def mX5_tear : am_M := (yX5_tear, cX5_tear, 3, (some .boolean), RX5, kX5_tear)
abbrev nX5_tear : Nat := 43
def mX5_mend : am_M := (yX5_mend, cX5_mend, 3, (some .boolean), RX5, kX5_mend)
abbrev nX5_mend : Nat := 44
def mX5_shelfOf : am_M := (yX5_shelfOf, cX5_shelfOf, 4, (some .int), RX5, kX5_shelfOf)
abbrev nX5_shelfOf : Nat := 45
def mX5_thing : am_M := (yX5_thing, cX5_thing, 4, (some .int), RX5, kX5_thing)
abbrev nX5_thing : Nat := 46
def mX5_claimOf : am_M := (yX5_claimOf, cX5_claimOf, 4, (some .int), RX5, kX5_claimOf)
abbrev nX5_claimOf : Nat := 47
def mX5_count : am_M := (yX5_count, cX5_count, 2, (some .int), RX5, kX5_count)
abbrev nX5_count : Nat := 48
def mX5_isWithin : am_M := (yX5_isWithin, cX5_isWithin, 3, (some .boolean), RX5, kX5_isWithin)
abbrev nX5_isWithin : Nat := 49
def mX5_isPrice : am_M := (yX5_isPrice, cX5_isPrice, 1, (some .boolean), RX5, kX5_isPrice)
abbrev nX5_isPrice : Nat := 50
def mX5_asNumber : am_M := (yX5_asNumber, cX5_asNumber, 1, (some .int), RX5, kX5_asNumber)
abbrev nX5_asNumber : Nat := 51
def mX5_dayOf : am_M := (yX5_dayOf, cX5_dayOf, 1, (some .int), RX5, kX5_dayOf)
abbrev nX5_dayOf : Nat := 52
def mX5_today : am_M := (yX5_today, cX5_today, 1, (some .int), RX5, kX5_today)
abbrev nX5_today : Nat := 53
def mX5_isOpen : am_M := (yX5_isOpen, cX5_isOpen, 2, (some .boolean), RX5, kX5_isOpen)
abbrev nX5_isOpen : Nat := 54
def mX5_shelfAt : am_M := (yX5_shelfAt, cX5_shelfAt, 2, (some (.object "LuggageCounter$Shelf")), RX5, kX5_shelfAt)
abbrev nX5_shelfAt : Nat := 55
def mX5_thingAt : am_M := (yX5_thingAt, cX5_thingAt, 2, (some (.object "LuggageCounter$Thing")), RX5, kX5_thingAt)
abbrev nX5_thingAt : Nat := 56
def mX5_claimAt : am_M := (yX5_claimAt, cX5_claimAt, 2, (some (.object "LuggageCounter$Claim")), RX5, kX5_claimAt)
abbrev nX5_claimAt : Nat := 57
def mX5_ticketOf : am_M := (yX5_ticketOf, cX5_ticketOf, 1, (some .int), RX5, kX5_ticketOf)
abbrev nX5_ticketOf : Nat := 58
def mX5_checkOf : am_M := (yX5_checkOf, cX5_checkOf, 1, (some .int), RX5, kX5_checkOf)
abbrev nX5_checkOf : Nat := 59
def mX5_isTicket : am_M := (yX5_isTicket, cX5_isTicket, 1, (some .boolean), RX5, kX5_isTicket)
abbrev nX5_isTicket : Nat := 60
def mX5_lastRowDay : am_M := (yX5_lastRowDay, cX5_lastRowDay, 2, (some .int), RX5, kX5_lastRowDay)
abbrev nX5_lastRowDay : Nat := 61
def mX5_rowOn : am_M := (yX5_rowOn, cX5_rowOn, 5, (some (.object "LuggageCounter$PriceRow")), RX5, kX5_rowOn)
abbrev nX5_rowOn : Nat := 62
def mX5_feeOf : am_M := (yX5_feeOf, cX5_feeOf, 8, (some .int), RX5, kX5_feeOf)
abbrev nX5_feeOf : Nat := 63
def mX5_letOldCoinsFall : am_M := (yX5_letOldCoinsFall, cX5_letOldCoinsFall, 3, none, RX5, kX5_letOldCoinsFall)
abbrev nX5_letOldCoinsFall : Nat := 64
def mX5_shelfForNew : am_M := (yX5_shelfForNew, cX5_shelfForNew, 5, (some (.object "LuggageCounter$Shelf")), RX5, kX5_shelfForNew)
abbrev nX5_shelfForNew : Nat := 65
def mX5_isNearer : am_M := (yX5_isNearer, cX5_isNearer, 6, (some .boolean), RX5, kX5_isNearer)
abbrev nX5_isNearer : Nat := 66
def mX5_takeAway : am_M := (yX5_takeAway, cX5_takeAway, 4, none, RX5, kX5_takeAway)
abbrev nX5_takeAway : Nat := 67
def mX5_meantBy : am_M := (yX5_meantBy, cX5_meantBy, 5, (some .int), RX5, kX5_meantBy)
abbrev nX5_meantBy : Nat := 68
def mX5_firstMeantBy : am_M := (yX5_firstMeantBy, cX5_firstMeantBy, 4, (some .int), RX5, kX5_firstMeantBy)
abbrev nX5_firstMeantBy : Nat := 69
def mX5_greatestHeap : am_M := (yX5_greatestHeap, cX5_greatestHeap, 7, (some .int), RX5, kX5_greatestHeap)
abbrev nX5_greatestHeap : Nat := 70
def mX5_isContested : am_M := (yX5_isContested, cX5_isContested, 5, (some .boolean), RX5, kX5_isContested)
abbrev nX5_isContested : Nat := 71
def mX5_makeBestMove : am_M := (yX5_makeBestMove, cX5_makeBestMove, 8, (some .boolean), RX5, kX5_makeBestMove)
abbrev nX5_makeBestMove : Nat := 72
def mX5_shelfForMove : am_M := (yX5_shelfForMove, cX5_shelfForMove, 7, (some (.object "LuggageCounter$Shelf")), RX5, kX5_shelfForMove)
abbrev nX5_shelfForMove : Nat := 73
def mX5_move : am_M := (yX5_move, cX5_move, 4, none, RX5, kX5_move)
abbrev nX5_move : Nat := 74
def mX5_thingsIn : am_M := (yX5_thingsIn, cX5_thingsIn, 4, (some .int), RX5, kX5_thingsIn)
abbrev nX5_thingsIn : Nat := 75
def mX5_coinsKept : am_M := (yX5_coinsKept, cX5_coinsKept, 4, (some .int), RX5, kX5_coinsKept)
abbrev nX5_coinsKept : Nat := 76
def mX6_init : am_M := (yX6_init, cX6_init, 1, none, RX6, kX6_init)
abbrev nX6_init : Nat := 77
def mX6_in : am_M := (yX6_in, cX6_in, 3, (some .boolean), RX6, kX6_in)
abbrev nX6_in : Nat := 78
def mX6_gap : am_M := (yX6_gap, cX6_gap, 2, (some .int), RX6, kX6_gap)
abbrev nX6_gap : Nat := 79
def mX6_isOpen : am_M := (yX6_isOpen, cX6_isOpen, 1, (some .boolean), RX6, kX6_isOpen)
abbrev nX6_isOpen : Nat := 80
def mX6_hours : am_M := (yX6_hours, cX6_hours, 3, (some .boolean), RX6, kX6_hours)
abbrev nX6_hours : Nat := 81
def mX6_clock : am_M := (yX6_clock, cX6_clock, 3, (some .int), RX6, kX6_clock)
abbrev nX6_clock : Nat := 82
def mX6_prices : am_M := (yX6_prices, cX6_prices, 6, (some .boolean), RX6, kX6_prices)
abbrev nX6_prices : Nat := 83
def mX6_rowOf : am_M := (yX6_rowOf, cX6_rowOf, 4, (some .int), RX6, kX6_rowOf)
abbrev nX6_rowOf : Nat := 84
def mX6_shelf : am_M := (yX6_shelf, cX6_shelf, 5, (some .int), RX6, kX6_shelf)
abbrev nX6_shelf : Nat := 85
def mX6_free : am_M := (yX6_free, cX6_free, 4, (some .int), RX6, kX6_free)
abbrev nX6_free : Nat := 86
def mX6_suits : am_M := (yX6_suits, cX6_suits, 3, (some .boolean), RX6, kX6_suits)
abbrev nX6_suits : Nat := 87
def mX6_fits : am_M := (yX6_fits, cX6_fits, 3, (some .boolean), RX6, kX6_fits)
abbrev nX6_fits : Nat := 88
def mX6_wanted : am_M := (yX6_wanted, cX6_wanted, 3, (some .int), RX6, kX6_wanted)
abbrev nX6_wanted : Nat := 89
def mX6_misfitOn : am_M := (yX6_misfitOn, cX6_misfitOn, 3, (some .int), RX6, kX6_misfitOn)
abbrev nX6_misfitOn : Nat := 90
def mX6_ticketOf : am_M := (yX6_ticketOf, cX6_ticketOf, 1, (some .int), RX6, kX6_ticketOf)
abbrev nX6_ticketOf : Nat := 91
def mX6_put : am_M := (yX6_put, cX6_put, 10, (some .int), RX6, kX6_put)
abbrev nX6_put : Nat := 92
def mX6_feeOf : am_M := (yX6_feeOf, cX6_feeOf, 8, (some .int), RX6, kX6_feeOf)
abbrev nX6_feeOf : Nat := 93
def mX6_thingOf : am_M := (yX6_thingOf, cX6_thingOf, 2, (some .int), RX6, kX6_thingOf)
abbrev nX6_thingOf : Nat := 94
def mX6_fee : am_M := (yX6_fee, cX6_fee, 3, (some .int), RX6, kX6_fee)
abbrev nX6_fee : Nat := 95
def mX6_leaves : am_M := (yX6_leaves, cX6_leaves, 3, none, RX6, kX6_leaves)
abbrev nX6_leaves : Nat := 96
def mX6_give : am_M := (yX6_give, cX6_give, 4, (some .int), RX6, kX6_give)
abbrev nX6_give : Nat := 97
def mX6_claim : am_M := (yX6_claim, cX6_claim, 2, (some .int), RX6, kX6_claim)
abbrev nX6_claim : Nat := 98
def mX6_isClaim : am_M := (yX6_isClaim, cX6_isClaim, 2, (some .boolean), RX6, kX6_isClaim)
abbrev nX6_isClaim : Nat := 99
def mX6_markOf : am_M := (yX6_markOf, cX6_markOf, 2, (some .int), RX6, kX6_markOf)
abbrev nX6_markOf : Nat := 100
def mX6_isMeant : am_M := (yX6_isMeant, cX6_isMeant, 4, (some .boolean), RX6, kX6_isMeant)
abbrev nX6_isMeant : Nat := 101
def mX6_meant : am_M := (yX6_meant, cX6_meant, 4, (some .int), RX6, kX6_meant)
abbrev nX6_meant : Nat := 102
def mX6_manyTold : am_M := (yX6_manyTold, cX6_manyTold, 4, (some .int), RX6, kX6_manyTold)
abbrev nX6_manyTold : Nat := 103
def mX6_means : am_M := (yX6_means, cX6_means, 4, (some .int), RX6, kX6_means)
abbrev nX6_means : Nat := 104
def mX6_mark : am_M := (yX6_mark, cX6_mark, 4, (some .int), RX6, kX6_mark)
abbrev nX6_mark : Nat := 105
def mX6_ask : am_M := (yX6_ask, cX6_ask, 9, (some .int), RX6, kX6_ask)
abbrev nX6_ask : Nat := 106
def mX6_settle : am_M := (yX6_settle, cX6_settle, 5, (some .int), RX6, kX6_settle)
abbrev nX6_settle : Nat := 107
def mX6_misfit : am_M := (yX6_misfit, cX6_misfit, 3, (some .int), RX6, kX6_misfit)
abbrev nX6_misfit : Nat := 108
def mX6_tidy : am_M := (yX6_tidy, cX6_tidy, 10, (some .int), RX6, kX6_tidy)
abbrev nX6_tidy : Nat := 109
def mX6_least : am_M := (yX6_least, cX6_least, 8, (some .int), RX6, kX6_least)
abbrev nX6_least : Nat := 110
def mX6_sell : am_M := (yX6_sell, cX6_sell, 3, (some .int), RX6, kX6_sell)
abbrev nX6_sell : Nat := 111
def mX6_pay : am_M := (yX6_pay, cX6_pay, 6, (some .int), RX6, kX6_pay)
abbrev nX6_pay : Nat := 112
def mX6_tear : am_M := (yX6_tear, cX6_tear, 2, (some .boolean), RX6, kX6_tear)
abbrev nX6_tear : Nat := 113
def mX6_mend : am_M := (yX6_mend, cX6_mend, 2, (some .boolean), RX6, kX6_mend)
abbrev nX6_mend : Nat := 114
def mX6_shelfOf : am_M := (yX6_shelfOf, cX6_shelfOf, 5, (some .int), RX6, kX6_shelfOf)
abbrev nX6_shelfOf : Nat := 115
def mX6_thing : am_M := (yX6_thing, cX6_thing, 3, (some .int), RX6, kX6_thing)
abbrev nX6_thing : Nat := 116
def mX6_claimOf : am_M := (yX6_claimOf, cX6_claimOf, 3, (some .int), RX6, kX6_claimOf)
abbrev nX6_claimOf : Nat := 117
def mX6_count : am_M := (yX6_count, cX6_count, 5, (some .int), RX6, kX6_count)
abbrev nX6_count : Nat := 118
def mJ9_abs_0f7a4 : am_M := (yJ9_abs_0f7a4, cJ9_abs_0f7a4, 1, (some .int), RJ9, kJ9_abs_0f7a4)
abbrev nJ9_abs_0f7a4 : Nat := 119
def mJ9_max_7cf53 : am_M := (yJ9_max_7cf53, cJ9_max_7cf53, 2, (some .int), RJ9, kJ9_max_7cf53)
abbrev nJ9_max_7cf53 : Nat := 120
def mJ9_min_7cf53 : am_M := (yJ9_min_7cf53, cJ9_min_7cf53, 2, (some .int), RJ9, kJ9_min_7cf53)
abbrev nJ9_min_7cf53 : Nat := 121
def mL_law : am_M := (yL_law, cL_law, 4, (some .boolean), RL, kL_law)
abbrev nL_law : Nat := 122
def am_ms : List am_M := [mX0_init, mX0_clear, mX0_add, mX0_offer, mX0_leastSum, mX0_fullSet, mX0_partSum, mX1_init, mX1_toldCount, mX1_isAbout, mX2_init, mX2_dayPrice, mX3_init, mX3_suits, mX3_fits, mX3_take, mX3_release, mX4_init, mX4_dueDay, mX4_markAt, mX4_wanted, mX4_misfitOn, mX4_misfitHere, mX4_placeNumber, mX4_isStuck, mX5_init, mX5_clock, mX5_hours, mX5_prices, mX5_shelf, mX5_put, mX5_fee, mX5_give, mX5_claim, mX5_mark, mX5_means, mX5_ask, mX5_settle, mX5_misfit, mX5_tidy, mX5_least, mX5_sell, mX5_pay, mX5_tear, mX5_mend, mX5_shelfOf, mX5_thing, mX5_claimOf, mX5_count, mX5_isWithin, mX5_isPrice, mX5_asNumber, mX5_dayOf, mX5_today, mX5_isOpen, mX5_shelfAt, mX5_thingAt, mX5_claimAt, mX5_ticketOf, mX5_checkOf, mX5_isTicket, mX5_lastRowDay, mX5_rowOn, mX5_feeOf, mX5_letOldCoinsFall, mX5_shelfForNew, mX5_isNearer, mX5_takeAway, mX5_meantBy, mX5_firstMeantBy, mX5_greatestHeap, mX5_isContested, mX5_makeBestMove, mX5_shelfForMove, mX5_move, mX5_thingsIn, mX5_coinsKept, mX6_init, mX6_in, mX6_gap, mX6_isOpen, mX6_hours, mX6_clock, mX6_prices, mX6_rowOf, mX6_shelf, mX6_free, mX6_suits, mX6_fits, mX6_wanted, mX6_misfitOn, mX6_ticketOf, mX6_put, mX6_feeOf, mX6_thingOf, mX6_fee, mX6_leaves, mX6_give, mX6_claim, mX6_isClaim, mX6_markOf, mX6_isMeant, mX6_meant, mX6_manyTold, mX6_means, mX6_mark, mX6_ask, mX6_settle, mX6_misfit, mX6_tidy, mX6_least, mX6_sell, mX6_pay, mX6_tear, mX6_mend, mX6_shelfOf, mX6_thing, mX6_claimOf, mX6_count, mJ9_abs_0f7a4, mJ9_max_7cf53, mJ9_min_7cf53, mL_law]
def am_m (y : Nat) : am_M := am_ms.getD y mL_law
/-- of a method: the places of its words in lw_tbl: code, static or instance, 1 if static, selects (0: none), initialized; how many parameters -/
def am_pos : List (Nat × Nat × Nat × Nat × Nat × Nat) := [(66, 65, 0, 0, 39, 0), (485, 483, 0, 484, 39, 0), (490, 488, 0, 489, 39, 1), (494, 492, 0, 493, 39, 2), (509, 507, 0, 508, 39, 0), (498, 497, 0, 18, 39, 0), (502, 501, 0, 19, 39, 3), (389, 388, 0, 0, 45, 0), (444, 442, 0, 443, 45, 0), (418, 416, 0, 417, 45, 1), (163, 162, 0, 0, 41, 5), (364, 362, 0, 363, 41, 1), (190, 189, 0, 0, 42, 5), (305, 303, 0, 304, 42, 1), (301, 299, 0, 300, 42, 1), (330, 328, 0, 329, 42, 1), (381, 379, 0, 380, 42, 1), (240, 239, 0, 0, 43, 7), (359, 357, 0, 358, 43, 0), (422, 420, 0, 421, 43, 1), (317, 315, 0, 316, 43, 1), (313, 311, 0, 312, 43, 2), (460, 458, 0, 459, 43, 1), (545, 543, 0, 544, 43, 0), (373, 371, 0, 372, 43, 0), (50, 49, 0, 0, 38, 0), (129, 127, 0, 128, 38, 1), (145, 143, 0, 144, 38, 2), (149, 147, 0, 148, 38, 5), (186, 184, 0, 185, 38, 4), (231, 229, 0, 230, 38, 6), (340, 338, 0, 339, 38, 1), (368, 366, 0, 367, 38, 1), (385, 383, 0, 384, 38, 0), (406, 404, 0, 405, 38, 3), (426, 424, 0, 425, 38, 1), (430, 428, 0, 429, 38, 1), (440, 438, 0, 439, 38, 1), (456, 454, 0, 455, 38, 0), (465, 463, 0, 464, 38, 1), (481, 479, 0, 480, 38, 0), (513, 511, 0, 512, 38, 2), (517, 515, 0, 516, 38, 1), (522, 520, 0, 521, 38, 1), (530, 528, 0, 529, 38, 1), (534, 532, 0, 533, 38, 2), (541, 539, 0, 540, 38, 2), (550, 548, 0, 549, 38, 2), (554, 552, 0, 553, 38, 1), (155, 154, 1, 0, 38, 3), (152, 151, 1, 0, 38, 1), (537, 536, 1, 0, 38, 1), (141, 140, 1, 0, 38, 1), (138, 137, 0, 1, 38, 0), (236, 235, 0, 3, 38, 0), (526, 525, 0, 20, 38, 1), (347, 346, 0, 6, 38, 1), (410, 409, 0, 10, 38, 1), (333, 332, 1, 0, 38, 1), (336, 335, 1, 0, 38, 1), (343, 342, 1, 0, 38, 1), (159, 158, 0, 2, 38, 0), (355, 354, 0, 8, 38, 1), (351, 350, 0, 7, 38, 1), (134, 133, 0, 0, 38, 0), (297, 296, 0, 4, 38, 1), (309, 308, 0, 5, 38, 3), (377, 376, 0, 9, 38, 2), (414, 413, 0, 11, 38, 1), (448, 447, 0, 13, 38, 1), (434, 433, 0, 12, 38, 2), (452, 451, 0, 14, 38, 2), (469, 468, 0, 15, 38, 0), (473, 472, 0, 16, 38, 1), (477, 476, 0, 17, 38, 2), (558, 557, 0, 21, 38, 0), (562, 561, 0, 22, 38, 0), (567, 566, 0, 0, 40, 0), (685, 684, 1, 0, 40, 3), (730, 729, 1, 0, 40, 2), (707, 706, 0, 23, 40, 0), (682, 680, 0, 681, 40, 2), (689, 687, 0, 688, 40, 1), (694, 692, 0, 693, 40, 5), (749, 748, 0, 31, 40, 1), (698, 696, 0, 697, 40, 4), (719, 718, 0, 26, 40, 1), (715, 714, 0, 25, 40, 2), (711, 710, 0, 24, 40, 2), (727, 726, 0, 28, 40, 1), (723, 722, 0, 27, 40, 2), (733, 732, 1, 0, 40, 1), (702, 700, 0, 701, 40, 6), (745, 744, 0, 30, 40, 1), (741, 740, 0, 29, 40, 1), (737, 735, 0, 736, 40, 1), (758, 757, 0, 32, 40, 2), (753, 751, 0, 752, 40, 1), (762, 760, 0, 761, 40, 0), (770, 769, 0, 33, 40, 1), (777, 776, 1, 0, 40, 2), (774, 773, 0, 34, 40, 2), (798, 797, 0, 36, 40, 1), (794, 793, 0, 35, 40, 1), (766, 764, 0, 765, 40, 1), (781, 779, 0, 780, 40, 3), (786, 784, 0, 785, 40, 1), (790, 788, 0, 789, 40, 1), (802, 800, 0, 801, 40, 0), (806, 804, 0, 805, 40, 1), (810, 808, 0, 809, 40, 0), (814, 812, 0, 813, 40, 2), (818, 816, 0, 817, 40, 1), (822, 820, 0, 821, 40, 1), (826, 824, 0, 825, 40, 1), (830, 828, 0, 829, 40, 2), (834, 832, 0, 833, 40, 2), (838, 836, 0, 837, 40, 2), (842, 840, 0, 841, 40, 1), (326, 325, 1, 0, 44, 1), (320, 319, 1, 0, 44, 2), (323, 322, 1, 0, 44, 2)]
end
section
/-! THE ABSTRACT MACHINE: a heap of numbered cells with int and reference contents, and what each instruction does to it -/
abbrev Hp : Type := Nat × Nat × (Nat → Nat) × (Nat → Nat) × (Nat → Nat → Int32) × (Nat → Nat → Option Nat)
def am_n (h : Hp) : Nat := h.1
def am_z (h : Hp) : Nat := h.2.1
def am_k (h : Hp) : Nat → Nat := h.2.2.1
def am_l (h : Hp) : Nat → Nat := h.2.2.2.1
def am_i (h : Hp) : Nat → Nat → Int32 := h.2.2.2.2.1
def am_r (h : Hp) : Nat → Nat → Option Nat := h.2.2.2.2.2
def am_setI (h : Hp) (a k : Nat) (v : Int32) : Hp := (am_n h, am_z h, am_k h, am_l h, fun x j => if x = a ∧ j = k then v else am_i h x j, am_r h)
def am_setR (h : Hp) (a k : Nat) (v : Option Nat) : Hp := (am_n h, am_z h, am_k h, am_l h, am_i h, fun x j => if x = a ∧ j = k then v else am_r h x j)
def am_new (h : Hp) (kind len size : Nat) : Hp := (am_n h + 1, am_z h + size, fun x => if x = am_n h then kind else am_k h x, fun x => if x = am_n h then len else am_l h x, fun x j => if x = am_n h then 0 else am_i h x j, fun x j => if x = am_n h then none else am_r h x j)
def am_C (ci : Nat) : String := match ci with | 0 => RX0 | 1 => RX1 | 2 => RX2 | 3 => RX3 | 4 => RX4 | 5 => RX5 | _ => RX6
def am_T (ci : Nat) : u_T := match ci with | 0 => TX0 | 1 => TX1 | 2 => TX2 | 3 => TX3 | 4 => TX4 | 5 => TX5 | _ => TX6
def am_N (ci : Nat) : Nat := match ci with | 0 => 3 | 1 => 3 | 2 => 5 | 3 => 8 | 4 => 11 | 5 => 15 | _ => 36
def am_ty (ci : Nat) : Nat → FieldType := match ci with | 0 => tyX0 | 1 => tyX1 | 2 => tyX2 | 3 => tyX3 | 4 => tyX4 | 5 => tyX5 | _ => tyX6
/-- 0: an int, 1: a boolean, 2: a reference -/
def am_ft (ci k : Nat) : Nat := match am_ty ci k with | .int => 0 | .boolean => 1 | _ => 2
def am_fv (h : Hp) (a ci k : Nat) : Value := if am_ft ci k = 2 then va_rf (am_r h a k) else .int (am_i h a k)
/-- the class of an array's elements, by its kind -/
def am_el (k : Nat) : Nat := match k with | 9 => 3 | 10 => 4 | 11 => 1 | _ => 2
/-- the class (number) of a method's receiver -/
def am_own (y : Nat) : Nat := if y < 7 then 0 else if y < 10 then 1 else if y < 12 then 2 else if y < 17 then 3 else if y < 25 then 4 else if y < 77 then 5 else 6
def am_cond (c : Jvm.ClassFile.Cond) (x y : Int32) : Prop := match c with
  | .eq => x = y | .ne => ¬ x = y | .lt => x < y | .ge => y ≤ x | .gt => y < x | .le => x ≤ y
def am_sw (pc : Nat) (dflt lo hi : Int) (offs : Array Int) (x : Int32) (tgt : Nat) : Prop :=
  ((x.toInt < lo ∨ hi < x.toInt) ∧ (pc : Int) + dflt = (tgt : Int)) ∨ (¬ x.toInt < lo ∧ ¬ hi < x.toInt ∧ ∃ off, offs[(x.toInt - lo).toNat]? = some off ∧ (pc : Int) + off = (tgt : Int))
abbrev am_Ls : Type := List (Option Value)
abbrev am_Kt : Type := Nat → am_Ls → List Value → Hp → Prop
abbrev am_Ct : Type := Nat → List Value → Hp → Option Value → Hp → Prop
def am_do (K : am_Kt) (Cal : am_Ct) (Q : Option Value → Hp → Prop) (pc : Nat) (e : Instr × Nat × Nat × Nat × Nat) (ls : am_Ls) (st : List Value) (h : Hp) : Prop :=
  match e.1 with
  | .iload j => ∃ x, ls[j]? = some (some (.int x)) ∧ K (pc + 2) ls (.int x :: st) h
  | .iload_n j => ∃ x, ls[(j : Nat)]? = some (some (.int x)) ∧ K (pc + 1) ls (.int x :: st) h
  | .aload j => ∃ x, ls[j]? = some (some (va_rf x)) ∧ K (pc + 2) ls (va_rf x :: st) h
  | .aload_n j => ∃ x, ls[(j : Nat)]? = some (some (va_rf x)) ∧ K (pc + 1) ls (va_rf x :: st) h
  | .istore j => ∃ x r, st = .int x :: r ∧ j < ls.length ∧ K (pc + 2) (ls.set j (some (.int x))) r h
  | .istore_n j => ∃ x r, st = .int x :: r ∧ (j : Nat) < ls.length ∧ K (pc + 1) (ls.set j (some (.int x))) r h
  | .astore j => ∃ x r, st = va_rf x :: r ∧ j < ls.length ∧ K (pc + 2) (ls.set j (some (va_rf x))) r h
  | .astore_n j => ∃ x r, st = va_rf x :: r ∧ (j : Nat) < ls.length ∧ K (pc + 1) (ls.set j (some (va_rf x))) r h
  | .iconst n => K (pc + 1) ls (.int (Int32.ofInt n) :: st) h
  | .bipush n => K (pc + 2) ls (.int (Int8.ofInt n).toInt32 :: st) h
  | .sipush n => K (pc + 3) ls (.int (Int16.ofInt n).toInt32 :: st) h
  | .ldc _ => K (pc + 2) ls (.int (Int32.ofNat e.2.2.1) :: st) h
  | .aconst_null => K (pc + 1) ls (.null :: st) h
  | .iinc j n => ∃ x, ls[j]? = some (some (.int x)) ∧ K (pc + 3) (ls.set j (some (.int (x + Int32.ofInt n)))) st h
  | .iadd => ∃ x y r, st = .int y :: .int x :: r ∧ K (pc + 1) ls (.int (x + y) :: r) h
  | .isub => ∃ x y r, st = .int y :: .int x :: r ∧ K (pc + 1) ls (.int (x - y) :: r) h
  | .imul => ∃ x y r, st = .int y :: .int x :: r ∧ K (pc + 1) ls (.int (x * y) :: r) h
  | .iand => ∃ x y r, st = .int y :: .int x :: r ∧ K (pc + 1) ls (.int (x &&& y) :: r) h
  | .ishl => ∃ x y r, st = .int y :: .int x :: r ∧ K (pc + 1) ls (.int (x <<< (y &&& 31)) :: r) h
  | .ishr => ∃ x y r, st = .int y :: .int x :: r ∧ K (pc + 1) ls (.int (x >>> (y &&& 31)) :: r) h
  | .idiv => ∃ x y r, st = .int y :: .int x :: r ∧ ¬ y = 0 ∧ K (pc + 1) ls (.int (x / y) :: r) h
  | .irem => ∃ x y r, st = .int y :: .int x :: r ∧ ¬ y = 0 ∧ K (pc + 1) ls (.int (x - x / y * y) :: r) h
  | .ineg => ∃ x r, st = .int x :: r ∧ K (pc + 1) ls (.int (-x) :: r) h
  | .dup => ∃ v r, st = v :: r ∧ v.category = 1 ∧ K (pc + 1) ls (v :: v :: r) h
  | .dup2 => ∃ v w r, st = v :: w :: r ∧ v.category = 1 ∧ w.category = 1 ∧ K (pc + 1) ls (v :: w :: v :: w :: r) h
  | .goto _ => K e.2.2.1 ls st h
  | .ifCond c _ => ∃ x r, st = .int x :: r ∧ (am_cond c x 0 → K e.2.2.1 ls r h) ∧ (¬ am_cond c x 0 → K (pc + 3) ls r h)
  | .if_icmp c _ => ∃ x y r, st = .int y :: .int x :: r ∧ (am_cond c x y → K e.2.2.1 ls r h) ∧ (¬ am_cond c x y → K (pc + 3) ls r h)
  | .ifnull _ => ∃ x r, st = va_rf x :: r ∧ (x = none → K e.2.2.1 ls r h) ∧ (¬ x = none → K (pc + 3) ls r h)
  | .ifnonnull _ => ∃ x r, st = va_rf x :: r ∧ (¬ x = none → K e.2.2.1 ls r h) ∧ (x = none → K (pc + 3) ls r h)
  | .if_acmp .eq _ => ∃ x y r, st = va_rf y :: va_rf x :: r ∧ (x = y → K e.2.2.1 ls r h) ∧ (¬ x = y → K (pc + 3) ls r h)
  | .tableswitch d lo hi offs => ∃ x r tgt, st = .int x :: r ∧ am_sw pc d lo hi offs x tgt ∧ K tgt ls r h
  | .getfield _ => ∃ a r, st = .ref a :: r ∧ 0 < a ∧ a < am_n h ∧ am_k h a = e.2.2.1 ∧ K (pc + 3) ls (am_fv h a e.2.2.1 e.2.2.2.1 :: r) h
  | .putfield _ => ∃ a v r, st = v :: .ref a :: r ∧ 0 < a ∧ a < am_n h ∧ am_k h a = e.2.2.1 ∧
      ((am_ft e.2.2.1 e.2.2.2.1 = 2 ∧ ∃ x, v = va_rf x ∧ K (pc + 3) ls r (am_setR h a e.2.2.2.1 x)) ∨
       (am_ft e.2.2.1 e.2.2.2.1 < 2 ∧ ∃ x, v = .int x ∧ (am_ft e.2.2.1 e.2.2.2.1 = 1 → x = 0 ∨ x = 1) ∧ K (pc + 3) ls r (am_setI h a e.2.2.2.1 x)))
  | .new _ => K (pc + 3) ls (.ref (am_n h) :: st) (am_new h e.2.2.1 0 (am_N e.2.2.1))
  | .newarray _ => ∃ n r, st = .int n :: r ∧ ¬ n < 0 ∧ n.toNatClampNeg ≤ 100000 ∧ K (pc + 2) ls (.ref (am_n h) :: r) (am_new h e.2.2.1 n.toNatClampNeg n.toNatClampNeg)
  | .anewarray _ => ∃ n r, st = .int n :: r ∧ ¬ n < 0 ∧ n.toNatClampNeg ≤ 100000 ∧ K (pc + 3) ls (.ref (am_n h) :: r) (am_new h e.2.2.1 n.toNatClampNeg n.toNatClampNeg)
  | .iaload => ∃ i a r, st = .int i :: .ref a :: r ∧ a < am_n h ∧ am_k h a = 7 ∧ vp_in i (am_l h a) ∧ K (pc + 1) ls (.int (am_i h a i.toNatClampNeg) :: r) h
  | .baload => ∃ i a r, st = .int i :: .ref a :: r ∧ 0 < a ∧ a < am_n h ∧ am_k h a = 8 ∧ vp_in i (am_l h a) ∧ K (pc + 1) ls (.int (am_i h a i.toNatClampNeg) :: r) h
  | .aaload => ∃ i a r, st = .int i :: .ref a :: r ∧ 0 < a ∧ a < am_n h ∧ 9 ≤ am_k h a ∧ am_k h a ≤ 12 ∧ vp_in i (am_l h a) ∧ K (pc + 1) ls (va_rf (am_r h a i.toNatClampNeg) :: r) h
  | .iastore => ∃ x i a r, st = .int x :: .int i :: .ref a :: r ∧ 0 < a ∧ a < am_n h ∧ am_k h a = 7 ∧ vp_in i (am_l h a) ∧ K (pc + 1) ls r (am_setI h a i.toNatClampNeg x)
  | .bastore => ∃ x i a r, st = .int x :: .int i :: .ref a :: r ∧ 0 < a ∧ a < am_n h ∧ am_k h a = 8 ∧ vp_in i (am_l h a) ∧ (x = 0 ∨ x = 1) ∧ K (pc + 1) ls r (am_setI h a i.toNatClampNeg x)
  | .aastore => ∃ v i a r, st = .ref v :: .int i :: .ref a :: r ∧ 0 < a ∧ a < am_n h ∧ 9 ≤ am_k h a ∧ am_k h a ≤ 12 ∧ 0 < v ∧ v < am_n h ∧ am_k h v = am_el (am_k h a) ∧ vp_in i (am_l h a) ∧ K (pc + 1) ls r (am_setR h a i.toNatClampNeg (some v))
  | .arraylength => ∃ a r, st = .ref a :: r ∧ a < am_n h ∧ 7 ≤ am_k h a ∧ am_k h a ≤ 12 ∧ K (pc + 1) ls (.int (Int32.ofNat (am_l h a)) :: r) h
  | .invokevirtual _ => ∃ as a r rv h', st = as.reverse ++ .ref a :: r ∧ as.length = e.2.2.2.1 ∧ (r.map fun v => v.category).sum ≤ 8 ∧ 0 < a ∧ a < am_n h ∧ am_k h a = am_own e.2.2.1 ∧ Cal e.2.2.1 (.ref a :: as) h rv h' ∧ K (pc + 3) ls (rv.toList ++ r) h'
  | .invokestatic _ => (e.2.2.1 = 119 ∧ ∃ x r, st = .int x :: r ∧ (r.map fun v => v.category).sum ≤ 8 ∧ K (pc + 3) ls (.int (if 0 ≤ x then x else 0 - x) :: r) h) ∨
      (e.2.2.1 = 120 ∧ ∃ x y r, st = .int y :: .int x :: r ∧ (r.map fun v => v.category).sum ≤ 8 ∧ K (pc + 3) ls (.int (if x < y then y else x) :: r) h) ∨
      (e.2.2.1 = 121 ∧ ∃ x y r, st = .int y :: .int x :: r ∧ (r.map fun v => v.category).sum ≤ 8 ∧ K (pc + 3) ls (.int (if y < x then y else x) :: r) h) ∨
      (e.2.2.1 < 119 ∧ ∃ as r rv h', st = as.reverse ++ r ∧ as.length = e.2.2.2.1 ∧ (r.map fun v => v.category).sum ≤ 8 ∧ Cal e.2.2.1 as h rv h' ∧ K (pc + 3) ls (rv.toList ++ r) h')
  | .invokespecial _ => (e.2.2.1 = 999 ∧ ∃ a r, st = .ref a :: r ∧ (r.map fun v => v.category).sum ≤ 8 ∧ K (pc + 3) ls r h) ∨
      (¬ e.2.2.1 = 999 ∧ ∃ as a r rv h', st = as.reverse ++ .ref a :: r ∧ as.length = e.2.2.2.1 ∧ (r.map fun v => v.category).sum ≤ 8 ∧ Cal e.2.2.1 (.ref a :: as) h rv h' ∧ K (pc + 3) ls (rv.toList ++ r) h')
  | .ireturn => ∃ x, st = [.int x] ∧ (e.2.2.1 = 1 → x = 0 ∨ x = 1) ∧ Q (some (.int x)) h
  | .areturn => ∃ x, st = [va_rf x] ∧ Q (some (va_rf x)) h
  | .return_ => st = [] ∧ Q none h
  | _ => False
def am_wp (cod : List am_E) (Cal : am_Ct) (Q : Option Value → Hp → Prop) : Nat → am_Kt
  | 0 => fun _ _ _ _ => False
  | n + 1 => fun pc ls st h => ∃ e, (pc, e) ∈ cod ∧ am_do (am_wp cod Cal Q n) Cal Q pc e ls st h
/-- a method's run, with calls at most d deep -/
def Res : Nat → am_Ct
  | 0 => fun _ _ _ _ _ => False
  | d + 1 => fun y as h rv h' => y < 119 ∧ ∃ n, as.length ≤ (am_m y).2.2.1 ∧ (∀ v ∈ as, v.category = 1) ∧ am_wp (am_m y).2.2.2.2.2 (Res d) (fun r1 h1 => r1 = rv ∧ h1 = h') n 0 (as.map some ++ List.replicate ((am_m y).2.2.1 - as.length) none) [] h
/-! the words that hold in every method -/
def am_tbl : List Jvm.Cond := lw_tbl.filter goodWord
def am_w (y : Nat) : List Jvm.Cond := Jvm.Cond.code (am_m y).1 (am_m y).2.1 (am_m y).2.2.1 (am_m y).2.2.2.1 :: am_tbl
def am_at (i : Nat) (w : Jvm.Cond) : Bool := decide (lw_tbl[i]? = some w) && goodWord w
theorem am_at_mem {i : Nat} {w : Jvm.Cond} (h : am_at i w = true) : w ∈ am_tbl := by
  simp only [am_at, Bool.and_eq_true, decide_eq_true_eq] at h
  exact List.mem_filter.mpr ⟨List.mem_of_getElem? h.1, h.2⟩
theorem am_tbl_good {w : Jvm.Cond} (h : w ∈ am_tbl) : (w.onTables && w.keeps) = true ∨ ∃ ty, w = .arrayClass ty := good_of_word (List.mem_filter.mp h).2
/-- what is checked of a method: its words -/
def am_mchk (y : Nat) : Bool :=
  let q := am_pos.getD y (0, 0, 0, 0, 0, 0)
  let x := (am_m y).1
  am_at q.1 (.code x (am_m y).2.1 (am_m y).2.2.1 (am_m y).2.2.2.1) && (if q.2.2.1 = 1 then am_at q.2.1 (.static x) else am_at q.2.1 (.instanceMethod x)) && am_at q.2.2.2.2.1 (.initialized x.cls)
    && decide (x.cls ≠ "java/lang/invoke/MethodHandle") && decide (x.cls ≠ "java/lang/invoke/VarHandle") && decide ((parseMethodDescriptor x.desc).map (fun d => d.parameters.length) = some q.2.2.2.2.2) && plainName x.cls && decide ((am_m y).2.2.1 ≤ 10)
def am_Z : Jvm.Cond := .methodLinkNest RX4 40 yX5_dayOf RX5
def am_len (i : Instr) (n : Nat) : Bool := match i with
  | .iload _ => n == 2 | .iload_n _ => n == 1 | .aload _ => n == 2 | .aload_n _ => n == 1 | .istore _ => n == 2 | .istore_n _ => n == 1 | .astore _ => n == 2 | .astore_n _ => n == 1
  | .bipush _ => n == 2 | .sipush _ => n == 3 | .ldc _ => n == 2 | .iinc _ _ => n == 3 | .goto _ => n == 3 | .ifCond _ _ => n == 3 | .if_icmp _ _ => n == 3 | .ifnull _ => n == 3 | .ifnonnull _ => n == 3 | .if_acmp _ _ => n == 3
  | .tableswitch _ _ _ _ => true | .getfield _ => n == 3 | .putfield _ => n == 3 | .new _ => n == 3 | .newarray _ => n == 2 | .anewarray _ => n == 3 | .invokevirtual _ => n == 3 | .invokestatic _ => n == 3 | .invokespecial _ => n == 3
  | _ => n == 1
/-- what is checked of an instruction: that it stands in the bytes, and its links -/
def am_chk (M : am_M) (q : am_E) : Bool :=
  let r1 := q.2.2.2.1
  let r2 := q.2.2.2.2.1
  let r3 := q.2.2.2.2.2
  decide (decode M.2.1 q.1 = .ok (q.2.1, q.2.2.1)) && am_len q.2.1 q.2.2.1 && match q.2.1 with
  | .getfield idx => decide (r1 < 7) && decide (r2 < am_N r1) && am_at r3 (.fieldLink M.2.2.2.2.1 idx (am_T r1 r2).1 (am_T r1 r2).2.1 (am_T r1 r2).2.2.1)
  | .putfield idx => decide (r1 < 7) && decide (r2 < am_N r1) && am_at r3 (.fieldLink M.2.2.2.2.1 idx (am_T r1 r2).1 (am_T r1 r2).2.1 (am_T r1 r2).2.2.1) && (!(am_T r1 r2).2.2.2 || (decide ((am_T r1 r2).1 = M.2.2.2.2.1) && decide (M.1.name = "<init>")))
  | .goto off => decide ((q.1 : Int) + off = (r1 : Int))
  | .ifCond _ off => decide ((q.1 : Int) + off = (r1 : Int))
  | .if_icmp _ off => decide ((q.1 : Int) + off = (r1 : Int))
  | .if_acmp _ off => decide ((q.1 : Int) + off = (r1 : Int))
  | .ifnull off => decide ((q.1 : Int) + off = (r1 : Int))
  | .ifnonnull off => decide ((q.1 : Int) + off = (r1 : Int))
  | .ldc idx => am_at r3 (.constant M.2.2.2.2.1 idx (Int32.ofNat r1))
  | .new idx => decide (r1 < 7) && am_at r3 (.classLink M.2.2.2.2.1 idx (am_C r1))
  | .newarray t => decide (t = .int ∧ r1 = 7) || decide (t = .boolean ∧ r1 = 8)
  | .anewarray idx => decide (9 ≤ r1) && decide (r1 ≤ 12) && am_at r3 (.classLink M.2.2.2.2.1 idx (am_C (am_el r1)))
  | .invokevirtual idx => am_at r3 (.methodLink M.2.2.2.2.1 idx (am_m r1).1) && am_mchk r1 && decide ((am_pos.getD r1 (0, 0, 0, 0, 0, 0)).2.2.1 = 0) && decide ((am_pos.getD r1 (0, 0, 0, 0, 0, 0)).2.2.2.2.2 = r2) && am_at (am_pos.getD r1 (0, 0, 0, 0, 0, 0)).2.2.2.1 (.selects (am_m r1).1.cls (am_m r1).1 (am_m r1).1) && decide ((am_m r1).1.cls = am_C (am_own r1)) && decide (am_own r1 < 7)
  | .invokestatic idx => if r1 = 119 then am_at r3 (.methodLink M.2.2.2.2.1 idx Lib.Math.abs.name) else if r1 = 120 then am_at r3 (.methodLink M.2.2.2.2.1 idx Lib.Math.max.name) else if r1 = 121 then am_at r3 (.methodLink M.2.2.2.2.1 idx Lib.Math.min.name) else
      am_mchk r1 && decide ((am_pos.getD r1 (0, 0, 0, 0, 0, 0)).2.2.1 = 1) && decide ((am_pos.getD r1 (0, 0, 0, 0, 0, 0)).2.2.2.2.2 = r2) && (am_at r3 (.methodLink M.2.2.2.2.1 idx (am_m r1).1) || decide (Jvm.Cond.methodLinkNest M.2.2.2.2.1 idx (am_m r1).1 RX5 = am_Z))
  | .invokespecial idx => if r1 = 999 then am_at r3 (.methodLink M.2.2.2.2.1 idx objectInit) else
      am_at r3 (.methodLink M.2.2.2.2.1 idx (am_m r1).1) && am_mchk r1 && decide ((am_pos.getD r1 (0, 0, 0, 0, 0, 0)).2.2.1 = 0) && decide ((am_pos.getD r1 (0, 0, 0, 0, 0, 0)).2.2.2.2.2 = r2) && decide ((am_m r1).1.name = "<init>") && decide ((am_m r1).2.2.2.1 = none)
  | .ireturn => decide (r1 = 0 ∧ M.2.2.2.1 = some .int) || decide (r1 = 1 ∧ M.2.2.2.1 = some .boolean)
  | .areturn => match M.2.2.2.1 with | some (.object _) => true | _ => false
  | .return_ => decide (M.2.2.2.1 = none)
  | _ => true
theorem am_obj1 : Jvm.Cond.instanceMethod objectInit ∈ am_tbl := am_at_mem (i := 52) (by decide +kernel)
theorem am_obj2 : Jvm.Cond.code objectInit ⟨#[0xb1]⟩ 1 none ∈ am_tbl := am_at_mem (i := 53) (by decide +kernel)
theorem am_max1 : Jvm.Cond.static Lib.Math.max.name ∈ am_tbl := am_at_mem (i := 319) (by decide +kernel)
theorem am_max2 : Jvm.Cond.code Lib.Math.max.name Lib.Math.max.code 2 (some .int) ∈ am_tbl := am_at_mem (i := 320) (by decide +kernel)
theorem am_min1 : Jvm.Cond.static Lib.Math.min.name ∈ am_tbl := am_at_mem (i := 322) (by decide +kernel)
theorem am_min2 : Jvm.Cond.code Lib.Math.min.name Lib.Math.min.code 2 (some .int) ∈ am_tbl := am_at_mem (i := 323) (by decide +kernel)
theorem am_abs1 : Jvm.Cond.static Lib.Math.abs.name ∈ am_tbl := am_at_mem (i := 325) (by decide +kernel)
theorem am_abs2 : Jvm.Cond.code Lib.Math.abs.name Lib.Math.abs.code 1 (some .int) ∈ am_tbl := am_at_mem (i := 326) (by decide +kernel)
theorem am_math : Jvm.Cond.initialized "java/lang/Math" ∈ am_tbl := am_at_mem (i := 44) (by decide +kernel)
end
section
/-! every instruction of every method stands in the bytes, and its links are the tables' -/
set_option maxRecDepth 100000 in
theorem qX0_init : kX0_init.all (am_chk mX0_init) = true := by decide +kernel
set_option maxRecDepth 100000 in
theorem qX0_clear : kX0_clear.all (am_chk mX0_clear) = true := by decide +kernel
set_option maxRecDepth 100000 in
theorem qX0_add : kX0_add.all (am_chk mX0_add) = true := by decide +kernel
set_option maxRecDepth 100000 in
theorem qX0_offer : kX0_offer.all (am_chk mX0_offer) = true := by decide +kernel
set_option maxRecDepth 100000 in
theorem qX0_leastSum : kX0_leastSum.all (am_chk mX0_leastSum) = true := by decide +kernel
set_option maxRecDepth 100000 in
theorem qX0_fullSet : kX0_fullSet.all (am_chk mX0_fullSet) = true := by decide +kernel
set_option maxRecDepth 100000 in
theorem qX0_partSum : kX0_partSum.all (am_chk mX0_partSum) = true := by decide +kernel
set_option maxRecDepth 100000 in
theorem qX1_init : kX1_init.all (am_chk mX1_init) = true := by decide +kernel
set_option maxRecDepth 100000 in
theorem qX1_toldCount : kX1_toldCount.all (am_chk mX1_toldCount) = true := by decide +kernel
set_option maxRecDepth 100000 in
theorem qX1_isAbout : kX1_isAbout.all (am_chk mX1_isAbout) = true := by decide +kernel
set_option maxRecDepth 100000 in
theorem qX2_init : kX2_init.all (am_chk mX2_init) = true := by decide +kernel
set_option maxRecDepth 100000 in
theorem qX2_dayPrice : kX2_dayPrice.all (am_chk mX2_dayPrice) = true := by decide +kernel
set_option maxRecDepth 100000 in
theorem qX3_init : kX3_init.all (am_chk mX3_init) = true := by decide +kernel
set_option maxRecDepth 100000 in
theorem qX3_suits : kX3_suits.all (am_chk mX3_suits) = true := by decide +kernel
set_option maxRecDepth 100000 in
theorem qX3_fits : kX3_fits.all (am_chk mX3_fits) = true := by decide +kernel
set_option maxRecDepth 100000 in
theorem qX3_take : kX3_take.all (am_chk mX3_take) = true := by decide +kernel
set_option maxRecDepth 100000 in
theorem qX3_release : kX3_release.all (am_chk mX3_release) = true := by decide +kernel
set_option maxRecDepth 100000 in
theorem qX4_init : kX4_init.all (am_chk mX4_init) = true := by decide +kernel
set_option maxRecDepth 100000 in
theorem qX4_dueDay : kX4_dueDay.all (am_chk mX4_dueDay) = true := by decide +kernel
set_option maxRecDepth 100000 in
theorem qX4_markAt : kX4_markAt.all (am_chk mX4_markAt) = true := by decide +kernel
set_option maxRecDepth 100000 in
theorem qX4_wanted : kX4_wanted.all (am_chk mX4_wanted) = true := by decide +kernel
set_option maxRecDepth 100000 in
theorem qX4_misfitOn : kX4_misfitOn.all (am_chk mX4_misfitOn) = true := by decide +kernel
set_option maxRecDepth 100000 in
theorem qX4_misfitHere : kX4_misfitHere.all (am_chk mX4_misfitHere) = true := by decide +kernel
set_option maxRecDepth 100000 in
theorem qX4_placeNumber : kX4_placeNumber.all (am_chk mX4_placeNumber) = true := by decide +kernel
set_option maxRecDepth 100000 in
theorem qX4_isStuck : kX4_isStuck.all (am_chk mX4_isStuck) = true := by decide +kernel
set_option maxRecDepth 100000 in
theorem qX5_init : kX5_init.all (am_chk mX5_init) = true := by decide +kernel
set_option maxRecDepth 100000 in
theorem qX5_clock : kX5_clock.all (am_chk mX5_clock) = true := by decide +kernel
set_option maxRecDepth 100000 in
theorem qX5_hours : kX5_hours.all (am_chk mX5_hours) = true := by decide +kernel
set_option maxRecDepth 100000 in
theorem qX5_prices : kX5_prices.all (am_chk mX5_prices) = true := by decide +kernel
set_option maxRecDepth 100000 in
theorem qX5_shelf : kX5_shelf.all (am_chk mX5_shelf) = true := by decide +kernel
set_option maxRecDepth 100000 in
theorem qX5_put : kX5_put.all (am_chk mX5_put) = true := by decide +kernel
set_option maxRecDepth 100000 in
theorem qX5_fee : kX5_fee.all (am_chk mX5_fee) = true := by decide +kernel
set_option maxRecDepth 100000 in
theorem qX5_give : kX5_give.all (am_chk mX5_give) = true := by decide +kernel
set_option maxRecDepth 100000 in
theorem qX5_claim : kX5_claim.all (am_chk mX5_claim) = true := by decide +kernel
set_option maxRecDepth 100000 in
theorem qX5_mark : kX5_mark.all (am_chk mX5_mark) = true := by decide +kernel
set_option maxRecDepth 100000 in
theorem qX5_means : kX5_means.all (am_chk mX5_means) = true := by decide +kernel
set_option maxRecDepth 100000 in
theorem qX5_ask : kX5_ask.all (am_chk mX5_ask) = true := by decide +kernel
set_option maxRecDepth 100000 in
theorem qX5_settle : kX5_settle.all (am_chk mX5_settle) = true := by decide +kernel
set_option maxRecDepth 100000 in
theorem qX5_misfit : kX5_misfit.all (am_chk mX5_misfit) = true := by decide +kernel
set_option maxRecDepth 100000 in
theorem qX5_tidy : kX5_tidy.all (am_chk mX5_tidy) = true := by decide +kernel
set_option maxRecDepth 100000 in
theorem qX5_least : kX5_least.all (am_chk mX5_least) = true := by decide +kernel
set_option maxRecDepth 100000 in
theorem qX5_sell : kX5_sell.all (am_chk mX5_sell) = true := by decide +kernel
set_option maxRecDepth 100000 in
theorem qX5_pay : kX5_pay.all (am_chk mX5_pay) = true := by decide +kernel
set_option maxRecDepth 100000 in
theorem qX5_tear : kX5_tear.all (am_chk mX5_tear) = true := by decide +kernel
set_option maxRecDepth 100000 in
theorem qX5_mend : kX5_mend.all (am_chk mX5_mend) = true := by decide +kernel
set_option maxRecDepth 100000 in
theorem qX5_shelfOf : kX5_shelfOf.all (am_chk mX5_shelfOf) = true := by decide +kernel
set_option maxRecDepth 100000 in
theorem qX5_thing : kX5_thing.all (am_chk mX5_thing) = true := by decide +kernel
set_option maxRecDepth 100000 in
theorem qX5_claimOf : kX5_claimOf.all (am_chk mX5_claimOf) = true := by decide +kernel
set_option maxRecDepth 100000 in
theorem qX5_count : kX5_count.all (am_chk mX5_count) = true := by decide +kernel
set_option maxRecDepth 100000 in
theorem qX5_isWithin : kX5_isWithin.all (am_chk mX5_isWithin) = true := by decide +kernel
set_option maxRecDepth 100000 in
theorem qX5_isPrice : kX5_isPrice.all (am_chk mX5_isPrice) = true := by decide +kernel
set_option maxRecDepth 100000 in
theorem qX5_asNumber : kX5_asNumber.all (am_chk mX5_asNumber) = true := by decide +kernel
set_option maxRecDepth 100000 in
theorem qX5_dayOf : kX5_dayOf.all (am_chk mX5_dayOf) = true := by decide +kernel
set_option maxRecDepth 100000 in
theorem qX5_today : kX5_today.all (am_chk mX5_today) = true := by decide +kernel
set_option maxRecDepth 100000 in
theorem qX5_isOpen : kX5_isOpen.all (am_chk mX5_isOpen) = true := by decide +kernel
set_option maxRecDepth 100000 in
theorem qX5_shelfAt : kX5_shelfAt.all (am_chk mX5_shelfAt) = true := by decide +kernel
set_option maxRecDepth 100000 in
theorem qX5_thingAt : kX5_thingAt.all (am_chk mX5_thingAt) = true := by decide +kernel
set_option maxRecDepth 100000 in
theorem qX5_claimAt : kX5_claimAt.all (am_chk mX5_claimAt) = true := by decide +kernel
set_option maxRecDepth 100000 in
theorem qX5_ticketOf : kX5_ticketOf.all (am_chk mX5_ticketOf) = true := by decide +kernel
set_option maxRecDepth 100000 in
theorem qX5_checkOf : kX5_checkOf.all (am_chk mX5_checkOf) = true := by decide +kernel
set_option maxRecDepth 100000 in
theorem qX5_isTicket : kX5_isTicket.all (am_chk mX5_isTicket) = true := by decide +kernel
set_option maxRecDepth 100000 in
theorem qX5_lastRowDay : kX5_lastRowDay.all (am_chk mX5_lastRowDay) = true := by decide +kernel
set_option maxRecDepth 100000 in
theorem qX5_rowOn : kX5_rowOn.all (am_chk mX5_rowOn) = true := by decide +kernel
set_option maxRecDepth 100000 in
theorem qX5_feeOf : kX5_feeOf.all (am_chk mX5_feeOf) = true := by decide +kernel
set_option maxRecDepth 100000 in
theorem qX5_letOldCoinsFall : kX5_letOldCoinsFall.all (am_chk mX5_letOldCoinsFall) = true := by decide +kernel
set_option maxRecDepth 100000 in
theorem qX5_shelfForNew : kX5_shelfForNew.all (am_chk mX5_shelfForNew) = true := by decide +kernel
set_option maxRecDepth 100000 in
theorem qX5_isNearer : kX5_isNearer.all (am_chk mX5_isNearer) = true := by decide +kernel
set_option maxRecDepth 100000 in
theorem qX5_takeAway : kX5_takeAway.all (am_chk mX5_takeAway) = true := by decide +kernel
set_option maxRecDepth 100000 in
theorem qX5_meantBy : kX5_meantBy.all (am_chk mX5_meantBy) = true := by decide +kernel
set_option maxRecDepth 100000 in
theorem qX5_firstMeantBy : kX5_firstMeantBy.all (am_chk mX5_firstMeantBy) = true := by decide +kernel
set_option maxRecDepth 100000 in
theorem qX5_greatestHeap : kX5_greatestHeap.all (am_chk mX5_greatestHeap) = true := by decide +kernel
set_option maxRecDepth 100000 in
theorem qX5_isContested : kX5_isContested.all (am_chk mX5_isContested) = true := by decide +kernel
set_option maxRecDepth 100000 in
theorem qX5_makeBestMove : kX5_makeBestMove.all (am_chk mX5_makeBestMove) = true := by decide +kernel
set_option maxRecDepth 100000 in
theorem qX5_shelfForMove : kX5_shelfForMove.all (am_chk mX5_shelfForMove) = true := by decide +kernel
set_option maxRecDepth 100000 in
theorem qX5_move : kX5_move.all (am_chk mX5_move) = true := by decide +kernel
set_option maxRecDepth 100000 in
theorem qX5_thingsIn : kX5_thingsIn.all (am_chk mX5_thingsIn) = true := by decide +kernel
set_option maxRecDepth 100000 in
theorem qX5_coinsKept : kX5_coinsKept.all (am_chk mX5_coinsKept) = true := by decide +kernel
set_option maxRecDepth 100000 in
theorem qX6_init : kX6_init.all (am_chk mX6_init) = true := by decide +kernel
set_option maxRecDepth 100000 in
theorem qX6_in : kX6_in.all (am_chk mX6_in) = true := by decide +kernel
set_option maxRecDepth 100000 in
theorem qX6_gap : kX6_gap.all (am_chk mX6_gap) = true := by decide +kernel
set_option maxRecDepth 100000 in
theorem qX6_isOpen : kX6_isOpen.all (am_chk mX6_isOpen) = true := by decide +kernel
set_option maxRecDepth 100000 in
theorem qX6_hours : kX6_hours.all (am_chk mX6_hours) = true := by decide +kernel
set_option maxRecDepth 100000 in
theorem qX6_clock : kX6_clock.all (am_chk mX6_clock) = true := by decide +kernel
set_option maxRecDepth 100000 in
theorem qX6_prices : kX6_prices.all (am_chk mX6_prices) = true := by decide +kernel
set_option maxRecDepth 100000 in
theorem qX6_rowOf : kX6_rowOf.all (am_chk mX6_rowOf) = true := by decide +kernel
set_option maxRecDepth 100000 in
theorem qX6_shelf : kX6_shelf.all (am_chk mX6_shelf) = true := by decide +kernel
set_option maxRecDepth 100000 in
theorem qX6_free : kX6_free.all (am_chk mX6_free) = true := by decide +kernel
set_option maxRecDepth 100000 in
theorem qX6_suits : kX6_suits.all (am_chk mX6_suits) = true := by decide +kernel
set_option maxRecDepth 100000 in
theorem qX6_fits : kX6_fits.all (am_chk mX6_fits) = true := by decide +kernel
set_option maxRecDepth 100000 in
theorem qX6_wanted : kX6_wanted.all (am_chk mX6_wanted) = true := by decide +kernel
set_option maxRecDepth 100000 in
theorem qX6_misfitOn : kX6_misfitOn.all (am_chk mX6_misfitOn) = true := by decide +kernel
set_option maxRecDepth 100000 in
theorem qX6_ticketOf : kX6_ticketOf.all (am_chk mX6_ticketOf) = true := by decide +kernel
set_option maxRecDepth 100000 in
theorem qX6_put : kX6_put.all (am_chk mX6_put) = true := by decide +kernel
set_option maxRecDepth 100000 in
theorem qX6_feeOf : kX6_feeOf.all (am_chk mX6_feeOf) = true := by decide +kernel
set_option maxRecDepth 100000 in
theorem qX6_thingOf : kX6_thingOf.all (am_chk mX6_thingOf) = true := by decide +kernel
set_option maxRecDepth 100000 in
theorem qX6_fee : kX6_fee.all (am_chk mX6_fee) = true := by decide +kernel
set_option maxRecDepth 100000 in
theorem qX6_leaves : kX6_leaves.all (am_chk mX6_leaves) = true := by decide +kernel
set_option maxRecDepth 100000 in
theorem qX6_give : kX6_give.all (am_chk mX6_give) = true := by decide +kernel
set_option maxRecDepth 100000 in
theorem qX6_claim : kX6_claim.all (am_chk mX6_claim) = true := by decide +kernel
set_option maxRecDepth 100000 in
theorem qX6_isClaim : kX6_isClaim.all (am_chk mX6_isClaim) = true := by decide +kernel
set_option maxRecDepth 100000 in
theorem qX6_markOf : kX6_markOf.all (am_chk mX6_markOf) = true := by decide +kernel
set_option maxRecDepth 100000 in
theorem qX6_isMeant : kX6_isMeant.all (am_chk mX6_isMeant) = true := by decide +kernel
set_option maxRecDepth 100000 in
theorem qX6_meant : kX6_meant.all (am_chk mX6_meant) = true := by decide +kernel
set_option maxRecDepth 100000 in
theorem qX6_manyTold : kX6_manyTold.all (am_chk mX6_manyTold) = true := by decide +kernel
set_option maxRecDepth 100000 in
theorem qX6_means : kX6_means.all (am_chk mX6_means) = true := by decide +kernel
set_option maxRecDepth 100000 in
theorem qX6_mark : kX6_mark.all (am_chk mX6_mark) = true := by decide +kernel
set_option maxRecDepth 100000 in
theorem qX6_ask : kX6_ask.all (am_chk mX6_ask) = true := by decide +kernel
set_option maxRecDepth 100000 in
theorem qX6_settle : kX6_settle.all (am_chk mX6_settle) = true := by decide +kernel
set_option maxRecDepth 100000 in
theorem qX6_misfit : kX6_misfit.all (am_chk mX6_misfit) = true := by decide +kernel
set_option maxRecDepth 100000 in
theorem qX6_tidy : kX6_tidy.all (am_chk mX6_tidy) = true := by decide +kernel
set_option maxRecDepth 100000 in
theorem qX6_least : kX6_least.all (am_chk mX6_least) = true := by decide +kernel
set_option maxRecDepth 100000 in
theorem qX6_sell : kX6_sell.all (am_chk mX6_sell) = true := by decide +kernel
set_option maxRecDepth 100000 in
theorem qX6_pay : kX6_pay.all (am_chk mX6_pay) = true := by decide +kernel
set_option maxRecDepth 100000 in
theorem qX6_tear : kX6_tear.all (am_chk mX6_tear) = true := by decide +kernel
set_option maxRecDepth 100000 in
theorem qX6_mend : kX6_mend.all (am_chk mX6_mend) = true := by decide +kernel
set_option maxRecDepth 100000 in
theorem qX6_shelfOf : kX6_shelfOf.all (am_chk mX6_shelfOf) = true := by decide +kernel
set_option maxRecDepth 100000 in
theorem qX6_thing : kX6_thing.all (am_chk mX6_thing) = true := by decide +kernel
set_option maxRecDepth 100000 in
theorem qX6_claimOf : kX6_claimOf.all (am_chk mX6_claimOf) = true := by decide +kernel
set_option maxRecDepth 100000 in
theorem qX6_count : kX6_count.all (am_chk mX6_count) = true := by decide +kernel
end
section
set_option maxRecDepth 100000 in
theorem qL_0 : ((kL_law.drop 0).take 40).all (am_chk mL_law) = true := by decide +kernel
set_option maxRecDepth 100000 in
theorem qL_40 : ((kL_law.drop 40).take 40).all (am_chk mL_law) = true := by decide +kernel
set_option maxRecDepth 100000 in
theorem qL_80 : ((kL_law.drop 80).take 40).all (am_chk mL_law) = true := by decide +kernel
set_option maxRecDepth 100000 in
theorem qL_120 : ((kL_law.drop 120).take 40).all (am_chk mL_law) = true := by decide +kernel
set_option maxRecDepth 100000 in
theorem qL_160 : ((kL_law.drop 160).take 40).all (am_chk mL_law) = true := by decide +kernel
set_option maxRecDepth 100000 in
theorem qL_200 : ((kL_law.drop 200).take 40).all (am_chk mL_law) = true := by decide +kernel
set_option maxRecDepth 100000 in
theorem qL_240 : ((kL_law.drop 240).take 40).all (am_chk mL_law) = true := by decide +kernel
set_option maxRecDepth 100000 in
theorem qL_280 : ((kL_law.drop 280).take 40).all (am_chk mL_law) = true := by decide +kernel
set_option maxRecDepth 100000 in
theorem qL_320 : ((kL_law.drop 320).take 40).all (am_chk mL_law) = true := by decide +kernel
set_option maxRecDepth 100000 in
theorem qL_360 : ((kL_law.drop 360).take 40).all (am_chk mL_law) = true := by decide +kernel
set_option maxRecDepth 100000 in
theorem qL_400 : ((kL_law.drop 400).take 40).all (am_chk mL_law) = true := by decide +kernel
set_option maxRecDepth 100000 in
theorem qL_440 : ((kL_law.drop 440).take 40).all (am_chk mL_law) = true := by decide +kernel
set_option maxRecDepth 100000 in
theorem qL_480 : ((kL_law.drop 480).take 40).all (am_chk mL_law) = true := by decide +kernel
set_option maxRecDepth 100000 in
theorem qL_520 : ((kL_law.drop 520).take 40).all (am_chk mL_law) = true := by decide +kernel
set_option maxRecDepth 100000 in
theorem qL_560 : ((kL_law.drop 560).take 40).all (am_chk mL_law) = true := by decide +kernel
set_option maxRecDepth 100000 in
theorem qL_600 : ((kL_law.drop 600).take 40).all (am_chk mL_law) = true := by decide +kernel
end
section
theorem am_all_split {α : Type} {f : α → Bool} (n : Nat) {l : List α} (h1 : (l.take n).all f = true) (h2 : (l.drop n).all f = true) : l.all f = true := by
  rw [← List.take_append_drop n l, List.all_append, h1, h2]; rfl
theorem qLz : (kL_law.drop 640).all (am_chk mL_law) = true := by decide +kernel
theorem qLd_600 : (kL_law.drop 600).all (am_chk mL_law) = true := am_all_split 40 qL_600 (by rw [List.drop_drop]; exact qLz)
theorem qLd_560 : (kL_law.drop 560).all (am_chk mL_law) = true := am_all_split 40 qL_560 (by rw [List.drop_drop]; exact qLd_600)
theorem qLd_520 : (kL_law.drop 520).all (am_chk mL_law) = true := am_all_split 40 qL_520 (by rw [List.drop_drop]; exact qLd_560)
theorem qLd_480 : (kL_law.drop 480).all (am_chk mL_law) = true := am_all_split 40 qL_480 (by rw [List.drop_drop]; exact qLd_520)
theorem qLd_440 : (kL_law.drop 440).all (am_chk mL_law) = true := am_all_split 40 qL_440 (by rw [List.drop_drop]; exact qLd_480)
theorem qLd_400 : (kL_law.drop 400).all (am_chk mL_law) = true := am_all_split 40 qL_400 (by rw [List.drop_drop]; exact qLd_440)
theorem qLd_360 : (kL_law.drop 360).all (am_chk mL_law) = true := am_all_split 40 qL_360 (by rw [List.drop_drop]; exact qLd_400)
theorem qLd_320 : (kL_law.drop 320).all (am_chk mL_law) = true := am_all_split 40 qL_320 (by rw [List.drop_drop]; exact qLd_360)
theorem qLd_280 : (kL_law.drop 280).all (am_chk mL_law) = true := am_all_split 40 qL_280 (by rw [List.drop_drop]; exact qLd_320)
theorem qLd_240 : (kL_law.drop 240).all (am_chk mL_law) = true := am_all_split 40 qL_240 (by rw [List.drop_drop]; exact qLd_280)
theorem qLd_200 : (kL_law.drop 200).all (am_chk mL_law) = true := am_all_split 40 qL_200 (by rw [List.drop_drop]; exact qLd_240)
theorem qLd_160 : (kL_law.drop 160).all (am_chk mL_law) = true := am_all_split 40 qL_160 (by rw [List.drop_drop]; exact qLd_200)
theorem qLd_120 : (kL_law.drop 120).all (am_chk mL_law) = true := am_all_split 40 qL_120 (by rw [List.drop_drop]; exact qLd_160)
theorem qLd_80 : (kL_law.drop 80).all (am_chk mL_law) = true := am_all_split 40 qL_80 (by rw [List.drop_drop]; exact qLd_120)
theorem qLd_40 : (kL_law.drop 40).all (am_chk mL_law) = true := am_all_split 40 qL_40 (by rw [List.drop_drop]; exact qLd_80)
theorem qLd_0 : (kL_law.drop 0).all (am_chk mL_law) = true := am_all_split 40 qL_0 (by rw [List.drop_drop]; exact qLd_40)
theorem qL_law : kL_law.all (am_chk mL_law) = true := qLd_0
/-- the methods that are walked (not Math's) -/
def am_msW : List am_M := [mX0_init, mX0_clear, mX0_add, mX0_offer, mX0_leastSum, mX0_fullSet, mX0_partSum, mX1_init, mX1_toldCount, mX1_isAbout, mX2_init, mX2_dayPrice, mX3_init, mX3_suits, mX3_fits, mX3_take, mX3_release, mX4_init, mX4_dueDay, mX4_markAt, mX4_wanted, mX4_misfitOn, mX4_misfitHere, mX4_placeNumber, mX4_isStuck, mX5_init, mX5_clock, mX5_hours, mX5_prices, mX5_shelf, mX5_put, mX5_fee, mX5_give, mX5_claim, mX5_mark, mX5_means, mX5_ask, mX5_settle, mX5_misfit, mX5_tidy, mX5_least, mX5_sell, mX5_pay, mX5_tear, mX5_mend, mX5_shelfOf, mX5_thing, mX5_claimOf, mX5_count, mX5_isWithin, mX5_isPrice, mX5_asNumber, mX5_dayOf, mX5_today, mX5_isOpen, mX5_shelfAt, mX5_thingAt, mX5_claimAt, mX5_ticketOf, mX5_checkOf, mX5_isTicket, mX5_lastRowDay, mX5_rowOn, mX5_feeOf, mX5_letOldCoinsFall, mX5_shelfForNew, mX5_isNearer, mX5_takeAway, mX5_meantBy, mX5_firstMeantBy, mX5_greatestHeap, mX5_isContested, mX5_makeBestMove, mX5_shelfForMove, mX5_move, mX5_thingsIn, mX5_coinsKept, mX6_init, mX6_in, mX6_gap, mX6_isOpen, mX6_hours, mX6_clock, mX6_prices, mX6_rowOf, mX6_shelf, mX6_free, mX6_suits, mX6_fits, mX6_wanted, mX6_misfitOn, mX6_ticketOf, mX6_put, mX6_feeOf, mX6_thingOf, mX6_fee, mX6_leaves, mX6_give, mX6_claim, mX6_isClaim, mX6_markOf, mX6_isMeant, mX6_meant, mX6_manyTold, mX6_means, mX6_mark, mX6_ask, mX6_settle, mX6_misfit, mX6_tidy, mX6_least, mX6_sell, mX6_pay, mX6_tear, mX6_mend, mX6_shelfOf, mX6_thing, mX6_claimOf, mX6_count, mL_law]
theorem am_ok : ∀ M ∈ am_msW, M.2.2.2.2.2.all (am_chk M) = true := by
  intro M hM
  simp only [am_msW, List.mem_cons, List.not_mem_nil, or_false] at hM
  rcases hM with rfl | rfl | rfl | rfl | rfl | rfl | rfl | rfl | rfl | rfl | rfl | rfl | rfl | rfl | rfl | rfl | rfl | rfl | rfl | rfl | rfl | rfl | rfl | rfl | rfl | rfl | rfl | rfl | rfl | rfl | rfl | rfl | rfl | rfl | rfl | rfl | rfl | rfl | rfl | rfl | rfl | rfl | rfl | rfl | rfl | rfl | rfl | rfl | rfl | rfl | rfl | rfl | rfl | rfl | rfl | rfl | rfl | rfl | rfl | rfl | rfl | rfl | rfl | rfl | rfl | rfl | rfl | rfl | rfl | rfl | rfl | rfl | rfl | rfl | rfl | rfl | rfl | rfl | rfl | rfl | rfl | rfl | rfl | rfl | rfl | rfl | rfl | rfl | rfl | rfl | rfl | rfl | rfl | rfl | rfl | rfl | rfl | rfl | rfl | rfl | rfl | rfl | rfl | rfl | rfl | rfl | rfl | rfl | rfl | rfl | rfl | rfl | rfl | rfl | rfl | rfl | rfl | rfl | rfl | rfl
  · exact qX0_init
  · exact qX0_clear
  · exact qX0_add
  · exact qX0_offer
  · exact qX0_leastSum
  · exact qX0_fullSet
  · exact qX0_partSum
  · exact qX1_init
  · exact qX1_toldCount
  · exact qX1_isAbout
  · exact qX2_init
  · exact qX2_dayPrice
  · exact qX3_init
  · exact qX3_suits
  · exact qX3_fits
  · exact qX3_take
  · exact qX3_release
  · exact qX4_init
  · exact qX4_dueDay
  · exact qX4_markAt
  · exact qX4_wanted
  · exact qX4_misfitOn
  · exact qX4_misfitHere
  · exact qX4_placeNumber
  · exact qX4_isStuck
  · exact qX5_init
  · exact qX5_clock
  · exact qX5_hours
  · exact qX5_prices
  · exact qX5_shelf
  · exact qX5_put
  · exact qX5_fee
  · exact qX5_give
  · exact qX5_claim
  · exact qX5_mark
  · exact qX5_means
  · exact qX5_ask
  · exact qX5_settle
  · exact qX5_misfit
  · exact qX5_tidy
  · exact qX5_least
  · exact qX5_sell
  · exact qX5_pay
  · exact qX5_tear
  · exact qX5_mend
  · exact qX5_shelfOf
  · exact qX5_thing
  · exact qX5_claimOf
  · exact qX5_count
  · exact qX5_isWithin
  · exact qX5_isPrice
  · exact qX5_asNumber
  · exact qX5_dayOf
  · exact qX5_today
  · exact qX5_isOpen
  · exact qX5_shelfAt
  · exact qX5_thingAt
  · exact qX5_claimAt
  · exact qX5_ticketOf
  · exact qX5_checkOf
  · exact qX5_isTicket
  · exact qX5_lastRowDay
  · exact qX5_rowOn
  · exact qX5_feeOf
  · exact qX5_letOldCoinsFall
  · exact qX5_shelfForNew
  · exact qX5_isNearer
  · exact qX5_takeAway
  · exact qX5_meantBy
  · exact qX5_firstMeantBy
  · exact qX5_greatestHeap
  · exact qX5_isContested
  · exact qX5_makeBestMove
  · exact qX5_shelfForMove
  · exact qX5_move
  · exact qX5_thingsIn
  · exact qX5_coinsKept
  · exact qX6_init
  · exact qX6_in
  · exact qX6_gap
  · exact qX6_isOpen
  · exact qX6_hours
  · exact qX6_clock
  · exact qX6_prices
  · exact qX6_rowOf
  · exact qX6_shelf
  · exact qX6_free
  · exact qX6_suits
  · exact qX6_fits
  · exact qX6_wanted
  · exact qX6_misfitOn
  · exact qX6_ticketOf
  · exact qX6_put
  · exact qX6_feeOf
  · exact qX6_thingOf
  · exact qX6_fee
  · exact qX6_leaves
  · exact qX6_give
  · exact qX6_claim
  · exact qX6_isClaim
  · exact qX6_markOf
  · exact qX6_isMeant
  · exact qX6_meant
  · exact qX6_manyTold
  · exact qX6_means
  · exact qX6_mark
  · exact qX6_ask
  · exact qX6_settle
  · exact qX6_misfit
  · exact qX6_tidy
  · exact qX6_least
  · exact qX6_sell
  · exact qX6_pay
  · exact qX6_tear
  · exact qX6_mend
  · exact qX6_shelfOf
  · exact qX6_thing
  · exact qX6_claimOf
  · exact qX6_count
  · exact qL_law
end
section
/-! HOW THE MACHINE'S HEAP HOLDS THE ABSTRACT ONE: cell a of the abstract heap lies at base + (a - 1), the script (cell 0) at b -/
def am_ad (b base a : Nat) : Nat := if a = 0 then b else base + (a - 1)
def am_cv (b base : Nat) (v : Value) : Value := match v with
  | .ref a => .ref (am_ad b base a)
  | v => v
def am_cr (b base : Nat) (r : Option Nat) : Option Nat := r.map (am_ad b base)
theorem am_cv_rf (b base : Nat) (r : Option Nat) : am_cv b base (va_rf r) = va_rf (am_cr b base r) := by cases r <;> rfl
theorem am_cv_cat (b base : Nat) (v : Value) : (am_cv b base v).category = v.category := by cases v <;> rfl
theorem am_rf_cat (r : Option Nat) : (va_rf r).category = 1 := by cases r <;> rfl
theorem am_ad_inj {b base x y : Nat} (h : b < base) (e : am_ad b base x = am_ad b base y) : x = y := by
  unfold am_ad at e
  split at e <;> split at e <;> omega
theorem am_cr_inj {b base : Nat} {x y : Option Nat} (h : b < base) (e : am_cr b base x = am_cr b base y) : x = y := by
  cases x <;> cases y <;> simp [am_cr] at e ⊢
  exact am_ad_inj h e
def am_fs (b base : Nat) (h : Hp) (a ci : Nat) : List Value := (List.range (am_N ci)).map (fun k => am_cv b base (am_fv h a ci k))
def am_cell (cy : Nat → ClassId) (b base : Nat) (h : Hp) (a : Nat) : va_E :=
  if am_k h a < 7 then .inr (am_k h a, am_fs b base h a (am_k h a))
  else if am_k h a < 9 then .inl (cy (am_k h a), am_l h a, .inl (am_i h a))
  else .inl (cy (am_k h a), am_l h a, .inr (.inr (.inr (.inr (fun j => am_cr b base (am_r h a j))))))
def am_R (D : va_G) (cy : Nat → ClassId) (b base : Nat) (U : State) (h : Hp) (H : Heap) : Prop :=
  0 < am_n h ∧ H.size + 1 = base + am_n h ∧ b < base ∧ am_k h 0 = 7 ∧ va_X b (am_l h 0) (am_i h 0) U H ∧ ∀ a, 0 < a → a < am_n h → va_at D vwCl (am_ad b base a, am_cell cy b base h a) H
def am_tys (cy : Nat → ClassId) : List (ClassId × FieldType) := [(cy 7, .int), (cy 8, .boolean), (cy 9, .object RX3), (cy 10, .object RX4), (cy 11, .object RX1), (cy 12, .object RX2)]
def am_K (D : va_G) (cy : Nat → ClassId) (U : State) : Prop := va_K D vwCl (am_tys cy) U ∧ va_Nw am_Z U ∧ va_AO RX3 U ∧ va_AO RX4 U ∧ va_AO RX1 U ∧ va_AO RX2 U
theorem am_K.warm {D : va_G} {cy : Nat → ClassId} {s U : State} (hW : s.WarmedH U.vm) (h : am_K D cy s) : am_K D cy U :=
  ⟨va_K.moved hW.alike h.1, va_Nw.warmM hW h.2.1, h.2.2.1.moved hW.alike, h.2.2.2.1.moved hW.alike, h.2.2.2.2.1.moved hW.alike, h.2.2.2.2.2.moved hW.alike⟩
theorem am_K.same {D : va_G} {cy : Nat → ClassId} {s U : State} (hv : s.vm = U.vm) (h : am_K D cy s) : am_K D cy U :=
  ⟨va_K.moved (by rw [hv]; exact Vm.Alike.refl U.vm) h.1, va_Nw.same rfl hv h.2.1, h.2.2.1.moved (by rw [hv]; exact Vm.Alike.refl U.vm), h.2.2.2.1.moved (by rw [hv]; exact Vm.Alike.refl U.vm), h.2.2.2.2.1.moved (by rw [hv]; exact Vm.Alike.refl U.vm), h.2.2.2.2.2.moved (by rw [hv]; exact Vm.Alike.refl U.vm)⟩
theorem am_R.moved {D : va_G} {cy : Nat → ClassId} {b base : Nat} {u U : State} {h : Hp} {H : Heap} (hvm : u.vm.Alike U.vm) (hR : am_R D cy b base u h H) : am_R D cy b base U h H :=
  ⟨hR.1, hR.2.1, hR.2.2.1, hR.2.2.2.1, hR.2.2.2.2.1.moved hvm, hR.2.2.2.2.2⟩
theorem am_R.upd {D : va_G} {cy : Nat → ClassId} {b base : Nat} {s : State} {h h' : Hp} {H H1 : Heap} {a : Nat} (hR : am_R D cy b base s h H) (ha : 0 < a) (hn : am_n h' = am_n h) (hk0 : am_k h' 0 = am_k h 0) (hl0 : am_l h' 0 = am_l h 0) (hi0 : am_i h' 0 = am_i h 0)
    (hc : ∀ x, x ≠ a → am_cell cy b base h' x = am_cell cy b base h x) (hat : va_at D vwCl (am_ad b base a, am_cell cy b base h' a) H1) (hz : H1.size = H.size) (ho : ∀ q, q ≠ am_ad b base a → H1[q]? = H[q]?) : am_R D cy b base s h' H1 := by
  obtain ⟨r1, r2, r3, r4, r5, r6⟩ := hR
  have hb : b ≠ am_ad b base a := by unfold am_ad; rw [if_neg (by omega)]; omega
  refine ⟨by rw [hn]; exact r1, by rw [hz, hn]; exact r2, r3, by rw [hk0]; exact r4, by rw [hl0, hi0]; exact r5.kept (ho b hb), fun x hx hxn => ?_⟩
  by_cases e : x = a
  · subst e; exact hat
  · rw [hc x e]
    exact (r6 x hx (by rw [← hn]; exact hxn)).kept (ho _ (fun z => e (am_ad_inj r3 z)))
theorem am_R.push {D : va_G} {cy : Nat → ClassId} {b base : Nat} {s : State} {h : Hp} {H H1 : Heap} {kind len size : Nat} (hR : am_R D cy b base s h H) (hat : va_at D vwCl (H.size, am_cell cy b base (am_new h kind len size) (am_n h)) H1) (hz : H1.size = H.size + 1) (ho : ∀ q, q < H.size → H1[q]? = H[q]?) : am_R D cy b base s (am_new h kind len size) H1 ∧ H.size = am_ad b base (am_n h) := by
  obtain ⟨r1, r2, r3, r4, r5, r6⟩ := hR
  have hs : H.size = am_ad b base (am_n h) := by unfold am_ad; rw [if_neg (by omega)]; omega
  have h0 : (0 : Nat) ≠ am_n h := by omega
  refine ⟨⟨Nat.succ_pos _, by rw [hz]; show _ = base + (am_n h + 1); omega, r3, ?_, ?_, fun x hx hxn => ?_⟩, hs⟩
  · show (if (0 : Nat) = am_n h then kind else am_k h 0) = 7
    rw [if_neg h0]; exact r4
  · have e1 : am_l (am_new h kind len size) 0 = am_l h 0 := by show (if (0 : Nat) = am_n h then len else am_l h 0) = _; rw [if_neg h0]
    have e2 : am_i (am_new h kind len size) 0 = am_i h 0 := by funext j; show (if (0 : Nat) = am_n h then 0 else am_i h 0 j) = _; rw [if_neg h0]
    rw [e1, e2]
    have hbl : b < H.size := by obtain ⟨scr, g1, -⟩ := r5; exact (Array.getElem?_eq_some_iff.mp g1).1
    exact r5.kept (ho b hbl)
  · by_cases e : x = am_n h
    · subst e; rw [← hs]; exact hat
    · have hx2 : x < am_n h := by have h2 : x < am_n h + 1 := hxn; omega
      have e1 : am_cell cy b base (am_new h kind len size) x = am_cell cy b base h x := by
        have k1 : am_k (am_new h kind len size) x = am_k h x := by show (if x = am_n h then kind else am_k h x) = _; rw [if_neg e]
        have k2 : am_l (am_new h kind len size) x = am_l h x := by show (if x = am_n h then len else am_l h x) = _; rw [if_neg e]
        have k3 : am_i (am_new h kind len size) x = am_i h x := by funext j; show (if x = am_n h then 0 else am_i h x j) = _; rw [if_neg e]
        have k4 : am_r (am_new h kind len size) x = am_r h x := by funext j; show (if x = am_n h then none else am_r h x j) = _; rw [if_neg e]
        simp only [am_cell, am_fs, am_fv, k1, k2, k3, k4]
      rw [e1]
      have hlt := (r6 x hx hx2).lt
      exact (r6 x hx hx2).kept (ho _ hlt)
/-! the locals -/
def am_L (b base : Nat) (ls : am_Ls) (LS : Array Slot) : Prop := LS.size = ls.length ∧ lv_wf LS ∧ ∀ (i : Nat) (v : Value), ls[i]? = some (some v) → LS[i]? = some (.val (am_cv b base v)) ∧ v.category = 1
def am_as (b base : Nat) (ls : am_Ls) : List (Nat × Value) := (List.range ls.length).filterMap (fun i => match ls[i]? with | some (some v) => some (i, am_cv b base v) | _ => none)
theorem am_as_mem {b base : Nat} {ls : am_Ls} {q : Nat × Value} : q ∈ am_as b base ls ↔ ∃ v, ls[q.1]? = some (some v) ∧ q.2 = am_cv b base v := by
  unfold am_as
  rw [List.mem_filterMap]
  constructor
  · rintro ⟨i, hi, h⟩
    split at h
    · rename_i v hv
      cases h
      exact ⟨v, hv, rfl⟩
    · cases h
  · rintro ⟨v, h1, h2⟩
    refine ⟨q.1, List.mem_range.mpr (List.getElem?_eq_some_iff.mp h1).1, ?_⟩
    rw [h1]
    show some (q.1, am_cv b base v) = some q
    rw [← h2]
theorem am_L.has {b base : Nat} {ls : am_Ls} {LS : Array Slot} (h : am_L b base ls LS) : lv_has LS ls.length (am_as b base ls) := by
  refine ⟨h.1, h.2.1, fun q hq => ?_⟩
  obtain ⟨v, h1, h2⟩ := am_as_mem.mp hq
  rw [h2]
  exact (h.2.2 q.1 v h1).1
theorem am_L.set {b base : Nat} {ls : am_Ls} {LS LS' : Array Slot} {i : Nat} {v : Value} (h : am_L b base ls LS) (hi : i < ls.length) (hv : v.category = 1)
    (h' : lv_has LS' ls.length ((i, am_cv b base v) :: (am_as b base ls).filter (fun q => !(q.1 == i) && !(q.1 + 1 == i && q.2.category == 2)))) : am_L b base (ls.set i (some v)) LS' := by
  refine ⟨by rw [List.length_set]; exact h'.1, h'.2.1, fun j w hj => ?_⟩
  by_cases e : j = i
  · subst e
    rw [List.getElem?_set_self hi] at hj
    cases hj
    exact ⟨h'.2.2 _ List.mem_cons_self, hv⟩
  · rw [List.getElem?_set_ne (Ne.symm e)] at hj
    refine ⟨h'.2.2 (j, am_cv b base w) (List.mem_cons_of_mem _ (List.mem_filter.mpr ⟨am_as_mem.mpr ⟨w, hj, rfl⟩, ?_⟩)), (h.2.2 j w hj).2⟩
    have hc := (h.2.2 j w hj).2
    simp [e, am_cv_cat, hc]
theorem am_L.entry (b base : Nat) (as : List Value) (n : Nat) (h : as.length ≤ n) (hc : ∀ v ∈ as, v.category = 1) : am_L b base (as.map some ++ List.replicate (n - as.length) none) (((as.map (am_cv b base)).map Slot.val ++ List.replicate (n - as.length) Slot.unset).toArray) := by
  refine ⟨by simp, ?_, fun i v hi => ?_⟩
  · constructor
    · intro i v hv hcat
      exfalso
      have hv2 : (((as.map (am_cv b base)).map Slot.val ++ List.replicate (n - as.length) Slot.unset))[i]? = some (.val v) := by simpa using hv
      by_cases hl : i < as.length
      · rw [List.getElem?_append_left (by simpa using hl)] at hv2
        simp only [List.getElem?_map, List.map_map] at hv2
        rw [List.getElem?_eq_getElem hl] at hv2
        simp only [Option.map_some, Function.comp, Option.some.injEq, Slot.val.injEq] at hv2
        have h1 := hc _ (List.getElem_mem hl)
        rw [← hv2, am_cv_cat] at hcat
        omega
      · rw [List.getElem?_append_right (by simp; omega)] at hv2
        have h2 := List.mem_of_getElem? hv2
        have h3 := List.eq_of_mem_replicate h2
        cases h3
    · intro i hi
      exfalso
      have hv2 : (((as.map (am_cv b base)).map Slot.val ++ List.replicate (n - as.length) Slot.unset))[i]? = some .second := by simpa using hi
      by_cases hl : i < as.length
      · rw [List.getElem?_append_left (by simpa using hl)] at hv2
        simp only [List.getElem?_map, List.map_map] at hv2
        rw [List.getElem?_eq_getElem hl] at hv2
        simp only [Option.map_some, Function.comp, Option.some.injEq] at hv2
        cases hv2
      · rw [List.getElem?_append_right (by simp; omega)] at hv2
        have h2 := List.mem_of_getElem? hv2
        have h3 := List.eq_of_mem_replicate h2
        cases h3
  · by_cases hl : i < as.length
    · rw [List.getElem?_append_left (by simpa using hl)] at hi
      simp only [List.getElem?_map] at hi
      rw [List.getElem?_eq_getElem hl] at hi
      simp only [Option.map_some, Option.some.injEq] at hi
      subst hi
      refine ⟨?_, hc _ (List.getElem_mem hl)⟩
      rw [List.getElem?_toArray, List.getElem?_append_left (by simpa using hl)]
      simp only [List.getElem?_map]
      rw [List.getElem?_eq_getElem hl]
      rfl
    · rw [List.getElem?_append_right (by simp; omega)] at hi
      have h2 := List.mem_of_getElem? hi
      have h3 := List.eq_of_mem_replicate h2
      cases h3
/-! contracts -/
def am_Pc (D : va_G) (cy : Nat → ClassId) (b base : Nat) (as : List Value) (h : Hp) : Array Value → State → Prop := fun v U => v = (as.map (am_cv b base)).toArray ∧ am_R D cy b base U h U.heap ∧ am_K D cy U
def am_Qc (D : va_G) (cy : Nat → ClassId) (b base : Nat) (rv : Option Value) (h' : Hp) : Array Value → State → Outcome → State → Prop := fun _ st oc t => oc = .returned (rv.map (am_cv b base)) ∧ am_R D cy b base t h' t.heap ∧ va_F (fun q => base ≤ q) st t
def am_Met (l : Launch) (d y : Nat) (as : List Value) (h : Hp) (rv : Option Value) (h' : Hp) : Prop := ∀ (D : va_G) (cy : Nat → ClassId) (b base : Nat), Met l (am_m y).1 (am_w y) ({ frames := d, cells := am_n h' - am_n h, slots := am_z h' - am_z h, locals := 30 * d }) (am_Pc D cy b base as h) (am_Qc D cy b base rv h') (am_n h' - am_n h) (am_z h' - am_z h) (fun q => base ≤ q)
theorem am_Pc.blind (D : va_G) (cy : Nat → ClassId) (b base : Nat) (as : List Value) (h : Hp) : FrameBlind (am_Pc D cy b base as h) := fun a U g mk q => ⟨q.1, q.2.1.moved (Vm.Alike.refl U.vm), q.2.2.same rfl⟩
/-- what a walk stands on -/
def am_Cx (p : Program) (l : Launch) (R : Room) (s : State) (m : MethodId) (args : Array Value) (meth : Method) (c : Code) (M : am_M) (D : va_G) (cy : Nat → ClassId) (b base d : Nat) (Cal : am_Ct) : Prop :=
  p.tables.exec = Jvm.exec ∧ c.code = M.2.1 ∧ c.maxLocals = M.2.2.1 ∧ s.vm.findClass M.2.2.2.2.1 = some m.cls ∧ (∀ w ∈ am_tbl, w.before args s = true) ∧ (M.1.name = "<init>" → meth.name = "<init>") ∧ am_K D cy s ∧ base ≤ s.heap.size + 0 ∧ d + 1 ≤ R.frames ∧ 30 * (d + 1) ≤ R.locals ∧
  (∀ y as h rv h', Cal y as h rv h' → am_Met l d y as h rv h' ∧ am_n h ≤ am_n h' ∧ am_z h ≤ am_z h')
/-- the goal at a place: from every heap that holds h, the machine comes to Q -/
def am_G (p : Program) (l : Launch) (e : Env) (R : Room) (s : State) (m : MethodId) (args : Array Value) (below : List Frame) (meth : Method) (c : Code) (Q : State → Prop) (M : am_M) (D : va_G) (cy : Nat → ClassId) (b base : Nat) (hs : Hp) (pc : Nat) (ls : am_Ls) (st : List Value) (h : Hp) : Prop :=
  am_n hs ≤ am_n h → am_z hs ≤ am_z h → ls.length = M.2.2.1 → ∀ (H : Heap) (locs : List Loc) (LS : Array Slot), am_R D cy b base s h H → va_S (fun q => base ≤ q) s.heap H locs → am_L b base ls LS → W p l e R s m args below meth c H locs (am_n h - am_n hs) (am_z h - am_z hs) Q (F0 m pc LS (st.map (am_cv b base)))
end
section
/-! EACH INSTRUCTION: the goal behind it gives the goal at it -/
theorem am_in : ∀ ci, ci < 7 → ∀ w ∈ u_ws (am_C ci) (am_T ci) (am_N ci), w ∈ am_tbl := by
  intro ci h
  have key : ∀ (L : List Jvm.Cond), L.all (fun w => decide (w ∈ lw_tbl) && goodWord w) = true → ∀ w ∈ L, w ∈ am_tbl := by
    intro L hL w hw
    have h1 := List.all_eq_true.mp hL w hw
    simp only [Bool.and_eq_true, decide_eq_true_eq] at h1
    exact List.mem_filter.mpr h1
  match ci, h with
  | 0, _ => exact key _ (by decide +kernel)
  | 1, _ => exact key _ (by decide +kernel)
  | 2, _ => exact key _ (by decide +kernel)
  | 3, _ => exact key _ (by decide +kernel)
  | 4, _ => exact key _ (by decide +kernel)
  | 5, _ => exact key _ (by decide +kernel)
  | 6, _ => exact key _ (by decide +kernel)
  | n + 7, h => omega
theorem am_cl : ∀ ci, ci < 7 → vwCl[ci]? = some (am_C ci, am_T ci, am_N ci) := by
  intro ci h
  match ci, h with
  | 0, _ => rfl
  | 1, _ => rfl
  | 2, _ => rfl
  | 3, _ => rfl
  | 4, _ => rfl
  | 5, _ => rfl
  | 6, _ => rfl
  | n + 7, h => omega
theorem am_tyok : ∀ ci, ci < 7 → ∀ k, k < am_N ci → parseFieldDescriptor (am_T ci k).2.2.1 = some (am_ty ci k) := by
  intro ci h
  match ci, h with
  | 0, _ => exact tyX0_ok
  | 1, _ => exact tyX1_ok
  | 2, _ => exact tyX2_ok
  | 3, _ => exact tyX3_ok
  | 4, _ => exact tyX4_ok
  | 5, _ => exact tyX5_ok
  | 6, _ => exact tyX6_ok
  | n + 7, h => omega
theorem am_nm : ∀ ci, ci < 7 → ∀ a, a < am_N ci → ∀ b, b < am_N ci → a ≠ b → (am_T ci a).2.1 ≠ (am_T ci b).2.1 := by
  intro ci h
  match ci, h with
  | 0, _ => exact nmX0
  | 1, _ => exact nmX1
  | 2, _ => exact nmX2
  | 3, _ => exact nmX3
  | 4, _ => exact nmX4
  | 5, _ => exact nmX5
  | 6, _ => exact nmX6
  | n + 7, h => omega
theorem am_tyk : ∀ ci, ci < 7 → ∀ k, k < am_N ci → (am_ty ci k = .int ∨ am_ty ci k = .boolean ∨ (∃ n, am_ty ci k = .object n) ∨ ∃ t, am_ty ci k = .array t) := by
  have key : ∀ (t : FieldType), (match t with | .int => true | .boolean => true | .object _ => true | .array _ => true | _ => false) = true → (t = .int ∨ t = .boolean ∨ (∃ n, t = .object n) ∨ ∃ u, t = .array u) := by
    intro t h
    cases t <;> simp_all
  have all : ∀ ci, ci < 7 → ∀ k, k < am_N ci → (match am_ty ci k with | .int => true | .boolean => true | .object _ => true | .array _ => true | _ => false) = true := by decide +kernel
  exact fun ci h k hk => key _ (all ci h k hk)
section AS
variable {p : Program} {l : Launch} {e : Env} {R : Room} {s : State} {m : MethodId} {args : Array Value} {below : List Frame} {meth : Method} {c : Code} {Q : State → Prop} {M : am_M} {D : va_G} {cy : Nat → ClassId} {b base d : Nat} {Cal : am_Ct} {hs : Hp}
variable {pc : Nat} {ls : am_Ls} {st : List Value} {h : Hp}
theorem as_iload (X : am_Cx p l R s m args meth c M D cy b base d Cal) {j : Nat} (hd : decode M.2.1 pc = .ok (.iload j, 2)) {x : Int32} (hl : ls[j]? = some (some (.int x))) (k : am_G p l e R s m args below meth c Q M D cy b base hs (pc + 2) ls (.int x :: st) h) : am_G p l e R s m args below meth c Q M D cy b base hs pc ls st h := by
  intro hn hz hll H locs LS hR hS hL
  exact lv_iload X.1 X.2.1 hd (hL.2.2 j _ hl).1 (k hn hz hll H locs LS hR hS hL)
theorem as_iload_n (X : am_Cx p l R s m args meth c M D cy b base d Cal) {j : Fin 4} (hd : decode M.2.1 pc = .ok (.iload_n j, 1)) {x : Int32} (hl : ls[(j : Nat)]? = some (some (.int x))) (k : am_G p l e R s m args below meth c Q M D cy b base hs (pc + 1) ls (.int x :: st) h) : am_G p l e R s m args below meth c Q M D cy b base hs pc ls st h := by
  intro hn hz hll H locs LS hR hS hL
  exact lv_iload_n X.1 X.2.1 hd rfl (hL.2.2 j _ hl).1 (k hn hz hll H locs LS hR hS hL)
theorem as_aload (X : am_Cx p l R s m args meth c M D cy b base d Cal) {j : Nat} (hd : decode M.2.1 pc = .ok (.aload j, 2)) {x : Option Nat} (hl : ls[j]? = some (some (va_rf x))) (k : am_G p l e R s m args below meth c Q M D cy b base hs (pc + 2) ls (va_rf x :: st) h) : am_G p l e R s m args below meth c Q M D cy b base hs pc ls st h := by
  intro hn hz hll H locs LS hR hS hL
  have h1 := (hL.2.2 j _ hl).1
  have k1 := k hn hz hll H locs LS hR hS hL
  cases x with
  | none => exact lv_aloadN X.1 X.2.1 hd h1 k1
  | some x => exact lv_aload X.1 X.2.1 hd h1 k1
theorem as_aload_n (X : am_Cx p l R s m args meth c M D cy b base d Cal) {j : Fin 4} (hd : decode M.2.1 pc = .ok (.aload_n j, 1)) {x : Option Nat} (hl : ls[(j : Nat)]? = some (some (va_rf x))) (k : am_G p l e R s m args below meth c Q M D cy b base hs (pc + 1) ls (va_rf x :: st) h) : am_G p l e R s m args below meth c Q M D cy b base hs pc ls st h := by
  intro hn hz hll H locs LS hR hS hL
  have h1 := (hL.2.2 j _ hl).1
  have k1 := k hn hz hll H locs LS hR hS hL
  cases x with
  | none => exact lv_aload_nN X.1 X.2.1 hd rfl h1 k1
  | some x => exact lv_aload_n X.1 X.2.1 hd rfl h1 k1
theorem as_istore (X : am_Cx p l R s m args meth c M D cy b base d Cal) {j : Nat} (hd : decode M.2.1 pc = .ok (.istore j, 2)) {x : Int32} (hj : j < ls.length) (k : am_G p l e R s m args below meth c Q M D cy b base hs (pc + 2) (ls.set j (some (.int x))) st h) : am_G p l e R s m args below meth c Q M D cy b base hs pc ls (.int x :: st) h := by
  intro hn hz hll H locs LS hR hS hL
  exact lv_istore X.1 X.2.1 hd hL.has hj rfl (fun ls' hl' => k hn hz (by rw [List.length_set]; exact hll) H locs ls' hR hS (hL.set (v := .int x) hj rfl hl'))
theorem as_istore_n (X : am_Cx p l R s m args meth c M D cy b base d Cal) {j : Fin 4} (hd : decode M.2.1 pc = .ok (.istore_n j, 1)) {x : Int32} (hj : (j : Nat) < ls.length) (k : am_G p l e R s m args below meth c Q M D cy b base hs (pc + 1) (ls.set j (some (.int x))) st h) : am_G p l e R s m args below meth c Q M D cy b base hs pc ls (.int x :: st) h := by
  intro hn hz hll H locs LS hR hS hL
  exact lv_istore_n X.1 X.2.1 hd rfl hL.has hj rfl (fun ls' hl' => k hn hz (by rw [List.length_set]; exact hll) H locs ls' hR hS (hL.set (v := .int x) hj rfl hl'))
theorem as_astore (X : am_Cx p l R s m args meth c M D cy b base d Cal) {j : Nat} (hd : decode M.2.1 pc = .ok (.astore j, 2)) {x : Option Nat} (hj : j < ls.length) (k : am_G p l e R s m args below meth c Q M D cy b base hs (pc + 2) (ls.set j (some (va_rf x))) st h) : am_G p l e R s m args below meth c Q M D cy b base hs pc ls (va_rf x :: st) h := by
  intro hn hz hll H locs LS hR hS hL
  cases x with
  | none => exact lv_astoreN X.1 X.2.1 hd hL.has hj rfl (fun ls' hl' => k hn hz (by rw [List.length_set]; exact hll) H locs ls' hR hS (hL.set (v := .null) hj rfl hl'))
  | some x => exact lv_astore X.1 X.2.1 hd hL.has hj rfl (fun ls' hl' => k hn hz (by rw [List.length_set]; exact hll) H locs ls' hR hS (hL.set (v := .ref x) hj rfl hl'))
theorem as_astore_n (X : am_Cx p l R s m args meth c M D cy b base d Cal) {j : Fin 4} (hd : decode M.2.1 pc = .ok (.astore_n j, 1)) {x : Option Nat} (hj : (j : Nat) < ls.length) (k : am_G p l e R s m args below meth c Q M D cy b base hs (pc + 1) (ls.set j (some (va_rf x))) st h) : am_G p l e R s m args below meth c Q M D cy b base hs pc ls (va_rf x :: st) h := by
  intro hn hz hll H locs LS hR hS hL
  cases x with
  | none => exact lv_astore_nN X.1 X.2.1 hd rfl hL.has hj rfl (fun ls' hl' => k hn hz (by rw [List.length_set]; exact hll) H locs ls' hR hS (hL.set (v := .null) hj rfl hl'))
  | some x => exact lv_astore_n X.1 X.2.1 hd rfl hL.has hj rfl (fun ls' hl' => k hn hz (by rw [List.length_set]; exact hll) H locs ls' hR hS (hL.set (v := .ref x) hj rfl hl'))
theorem as_iconst (X : am_Cx p l R s m args meth c M D cy b base d Cal) {n : Int} (hd : decode M.2.1 pc = .ok (.iconst n, 1)) (k : am_G p l e R s m args below meth c Q M D cy b base hs (pc + 1) ls (.int (Int32.ofInt n) :: st) h) : am_G p l e R s m args below meth c Q M D cy b base hs pc ls st h := by
  intro hn hz hll H locs LS hR hS hL
  exact lv_iconst X.1 X.2.1 hd rfl (k hn hz hll H locs LS hR hS hL)
theorem as_bipush (X : am_Cx p l R s m args meth c M D cy b base d Cal) {n : Int} (hd : decode M.2.1 pc = .ok (.bipush n, 2)) (k : am_G p l e R s m args below meth c Q M D cy b base hs (pc + 2) ls (.int (Int8.ofInt n).toInt32 :: st) h) : am_G p l e R s m args below meth c Q M D cy b base hs pc ls st h := by
  intro hn hz hll H locs LS hR hS hL
  exact lv_bipush X.1 X.2.1 hd rfl (k hn hz hll H locs LS hR hS hL)
theorem as_sipush (X : am_Cx p l R s m args meth c M D cy b base d Cal) {n : Int} (hd : decode M.2.1 pc = .ok (.sipush n, 3)) (k : am_G p l e R s m args below meth c Q M D cy b base hs (pc + 3) ls (.int (Int16.ofInt n).toInt32 :: st) h) : am_G p l e R s m args below meth c Q M D cy b base hs pc ls st h := by
  intro hn hz hll H locs LS hR hS hL
  exact lv_sipush X.1 X.2.1 hd rfl (k hn hz hll H locs LS hR hS hL)
theorem as_ldc (X : am_Cx p l R s m args meth c M D cy b base d Cal) {idx : Nat} {v : Int32} (hw : Jvm.Cond.constant M.2.2.2.2.1 idx v ∈ am_tbl) (hd : decode M.2.1 pc = .ok (.ldc idx, 2)) (k : am_G p l e R s m args below meth c Q M D cy b base hs (pc + 2) ls (.int v :: st) h) : am_G p l e R s m args below meth c Q M D cy b base hs pc ls st h := by
  intro hn hz hll H locs LS hR hS hL
  obtain ⟨hx, hb, hml, hown, hts, X⟩ := X
  exact lv_ldc hx hb hown (hts _ hw) hd (k hn hz hll H locs LS hR hS hL)
theorem as_null (X : am_Cx p l R s m args meth c M D cy b base d Cal) (hd : decode M.2.1 pc = .ok (.aconst_null, 1)) (k : am_G p l e R s m args below meth c Q M D cy b base hs (pc + 1) ls (.null :: st) h) : am_G p l e R s m args below meth c Q M D cy b base hs pc ls st h := by
  intro hn hz hll H locs LS hR hS hL
  exact lv_null X.1 X.2.1 hd (k hn hz hll H locs LS hR hS hL)
theorem as_iinc (X : am_Cx p l R s m args meth c M D cy b base d Cal) {j : Nat} {n : Int} (hd : decode M.2.1 pc = .ok (.iinc j n, 3)) {x : Int32} (hl : ls[j]? = some (some (.int x))) (k : am_G p l e R s m args below meth c Q M D cy b base hs (pc + 3) (ls.set j (some (.int (x + Int32.ofInt n)))) st h) : am_G p l e R s m args below meth c Q M D cy b base hs pc ls st h := by
  intro hn hz hll H locs LS hR hS hL
  obtain ⟨i, hi⟩ := List.getElem?_of_mem (am_as_mem.mpr ⟨.int x, hl, rfl⟩ : (j, Value.int x) ∈ am_as b base ls)
  have hj : j < ls.length := (List.getElem?_eq_some_iff.mp hl).1
  exact lv_iinc X.1 X.2.1 hd hL.has hi rfl hj rfl (fun ls' hl' => k hn hz (by rw [List.length_set]; exact hll) H locs ls' hR hS (hL.set (v := .int (x + Int32.ofInt n)) hj rfl hl'))
theorem as_iadd (X : am_Cx p l R s m args meth c M D cy b base d Cal) (hd : decode M.2.1 pc = .ok (.iadd, 1)) {x y : Int32} (k : am_G p l e R s m args below meth c Q M D cy b base hs (pc + 1) ls (.int (x + y) :: st) h) : am_G p l e R s m args below meth c Q M D cy b base hs pc ls (.int y :: .int x :: st) h := by
  intro hn hz hll H locs LS hR hS hL
  exact lv_iadd X.1 X.2.1 hd (k hn hz hll H locs LS hR hS hL)
theorem as_isub (X : am_Cx p l R s m args meth c M D cy b base d Cal) (hd : decode M.2.1 pc = .ok (.isub, 1)) {x y : Int32} (k : am_G p l e R s m args below meth c Q M D cy b base hs (pc + 1) ls (.int (x - y) :: st) h) : am_G p l e R s m args below meth c Q M D cy b base hs pc ls (.int y :: .int x :: st) h := by
  intro hn hz hll H locs LS hR hS hL
  exact lv_isub X.1 X.2.1 hd (k hn hz hll H locs LS hR hS hL)
theorem as_imul (X : am_Cx p l R s m args meth c M D cy b base d Cal) (hd : decode M.2.1 pc = .ok (.imul, 1)) {x y : Int32} (k : am_G p l e R s m args below meth c Q M D cy b base hs (pc + 1) ls (.int (x * y) :: st) h) : am_G p l e R s m args below meth c Q M D cy b base hs pc ls (.int y :: .int x :: st) h := by
  intro hn hz hll H locs LS hR hS hL
  exact lv_imul X.1 X.2.1 hd (k hn hz hll H locs LS hR hS hL)
theorem as_iand (X : am_Cx p l R s m args meth c M D cy b base d Cal) (hd : decode M.2.1 pc = .ok (.iand, 1)) {x y : Int32} (k : am_G p l e R s m args below meth c Q M D cy b base hs (pc + 1) ls (.int (x &&& y) :: st) h) : am_G p l e R s m args below meth c Q M D cy b base hs pc ls (.int y :: .int x :: st) h := by
  intro hn hz hll H locs LS hR hS hL
  exact lv_iand X.1 X.2.1 hd (k hn hz hll H locs LS hR hS hL)
theorem as_ishl (X : am_Cx p l R s m args meth c M D cy b base d Cal) (hd : decode M.2.1 pc = .ok (.ishl, 1)) {x y : Int32} (k : am_G p l e R s m args below meth c Q M D cy b base hs (pc + 1) ls (.int (x <<< (y &&& 31)) :: st) h) : am_G p l e R s m args below meth c Q M D cy b base hs pc ls (.int y :: .int x :: st) h := by
  intro hn hz hll H locs LS hR hS hL
  exact lv_ishl X.1 X.2.1 hd (k hn hz hll H locs LS hR hS hL)
theorem as_ishr (X : am_Cx p l R s m args meth c M D cy b base d Cal) (hd : decode M.2.1 pc = .ok (.ishr, 1)) {x y : Int32} (k : am_G p l e R s m args below meth c Q M D cy b base hs (pc + 1) ls (.int (x >>> (y &&& 31)) :: st) h) : am_G p l e R s m args below meth c Q M D cy b base hs pc ls (.int y :: .int x :: st) h := by
  intro hn hz hll H locs LS hR hS hL
  exact lv_ishr X.1 X.2.1 hd (k hn hz hll H locs LS hR hS hL)
theorem as_idiv (X : am_Cx p l R s m args meth c M D cy b base d Cal) (hd : decode M.2.1 pc = .ok (.idiv, 1)) {x y : Int32} (hy : ¬ y = 0) (k : am_G p l e R s m args below meth c Q M D cy b base hs (pc + 1) ls (.int (x / y) :: st) h) : am_G p l e R s m args below meth c Q M D cy b base hs pc ls (.int y :: .int x :: st) h := by
  intro hn hz hll H locs LS hR hS hL
  exact lv_idiv X.1 X.2.1 hd hy (k hn hz hll H locs LS hR hS hL)
theorem as_irem (X : am_Cx p l R s m args meth c M D cy b base d Cal) (hd : decode M.2.1 pc = .ok (.irem, 1)) {x y : Int32} (hy : ¬ y = 0) (k : am_G p l e R s m args below meth c Q M D cy b base hs (pc + 1) ls (.int (x - x / y * y) :: st) h) : am_G p l e R s m args below meth c Q M D cy b base hs pc ls (.int y :: .int x :: st) h := by
  intro hn hz hll H locs LS hR hS hL
  exact lv_irem X.1 X.2.1 hd hy (k hn hz hll H locs LS hR hS hL)
theorem as_ineg (X : am_Cx p l R s m args meth c M D cy b base d Cal) (hd : decode M.2.1 pc = .ok (.ineg, 1)) {x : Int32} (k : am_G p l e R s m args below meth c Q M D cy b base hs (pc + 1) ls (.int (-x) :: st) h) : am_G p l e R s m args below meth c Q M D cy b base hs pc ls (.int x :: st) h := by
  intro hn hz hll H locs LS hR hS hL
  refine lv_ineg X.1 X.2.1 hd ?_
  first | exact k hn hz hll H locs LS hR hS hL | (have k1 := k hn hz hll H locs LS hR hS hL; simpa using k1)
theorem as_dup (X : am_Cx p l R s m args meth c M D cy b base d Cal) (hd : decode M.2.1 pc = .ok (.dup, 1)) {v : Value} (hv : v.category = 1) (k : am_G p l e R s m args below meth c Q M D cy b base hs (pc + 1) ls (v :: v :: st) h) : am_G p l e R s m args below meth c Q M D cy b base hs pc ls (v :: st) h := by
  intro hn hz hll H locs LS hR hS hL
  exact lv_dup X.1 X.2.1 hd (by rw [am_cv_cat]; exact hv) (k hn hz hll H locs LS hR hS hL)
theorem as_dup2 (X : am_Cx p l R s m args meth c M D cy b base d Cal) (hd : decode M.2.1 pc = .ok (.dup2, 1)) {v w : Value} (hv : v.category = 1) (hw : w.category = 1) (k : am_G p l e R s m args below meth c Q M D cy b base hs (pc + 1) ls (v :: w :: v :: w :: st) h) : am_G p l e R s m args below meth c Q M D cy b base hs pc ls (v :: w :: st) h := by
  intro hn hz hll H locs LS hR hS hL
  exact lv_dup2_11 X.1 X.2.1 hd (by rw [am_cv_cat]; exact hv) (by rw [am_cv_cat]; exact hw) (k hn hz hll H locs LS hR hS hL)
theorem as_goto (X : am_Cx p l R s m args meth c M D cy b base d Cal) {off : Int} {t : Nat} (hd : decode M.2.1 pc = .ok (.goto off, 3)) (ht : (pc : Int) + off = (t : Int)) (k : am_G p l e R s m args below meth c Q M D cy b base hs t ls st h) : am_G p l e R s m args below meth c Q M D cy b base hs pc ls st h := by
  intro hn hz hll H locs LS hR hS hL
  exact lv_goto X.1 X.2.1 hd ht (k hn hz hll H locs LS hR hS hL)
theorem as_if (X : am_Cx p l R s m args meth c M D cy b base d Cal) {cnd : Jvm.ClassFile.Cond} {off : Int} {t : Nat} (hd : decode M.2.1 pc = .ok (.ifCond cnd off, 3)) (ht : (pc : Int) + off = (t : Int)) {x : Int32} (k1 : am_cond cnd x 0 → am_G p l e R s m args below meth c Q M D cy b base hs t ls st h) (k2 : ¬ am_cond cnd x 0 → am_G p l e R s m args below meth c Q M D cy b base hs (pc + 3) ls st h) : am_G p l e R s m args below meth c Q M D cy b base hs pc ls (.int x :: st) h := by
  intro hn hz hll H locs LS hR hS hL
  have q1 := fun z => k1 z hn hz hll H locs LS hR hS hL
  have q2 := fun z => k2 z hn hz hll H locs LS hR hS hL
  have hx := X.1
  have hb := X.2.1
  cases cnd with
  | eq => exact lv_if_eq hx hb hd ht q1 q2
  | ne => exact lv_if_ne hx hb hd ht q1 (fun z => q2 (fun w => w z))
  | lt => exact lv_if_lt hx hb hd ht (fun z => q1 (by first | exact z | (simp only [am_cond]; exact z) | (simpa [am_cond, Int32.not_le] using z))) (fun z => q2 (by first | exact z | (simp only [am_cond]; exact z) | (simpa [am_cond, Int32.not_le, Int32.not_lt] using z)))
  | ge => exact lv_if_ge hx hb hd ht (fun z => q1 (by first | exact z | (simp only [am_cond]; exact z) | (simpa [am_cond, Int32.not_le] using z))) (fun z => q2 (by first | exact z | (simp only [am_cond]; exact z) | (simpa [am_cond, Int32.not_le, Int32.not_lt] using z)))
  | gt => exact lv_if_gt hx hb hd ht (fun z => q1 (by first | exact z | (simp only [am_cond]; exact z) | (simpa [am_cond, Int32.not_le] using z))) (fun z => q2 (by first | exact z | (simp only [am_cond]; exact z) | (simpa [am_cond, Int32.not_le, Int32.not_lt] using z)))
  | le => exact lv_if_le hx hb hd ht (fun z => q1 (by first | exact z | (simp only [am_cond]; exact z) | (simpa [am_cond, Int32.not_le] using z))) (fun z => q2 (by first | exact z | (simp only [am_cond]; exact z) | (simpa [am_cond, Int32.not_le, Int32.not_lt] using z)))
theorem as_icmp (X : am_Cx p l R s m args meth c M D cy b base d Cal) {cnd : Jvm.ClassFile.Cond} {off : Int} {t : Nat} (hd : decode M.2.1 pc = .ok (.if_icmp cnd off, 3)) (ht : (pc : Int) + off = (t : Int)) {x y : Int32} (k1 : am_cond cnd x y → am_G p l e R s m args below meth c Q M D cy b base hs t ls st h) (k2 : ¬ am_cond cnd x y → am_G p l e R s m args below meth c Q M D cy b base hs (pc + 3) ls st h) : am_G p l e R s m args below meth c Q M D cy b base hs pc ls (.int y :: .int x :: st) h := by
  intro hn hz hll H locs LS hR hS hL
  have q1 := fun z => k1 z hn hz hll H locs LS hR hS hL
  have q2 := fun z => k2 z hn hz hll H locs LS hR hS hL
  have hx := X.1
  have hb := X.2.1
  cases cnd with
  | eq => exact lv_icmp_eq hx hb hd ht q1 q2
  | ne => exact lv_icmp_ne hx hb hd ht q1 (fun z => q2 (fun w => w z))
  | lt => exact lv_icmp_lt hx hb hd ht (fun z => q1 (by first | exact z | (simp only [am_cond]; exact z) | (simpa [am_cond, Int32.not_le] using z))) (fun z => q2 (by first | exact z | (simp only [am_cond]; exact z) | (simpa [am_cond, Int32.not_le, Int32.not_lt] using z)))
  | ge => exact lv_icmp_ge hx hb hd ht (fun z => q1 (by first | exact z | (simp only [am_cond]; exact z) | (simpa [am_cond, Int32.not_le] using z))) (fun z => q2 (by first | exact z | (simp only [am_cond]; exact z) | (simpa [am_cond, Int32.not_le, Int32.not_lt] using z)))
  | gt => exact lv_icmp_gt hx hb hd ht (fun z => q1 (by first | exact z | (simp only [am_cond]; exact z) | (simpa [am_cond, Int32.not_le] using z))) (fun z => q2 (by first | exact z | (simp only [am_cond]; exact z) | (simpa [am_cond, Int32.not_le, Int32.not_lt] using z)))
  | le => exact lv_icmp_le hx hb hd ht (fun z => q1 (by first | exact z | (simp only [am_cond]; exact z) | (simpa [am_cond, Int32.not_le] using z))) (fun z => q2 (by first | exact z | (simp only [am_cond]; exact z) | (simpa [am_cond, Int32.not_le, Int32.not_lt] using z)))
theorem as_ifnull (X : am_Cx p l R s m args meth c M D cy b base d Cal) {off : Int} {t : Nat} (hd : decode M.2.1 pc = .ok (.ifnull off, 3)) (ht : (pc : Int) + off = (t : Int)) {x : Option Nat} (k1 : x = none → am_G p l e R s m args below meth c Q M D cy b base hs t ls st h) (k2 : ¬ x = none → am_G p l e R s m args below meth c Q M D cy b base hs (pc + 3) ls st h) : am_G p l e R s m args below meth c Q M D cy b base hs pc ls (va_rf x :: st) h := by
  intro hn hz hll H locs LS hR hS hL
  cases x with
  | none => exact lv_ifnullN X.1 X.2.1 hd ht (k1 rfl hn hz hll H locs LS hR hS hL)
  | some x => exact lv_ifnull X.1 X.2.1 hd (k2 (fun z => by cases z) hn hz hll H locs LS hR hS hL)
theorem as_ifnonnull (X : am_Cx p l R s m args meth c M D cy b base d Cal) {off : Int} {t : Nat} (hd : decode M.2.1 pc = .ok (.ifnonnull off, 3)) (ht : (pc : Int) + off = (t : Int)) {x : Option Nat} (k1 : ¬ x = none → am_G p l e R s m args below meth c Q M D cy b base hs t ls st h) (k2 : x = none → am_G p l e R s m args below meth c Q M D cy b base hs (pc + 3) ls st h) : am_G p l e R s m args below meth c Q M D cy b base hs pc ls (va_rf x :: st) h := by
  intro hn hz hll H locs LS hR hS hL
  cases x with
  | none => exact lv_ifnonnullN X.1 X.2.1 hd (k2 rfl hn hz hll H locs LS hR hS hL)
  | some x => exact lv_ifnonnull X.1 X.2.1 hd ht (k1 (fun z => by cases z) hn hz hll H locs LS hR hS hL)
theorem as_acmp (X : am_Cx p l R s m args meth c M D cy b base d Cal) {off : Int} {t : Nat} (hd : decode M.2.1 pc = .ok (.if_acmp .eq off, 3)) (ht : (pc : Int) + off = (t : Int)) {x y : Option Nat} (k1 : x = y → am_G p l e R s m args below meth c Q M D cy b base hs t ls st h) (k2 : ¬ x = y → am_G p l e R s m args below meth c Q M D cy b base hs (pc + 3) ls st h) : am_G p l e R s m args below meth c Q M D cy b base hs pc ls (va_rf y :: va_rf x :: st) h := by
  intro hn hz hll H locs LS hR hS hL
  show W _ _ _ _ _ _ _ _ _ _ _ _ _ _ _ (F0 m pc LS (am_cv b base (va_rf y) :: am_cv b base (va_rf x) :: st.map (am_cv b base)))
  rw [am_cv_rf, am_cv_rf]
  exact lv_acmp_eq X.1 X.2.1 hd ht (fun z => k1 (am_cr_inj hR.2.2.1 z) hn hz hll H locs LS hR hS hL) (fun z => k2 (fun w => z (by rw [w])) hn hz hll H locs LS hR hS hL)
theorem as_switch (X : am_Cx p l R s m args meth c M D cy b base d Cal) {dflt lo hi : Int} {offs : Array Int} {len : Nat} (hd : decode M.2.1 pc = .ok (.tableswitch dflt lo hi offs, len)) {x : Int32} {t : Nat} (ht : am_sw pc dflt lo hi offs x t) (k : am_G p l e R s m args below meth c Q M D cy b base hs t ls st h) : am_G p l e R s m args below meth c Q M D cy b base hs pc ls (.int x :: st) h := by
  intro hn hz hll H locs LS hR hS hL
  rcases ht with ⟨h1, h2⟩ | ⟨h1, h2, off, h3, h4⟩
  · exact lv_tableOut X.1 X.2.1 hd h1 h2 (k hn hz hll H locs LS hR hS hL)
  · exact lv_tableIn X.1 X.2.1 hd h1 h2 h3 h4 (k hn hz hll H locs LS hR hS hL)
theorem am_one {q : Nat × va_E} {H : Heap} (h : va_at D vwCl q H) : va_P D vwCl [q] H := by
  intro k x hk
  match k, hk with
  | 0, hk => cases hk; exact h
theorem am_cell_obj {h : Hp} {a ci : Nat} (hk : am_k h a = ci) (hci : ci < 7) : am_cell cy b base h a = .inr (ci, am_fs b base h a ci) := by
  subst hk
  unfold am_cell
  rw [if_pos hci]
theorem am_fs_get {h : Hp} {a ci k : Nat} (hk : k < am_N ci) : (am_fs b base h a ci)[k]? = some (am_cv b base (am_fv h a ci k)) := by
  unfold am_fs
  rw [List.getElem?_map, List.getElem?_range hk]
  rfl
theorem as_get (X : am_Cx p l R s m args meth c M D cy b base d Cal) {idx ci k : Nat} (hci : ci < 7) (hk : k < am_N ci) (hw : Jvm.Cond.fieldLink M.2.2.2.2.1 idx (am_T ci k).1 (am_T ci k).2.1 (am_T ci k).2.2.1 ∈ am_tbl) (hd : decode M.2.1 pc = .ok (.getfield idx, 3)) {a : Nat} (ha : 0 < a) (han : a < am_n h) (hka : am_k h a = ci) (kk : am_G p l e R s m args below meth c Q M D cy b base hs (pc + 3) ls (am_fv h a ci k :: st) h) : am_G p l e R s m args below meth c Q M D cy b base hs pc ls (.ref a :: st) h := by
  intro hn hz hll H locs LS hR hS hL
  obtain ⟨hx, hb, hml, hown, hts, hin, hK, X⟩ := X
  have hat := hR.2.2.2.2.2 a ha han
  rw [am_cell_obj hka hci] at hat
  exact va_get (D := D) (ci := ci) (v := am_cv b base (am_fv h a ci k)) (C := am_C ci) (T := am_T ci) (N := am_N ci) hx hb hts (am_in ci hci) hown hK.1 (am_one hat) 0 rfl (am_cl ci hci) k hk (hts _ hw) (fun _ h9 => h9) (am_fs_get hk) hd (kk hn hz hll H locs LS hR hS hL)
end AS
end
section
/-! THE INSTRUCTIONS THAT READ AND WRITE ARRAYS, WRITE FIELDS, MAKE CELLS -/
theorem am_tyA (cy : Nat → ClassId) {K : Nat} (h1 : 9 ≤ K) (h2 : K ≤ 12) : (am_tys cy)[K - 7]? = some (cy K, .object (am_C (am_el K))) := by
  match K, h1, h2 with
  | 9, _, _ => rfl
  | 10, _, _ => rfl
  | 11, _, _ => rfl
  | 12, _, _ => rfl
theorem am_el7 {K : Nat} : am_el K < 7 := by unfold am_el; split <;> decide
theorem am_inst : ∀ ci, ci < 7 → Jvm.Cond.instantiable (am_C ci) (am_N ci) ∈ am_tbl ∧ Jvm.Cond.initialized (am_C ci) ∈ am_tbl := by
  intro ci h
  have key : ∀ w : Jvm.Cond, (decide (w ∈ lw_tbl) && goodWord w) = true → w ∈ am_tbl := by
    intro w h1
    simp only [Bool.and_eq_true, decide_eq_true_eq] at h1
    exact List.mem_filter.mpr h1
  match ci, h with
  | 0, _ => exact ⟨key _ (by decide +kernel), key _ (by decide +kernel)⟩
  | 1, _ => exact ⟨key _ (by decide +kernel), key _ (by decide +kernel)⟩
  | 2, _ => exact ⟨key _ (by decide +kernel), key _ (by decide +kernel)⟩
  | 3, _ => exact ⟨key _ (by decide +kernel), key _ (by decide +kernel)⟩
  | 4, _ => exact ⟨key _ (by decide +kernel), key _ (by decide +kernel)⟩
  | 5, _ => exact ⟨key _ (by decide +kernel), key _ (by decide +kernel)⟩
  | 6, _ => exact ⟨key _ (by decide +kernel), key _ (by decide +kernel)⟩
  | n + 7, h => omega
theorem am_arrI : Jvm.Cond.arrayClass .int ∈ am_tbl := am_at_mem (i := 79) (by decide +kernel)
theorem am_arrZ : Jvm.Cond.arrayClass .boolean ∈ am_tbl := am_at_mem (i := 678) (by decide +kernel)
section AH
variable {p : Program} {l : Launch} {e : Env} {R : Room} {s : State} {m : MethodId} {args : Array Value} {below : List Frame} {meth : Method} {c : Code} {Q : State → Prop} {M : am_M} {D : va_G} {cy : Nat → ClassId} {b base d : Nat} {Cal : am_Ct} {hs : Hp}
variable {pc : Nat} {ls : am_Ls} {st : List Value} {h : Hp}
theorem am_ad_base {a : Nat} (ha : 0 < a) : base ≤ am_ad b base a := by unfold am_ad; rw [if_neg (by omega)]; omega
theorem am_cell_int {h : Hp} {a : Nat} (hk : am_k h a = 7) : am_cell cy b base h a = .inl (cy 7, am_l h a, .inl (am_i h a)) := by unfold am_cell; rw [hk]; rfl
theorem am_cell_bool {h : Hp} {a : Nat} (hk : am_k h a = 8) : am_cell cy b base h a = .inl (cy 8, am_l h a, .inl (am_i h a)) := by unfold am_cell; rw [hk]; rfl
theorem am_cell_ref {h : Hp} {a : Nat} (h1 : 9 ≤ am_k h a) : am_cell cy b base h a = .inl (cy (am_k h a), am_l h a, .inr (.inr (.inr (.inr (fun j => am_cr b base (am_r h a j)))))) := by unfold am_cell; rw [if_neg (by omega), if_neg (by omega)]
theorem as_iaload (X : am_Cx p l R s m args meth c M D cy b base d Cal) (hd : decode M.2.1 pc = .ok (.iaload, 1)) {a : Nat} {i : Int32} (han : a < am_n h) (hk : am_k h a = 7) (hin : vp_in i (am_l h a)) (kk : am_G p l e R s m args below meth c Q M D cy b base hs (pc + 1) ls (.int (am_i h a i.toNatClampNeg) :: st) h) : am_G p l e R s m args below meth c Q M D cy b base hs pc ls (.int i :: .ref a :: st) h := by
  intro hn hz hll H locs LS hR hS hL
  obtain ⟨hx, hb, hml, hown, hts, hin2, hK, X⟩ := X
  have k1 := kk hn hz hll H locs LS hR hS hL
  by_cases ha : a = 0
  · subst ha
    obtain ⟨scr, h1, h2, h3, h4, h5⟩ := hR.2.2.2.2.1
    have hlt : i.toNatClampNeg < am_l h 0 := Nat.not_le.mp fun q => hin (Or.inr q)
    exact W.iald (v := .int (am_i h 0 i.toNatClampNeg)) hx hb h1 h2 h3 (by rw [h4]; exact hin) (h5 _ hlt) rfl rfl hd k1
  · have hat := hR.2.2.2.2.2 a (by omega) han
    rw [am_cell_int hk] at hat
    exact va_iald hx hb hK.1 (am_one hat) 0 0 rfl rfl hin hd k1
theorem as_baload (X : am_Cx p l R s m args meth c M D cy b base d Cal) (hd : decode M.2.1 pc = .ok (.baload, 1)) {a : Nat} {i : Int32} (ha : 0 < a) (han : a < am_n h) (hk : am_k h a = 8) (hin : vp_in i (am_l h a)) (kk : am_G p l e R s m args below meth c Q M D cy b base hs (pc + 1) ls (.int (am_i h a i.toNatClampNeg) :: st) h) : am_G p l e R s m args below meth c Q M D cy b base hs pc ls (.int i :: .ref a :: st) h := by
  intro hn hz hll H locs LS hR hS hL
  obtain ⟨hx, hb, hml, hown, hts, hin2, hK, X⟩ := X
  have hat := hR.2.2.2.2.2 a ha han
  rw [am_cell_bool hk] at hat
  exact va_zald hx hb hK.1 (am_one hat) 0 1 rfl rfl hin hd (kk hn hz hll H locs LS hR hS hL)
theorem as_aaload (X : am_Cx p l R s m args meth c M D cy b base d Cal) (hd : decode M.2.1 pc = .ok (.aaload, 1)) {a : Nat} {i : Int32} (ha : 0 < a) (han : a < am_n h) (hk1 : 9 ≤ am_k h a) (hk2 : am_k h a ≤ 12) (hin : vp_in i (am_l h a)) (kk : am_G p l e R s m args below meth c Q M D cy b base hs (pc + 1) ls (va_rf (am_r h a i.toNatClampNeg) :: st) h) : am_G p l e R s m args below meth c Q M D cy b base hs pc ls (.int i :: .ref a :: st) h := by
  intro hn hz hll H locs LS hR hS hL
  obtain ⟨hx, hb, hml, hown, hts, hin2, hK, X⟩ := X
  have hat := hR.2.2.2.2.2 a ha han
  rw [am_cell_ref hk1] at hat
  refine va_aldq hx hb hK.1 (am_one hat) 0 (am_k h a - 7) rfl (am_tyA cy hk1 hk2) hin hd ?_
  rw [← am_cv_rf]
  exact kk hn hz hll H locs LS hR hS hL
theorem as_alen (X : am_Cx p l R s m args meth c M D cy b base d Cal) (hd : decode M.2.1 pc = .ok (.arraylength, 1)) {a : Nat} (han : a < am_n h) (hk1 : 7 ≤ am_k h a) (hk2 : am_k h a ≤ 12) (kk : am_G p l e R s m args below meth c Q M D cy b base hs (pc + 1) ls (.int (Int32.ofNat (am_l h a)) :: st) h) : am_G p l e R s m args below meth c Q M D cy b base hs pc ls (.ref a :: st) h := by
  intro hn hz hll H locs LS hR hS hL
  obtain ⟨hx, hb, hml, hown, hts, hin2, hK, X⟩ := X
  have k1 := kk hn hz hll H locs LS hR hS hL
  by_cases ha : a = 0
  · subst ha
    obtain ⟨scr, h1, h2, h3, h4, h5⟩ := hR.2.2.2.2.1
    exact W.alen (n := Int32.ofNat (am_l h 0)) hx hb h1 h2 (by rw [h4] <;> rfl) rfl rfl hd k1
  · have hat := hR.2.2.2.2.2 a (by omega) han
    by_cases e7 : am_k h a = 7
    · rw [am_cell_int e7] at hat
      exact va_alen hx hb hK.1 (am_one hat) 0 0 rfl rfl rfl hd k1
    · by_cases e8 : am_k h a = 8
      · rw [am_cell_bool e8] at hat
        exact va_alen hx hb hK.1 (am_one hat) 0 1 rfl rfl rfl hd k1
      · rw [am_cell_ref (by omega)] at hat
        exact va_alen hx hb hK.1 (am_one hat) 0 (am_k h a - 7) rfl (am_tyA cy (by omega) hk2) rfl hd k1
theorem am_cell_setI_ne {h : Hp} {a k x : Nat} {v : Int32} (e : x ≠ a) : am_cell cy b base (am_setI h a k v) x = am_cell cy b base h x := by
  have k1 : am_k (am_setI h a k v) x = am_k h x := rfl
  have k2 : am_l (am_setI h a k v) x = am_l h x := rfl
  have k3 : am_i (am_setI h a k v) x = am_i h x := by funext j; show (if x = a ∧ j = k then v else am_i h x j) = _; rw [if_neg (fun z => e z.1)]
  have k4 : am_r (am_setI h a k v) x = am_r h x := rfl
  simp only [am_cell, am_fs, am_fv, k1, k2, k3, k4]
theorem am_cell_setR_ne {h : Hp} {a k x : Nat} {v : Option Nat} (e : x ≠ a) : am_cell cy b base (am_setR h a k v) x = am_cell cy b base h x := by
  have k1 : am_k (am_setR h a k v) x = am_k h x := rfl
  have k2 : am_l (am_setR h a k v) x = am_l h x := rfl
  have k3 : am_i (am_setR h a k v) x = am_i h x := rfl
  have k4 : am_r (am_setR h a k v) x = am_r h x := by funext j; show (if x = a ∧ j = k then v else am_r h x j) = _; rw [if_neg (fun z => e z.1)]
  simp only [am_cell, am_fs, am_fv, k1, k2, k3, k4]
theorem am_R.setI {U : State} {h : Hp} {H H1 : Heap} {a k : Nat} {v : Int32} (hR : am_R D cy b base U h H) (ha : 0 < a) (hat : va_at D vwCl (am_ad b base a, am_cell cy b base (am_setI h a k v) a) H1) (hz : H1.size = H.size) (ho : ∀ q, q ≠ am_ad b base a → H1[q]? = H[q]?) : am_R D cy b base U (am_setI h a k v) H1 :=
  hR.upd ha rfl rfl rfl (by funext j; show (if 0 = a ∧ j = k then v else am_i h 0 j) = _; rw [if_neg (by omega)]) (fun x e => am_cell_setI_ne e) hat hz ho
theorem am_R.setR {U : State} {h : Hp} {H H1 : Heap} {a k : Nat} {v : Option Nat} (hR : am_R D cy b base U h H) (ha : 0 < a) (hat : va_at D vwCl (am_ad b base a, am_cell cy b base (am_setR h a k v) a) H1) (hz : H1.size = H.size) (ho : ∀ q, q ≠ am_ad b base a → H1[q]? = H[q]?) : am_R D cy b base U (am_setR h a k v) H1 :=
  hR.upd ha rfl rfl rfl rfl (fun x e => am_cell_setR_ne e) hat hz ho
theorem as_iastore (X : am_Cx p l R s m args meth c M D cy b base d Cal) (hd : decode M.2.1 pc = .ok (.iastore, 1)) {a : Nat} {i x : Int32} (ha : 0 < a) (han : a < am_n h) (hk : am_k h a = 7) (hin : vp_in i (am_l h a)) (kk : am_G p l e R s m args below meth c Q M D cy b base hs (pc + 1) ls st (am_setI h a i.toNatClampNeg x)) : am_G p l e R s m args below meth c Q M D cy b base hs pc ls (.int x :: .int i :: .ref a :: st) h := by
  intro hn hz hll H locs LS hR hS hL
  obtain ⟨hx, hb, hml, hown, hts, hin2, hK, X⟩ := X
  have hat := hR.2.2.2.2.2 a ha han
  rw [am_cell_int hk] at hat
  have hcell : H[am_ad b base a]? = some (arrV (cy 7) (am_l h a) (fun j => .int (am_i h a j))) := hat
  refine W.iast hx hb hcell ((hK.1.2 0 (cy 7, .int) rfl).1 _ _) (fun q => by cases q) (by rw [arrV_size]; exact hin) rfl rfl hd fun H1 e1 z oq => ?_
  refine kk hn hz hll H1 _ LS (hR.setI ha ?_ z oq) (hS.put z oq (am_ad_base ha)) hL
  rw [am_cell_int (show am_k (am_setI h a i.toNatClampNeg x) a = 7 from hk)]
  show H1[am_ad b base a]? = some (arrV (cy 7) (am_l h a) (fun j => .int (am_i (am_setI h a i.toNatClampNeg x) a j)))
  rw [e1, arrV_store]
  congr 2
  funext q
  by_cases hq : q = i.toNatClampNeg
  · subst hq; simp [updV, am_setI, am_i]
  · simp [updV, am_setI, am_i, hq]
theorem as_bastore (X : am_Cx p l R s m args meth c M D cy b base d Cal) (hd : decode M.2.1 pc = .ok (.bastore, 1)) {a : Nat} {i x : Int32} (ha : 0 < a) (han : a < am_n h) (hk : am_k h a = 8) (hin : vp_in i (am_l h a)) (hx01 : x = 0 ∨ x = 1) (kk : am_G p l e R s m args below meth c Q M D cy b base hs (pc + 1) ls st (am_setI h a i.toNatClampNeg x)) : am_G p l e R s m args below meth c Q M D cy b base hs pc ls (.int x :: .int i :: .ref a :: st) h := by
  intro hn hz hll H locs LS hR hS hL
  obtain ⟨hx, hb, hml, hown, hts, hin2, hK, X⟩ := X
  have hat := hR.2.2.2.2.2 a ha han
  rw [am_cell_bool hk] at hat
  have hcell : H[am_ad b base a]? = some (arrV (cy 8) (am_l h a) (fun j => .int (am_i h a j))) := hat
  have hnar : narrow .boolean (.int x) = .int x := by rcases hx01 with rfl | rfl <;> rfl
  refine W.zast hx hb hcell ((hK.1.2 1 (cy 8, .boolean) rfl).1 _ _) (fun q => by cases q) (by rw [arrV_size]; exact hin) rfl rfl hd fun H1 e1 z oq => ?_
  rw [hnar] at e1
  refine kk hn hz hll H1 _ LS (hR.setI ha ?_ z oq) (hS.put z oq (am_ad_base ha)) hL
  rw [am_cell_bool (show am_k (am_setI h a i.toNatClampNeg x) a = 8 from hk)]
  show H1[am_ad b base a]? = some (arrV (cy 8) (am_l h a) (fun j => .int (am_i (am_setI h a i.toNatClampNeg x) a j)))
  rw [e1, arrV_store]
  congr 2
  funext q
  by_cases hq : q = i.toNatClampNeg
  · subst hq; simp [updV, am_setI, am_i]
  · simp [updV, am_setI, am_i, hq]
theorem as_aastore (X : am_Cx p l R s m args meth c M D cy b base d Cal) (hd : decode M.2.1 pc = .ok (.aastore, 1)) {a v : Nat} {i : Int32} (ha : 0 < a) (han : a < am_n h) (hk1 : 9 ≤ am_k h a) (hk2 : am_k h a ≤ 12) (hv : 0 < v) (hvn : v < am_n h) (hkv : am_k h v = am_el (am_k h a)) (hin : vp_in i (am_l h a)) (kk : am_G p l e R s m args below meth c Q M D cy b base hs (pc + 1) ls st (am_setR h a i.toNatClampNeg (some v))) : am_G p l e R s m args below meth c Q M D cy b base hs pc ls (.ref v :: .int i :: .ref a :: st) h := by
  intro hn hz hll H locs LS hR hS hL
  obtain ⟨hx, hb, hml, hown, hts, hin2, hK, X⟩ := X
  have hat := hR.2.2.2.2.2 a ha han
  rw [am_cell_ref hk1] at hat
  have hatv := hR.2.2.2.2.2 v hv hvn
  rw [am_cell_obj hkv am_el7] at hatv
  have hcell : H[am_ad b base a]? = some (arrV (cy (am_k h a)) (am_l h a) (fun j => va_rf (am_cr b base (am_r h a j)))) := hat
  obtain ⟨r', hr', cellV, g1, g2, g3, -⟩ := hatv
  have hcls := (hK.1.1 _ _ (am_cl (am_el (am_k h a)) am_el7)).2
  obtain ⟨kA, comp, j1, j2, j3, -⟩ := (hK.1.2 _ _ (am_tyA cy hk1 hk2)).2
  have hcomp : comp = D.1 (am_el (am_k h a)) := Option.some.inj (j3.symm.trans hcls.1)
  subst hcomp
  obtain ⟨kC, hkC, hkCk⟩ := hcls.2
  have h0 : ¬ i < 0 := fun q => hin (Or.inl q)
  have hlt : i.toNatClampNeg < am_l h a := Nat.not_le.mp fun q => hin (Or.inr q)
  refine W.aast hx hb hcell (fun q h => by cases h) (fun h => by cases h) j1 j2 rfl hkC ⟨h0, by rw [arrV_size]; exact hlt⟩ g1 (fun q h => by rw [g3] at h; cases h) (by rw [g2]; exact hkC) (by rw [g2]; exact va_assign hcls) rfl rfl hd fun H1 e1 z oq => ?_
  refine kk hn hz hll H1 _ LS (hR.setR ha ?_ z oq) (hS.put z oq (am_ad_base ha)) hL
  rw [am_cell_ref (show 9 ≤ am_k (am_setR h a i.toNatClampNeg (some v)) a from hk1)]
  show H1[am_ad b base a]? = some (arrV (cy (am_k h a)) (am_l h a) (fun j => va_rf (am_cr b base (am_r (am_setR h a i.toNatClampNeg (some v)) a j))))
  rw [e1, arrV_store]
  congr 2
  funext q
  by_cases hq : q = i.toNatClampNeg
  · subst hq; simp [updV, am_setR, am_r, am_cr, va_rf]
  · simp [updV, am_setR, am_r, hq]
theorem am_putW (X : am_Cx p l R s m args meth c M D cy b base d Cal) {idx ci k : Nat} (hci : ci < 7) (hk : k < am_N ci) (hw : Jvm.Cond.fieldLink M.2.2.2.2.1 idx (am_T ci k).1 (am_T ci k).2.1 (am_T ci k).2.2.1 ∈ am_tbl) (hfin : (am_T ci k).2.2.2 = true → (am_T ci k).1 = M.2.2.2.2.1 ∧ M.1.name = "<init>") (hd : decode M.2.1 pc = .ok (.putfield idx, 3))
    {H : Heap} {locs : List Loc} {LS : Array Slot} {cells slots q : Nat} {rest fs : List Value} {v : Value} (hat : va_at D vwCl (q, .inr (ci, fs)) H) (hq : base ≤ q) (hS : va_S (fun q => base ≤ q) s.heap H locs) (hnar : narrow (am_ty ci k) v = v) (hfit : fits (am_ty ci k) v = true) (hl : k < fs.length)
    (kk : ∀ (H1 : Heap) (locs1 : List Loc), va_at D vwCl (q, .inr (ci, fs.set k v)) H1 → H1.size = H.size → (∀ x, x ≠ q → H1[x]? = H[x]?) → va_S (fun q => base ≤ q) s.heap H1 locs1 → W p l e R s m args below meth c H1 locs1 cells slots Q (F0 m (pc + 3) LS rest)) : W p l e R s m args below meth c H locs cells slots Q (F0 m pc LS (v :: .ref q :: rest)) := by
  obtain ⟨hx, hb, hml, hown, hts, hin2, hK, X⟩ := X
  have hap := va_apart (own := M.2.2.2.2.1) hts (am_in ci hci) (am_ty ci) (am_tyok ci hci) (am_nm ci hci) hK.1 (am_cl ci hci)
  obtain ⟨r, h1, cell, q1, q2, q3, q4⟩ := hat
  have hr : r = (am_C ci, am_T ci, am_N ci) := Option.some.inj (h1.symm.trans (am_cl ci hci))
  subst hr
  obtain ⟨hSl, hfc, kC, hkC, hkind⟩ := hK.1.1 ci _ (am_cl ci hci)
  obtain ⟨cf, kf, fi, f, hi, hsl⟩ := hSl k hk
  have hlay := hts _ (am_in ci hci _ (u_in_lay hk))
  have hst := (u_facts hfc hkC (u_lays hts (am_in ci hci) hk) hi).1
  cases hf : (am_T ci k).2.2.2 with
  | false =>
    unfold u_lay at hlay
    rw [if_neg (by rw [hf]; decide)] at hlay
    have h6 := u_store hfc hkC hkind hlay hi (am_tyok ci hci k hk) hnar hfit
    refine W.putK hx hb (f := f) ⟨hown, hts _ hw, ⟨_, _, _, hi⟩, hst⟩ (by rw [q2]; exact h6) q1 q3 (by rw [hsl]; exact k2_hasslot (q4 k hk)) rfl rfl hd fun H' e1 e2 e3 => ?_
    rw [hsl] at e1 ⊢
    exact kk H' _ ⟨_, am_cl ci hci, t_OB.to (V := updV (vp_V fs) k v) ⟨_, e1, q2, q3, t_set q4 hap hk v⟩ (fun j _ => vp_updV_set hl v j)⟩ e2 e3 (hS.put e2 e3 hq)
  | true =>
    obtain ⟨f1, f2⟩ := hfin hf
    unfold u_lay at hlay
    rw [if_pos hf] at hlay
    have hcf : m.cls = cf := by
      obtain ⟨_, _, c', _, _, _, -, -, hf', -, -, -, hown2, -⟩ := Cond.laysFinal_spec hlay
      have e1 : c' = cf := by have := hi.symm.trans hf'; simp at this; exact this.1.symm
      rw [f1] at hown2
      rw [← e1]; exact Option.some.inj (hown.symm.trans hown2)
    have h6 := u_fits hfc hkC hkind (Or.inr hlay) hi (am_tyok ci hci k hk) hnar hfit
    refine W.putFinK hx hb hown (hts _ hw) hi hst hcf (hin2 f2) (by rw [q2]; exact h6) q1 q3 (by rw [hsl]; exact k2_hasslot (q4 k hk)) rfl rfl hd fun H' e1 e2 e3 => ?_
    rw [hsl] at e1 ⊢
    exact kk H' _ ⟨_, am_cl ci hci, t_OB.to (V := updV (vp_V fs) k v) ⟨_, e1, q2, q3, t_set q4 hap hk v⟩ (fun j _ => vp_updV_set hl v j)⟩ e2 e3 (hS.put e2 e3 hq)
theorem am_fs_len {h : Hp} {a ci : Nat} : (am_fs b base h a ci).length = am_N ci := by simp [am_fs]
theorem am_fs_setR {h : Hp} {a ci k : Nat} {x : Option Nat} (hk : k < am_N ci) (hf : am_ft ci k = 2) : (am_fs b base h a ci).set k (am_cv b base (va_rf x)) = am_fs b base (am_setR h a k x) a ci := by
  apply List.ext_getElem?
  intro j
  by_cases hj : j < am_N ci
  · rw [am_fs_get hj]
    by_cases e : j = k
    · subst e
      rw [List.getElem?_set_self (by rw [am_fs_len]; exact hk)]
      simp [am_fv, hf, am_setR, am_r]
    · rw [List.getElem?_set_ne (Ne.symm e), am_fs_get hj]
      simp [am_fv, am_setR, am_r, am_i, e]
  · rw [List.getElem?_eq_none (by rw [List.length_set, am_fs_len]; omega), List.getElem?_eq_none (by rw [am_fs_len]; omega)]
theorem am_fs_setI {h : Hp} {a ci k : Nat} {x : Int32} (hk : k < am_N ci) (hf : am_ft ci k < 2) : (am_fs b base h a ci).set k (.int x) = am_fs b base (am_setI h a k x) a ci := by
  apply List.ext_getElem?
  intro j
  by_cases hj : j < am_N ci
  · rw [am_fs_get hj]
    by_cases e : j = k
    · subst e
      rw [List.getElem?_set_self (by rw [am_fs_len]; exact hk)]
      have hf2 : ¬ am_ft ci j = 2 := by omega
      simp [am_fv, hf2, am_setI, am_i, am_cv]
    · rw [List.getElem?_set_ne (Ne.symm e), am_fs_get hj]
      simp [am_fv, am_setI, am_r, am_i, e]
  · rw [List.getElem?_eq_none (by rw [List.length_set, am_fs_len]; omega), List.getElem?_eq_none (by rw [am_fs_len]; omega)]
theorem as_putR (X : am_Cx p l R s m args meth c M D cy b base d Cal) {idx ci k : Nat} (hci : ci < 7) (hk : k < am_N ci) (hw : Jvm.Cond.fieldLink M.2.2.2.2.1 idx (am_T ci k).1 (am_T ci k).2.1 (am_T ci k).2.2.1 ∈ am_tbl) (hfin : (am_T ci k).2.2.2 = true → (am_T ci k).1 = M.2.2.2.2.1 ∧ M.1.name = "<init>") (hd : decode M.2.1 pc = .ok (.putfield idx, 3))
    {a : Nat} {x : Option Nat} (hft : am_ft ci k = 2) (ha : 0 < a) (han : a < am_n h) (hka : am_k h a = ci) (kk : am_G p l e R s m args below meth c Q M D cy b base hs (pc + 3) ls st (am_setR h a k x)) : am_G p l e R s m args below meth c Q M D cy b base hs pc ls (va_rf x :: .ref a :: st) h := by
  intro hn hz hll H locs LS hR hS hL
  have hat := hR.2.2.2.2.2 a ha han
  rw [am_cell_obj hka hci] at hat
  have hnf : narrow (am_ty ci k) (am_cv b base (va_rf x)) = am_cv b base (va_rf x) ∧ fits (am_ty ci k) (am_cv b base (va_rf x)) = true := by
    rw [am_cv_rf]
    rcases am_tyk ci hci k hk with e | e | ⟨n, e⟩ | ⟨t, e⟩
    · simp [am_ft, e] at hft
    · simp [am_ft, e] at hft
    · rw [e]; cases x <;> exact ⟨rfl, rfl⟩
    · rw [e]; cases x <;> exact ⟨rfl, rfl⟩
  refine am_putW X hci hk hw hfin hd hat (am_ad_base ha) hS hnf.1 hnf.2 (by rw [am_fs_len]; exact hk) fun H1 locs1 g1 g2 g3 g4 => ?_
  rw [am_fs_setR hk hft] at g1
  refine kk hn hz hll H1 locs1 LS (hR.setR ha ?_ g2 g3) g4 hL
  rw [am_cell_obj (show am_k (am_setR h a k x) a = ci from hka) hci]
  exact g1
theorem as_putI (X : am_Cx p l R s m args meth c M D cy b base d Cal) {idx ci k : Nat} (hci : ci < 7) (hk : k < am_N ci) (hw : Jvm.Cond.fieldLink M.2.2.2.2.1 idx (am_T ci k).1 (am_T ci k).2.1 (am_T ci k).2.2.1 ∈ am_tbl) (hfin : (am_T ci k).2.2.2 = true → (am_T ci k).1 = M.2.2.2.2.1 ∧ M.1.name = "<init>") (hd : decode M.2.1 pc = .ok (.putfield idx, 3))
    {a : Nat} {x : Int32} (hft : am_ft ci k < 2) (hx1 : am_ft ci k = 1 → x = 0 ∨ x = 1) (ha : 0 < a) (han : a < am_n h) (hka : am_k h a = ci) (kk : am_G p l e R s m args below meth c Q M D cy b base hs (pc + 3) ls st (am_setI h a k x)) : am_G p l e R s m args below meth c Q M D cy b base hs pc ls (.int x :: .ref a :: st) h := by
  intro hn hz hll H locs LS hR hS hL
  have hat := hR.2.2.2.2.2 a ha han
  rw [am_cell_obj hka hci] at hat
  have hnf : narrow (am_ty ci k) (.int x) = .int x ∧ fits (am_ty ci k) (.int x) = true := by
    rcases am_tyk ci hci k hk with e | e | ⟨n, e⟩ | ⟨t, e⟩
    · rw [e]; exact ⟨rfl, rfl⟩
    · rw [e]
      rcases hx1 (by simp [am_ft, e]) with rfl | rfl <;> exact ⟨rfl, rfl⟩
    · simp [am_ft, e] at hft
    · simp [am_ft, e] at hft
  refine am_putW X hci hk hw hfin hd hat (am_ad_base ha) hS hnf.1 hnf.2 (by rw [am_fs_len]; exact hk) fun H1 locs1 g1 g2 g3 g4 => ?_
  rw [show am_cv b base (Value.int x) = Value.int x from rfl, am_fs_setI hk hft] at g1
  refine kk hn hz hll H1 locs1 LS (hR.setI ha ?_ g2 g3) g4 hL
  rw [am_cell_obj (show am_k (am_setI h a k x) a = ci from hka) hci]
  exact g1
theorem am_count {N0 n1 n2 n3 : Nat} (h1 : n1 ≤ n2) (h2 : n2 + N0 = n3) : n2 - n1 + N0 = n3 - n1 := by omega
theorem as_new (X : am_Cx p l R s m args meth c M D cy b base d Cal) {idx ci : Nat} (hci : ci < 7) (hw : Jvm.Cond.classLink M.2.2.2.2.1 idx (am_C ci) ∈ am_tbl) (hd : decode M.2.1 pc = .ok (.new idx, 3)) (hrc : am_n h + 1 ≤ am_n hs + R.cells) (hrs : am_z h + am_N ci ≤ am_z hs + R.slots)
    (kk : am_G p l e R s m args below meth c Q M D cy b base hs (pc + 3) ls (.ref (am_n h) :: st) (am_new h ci 0 (am_N ci))) : am_G p l e R s m args below meth c Q M D cy b base hs pc ls st h := by
  intro hn hz hll H locs LS hR hS hL
  obtain ⟨hx, hb, hml, hown, hts, hin2, hK, X⟩ := X
  have hKn := hK.1.1 ci _ (am_cl ci hci)
  refine W.newcK hx hb hown (hts _ hw) (hts _ (am_inst ci hci).1) (hts _ (am_inst ci hci).2) rfl hd (by omega) (by omega) hKn.2.1 rfl fun H1 kC hkC e1 z1 o1 => ?_
  have hob := u_born (am_ty ci) hts (am_in ci hci) hKn hkC e1 (am_tyok ci hci)
  have hk2 : am_k (am_new h ci 0 (am_N ci)) (am_n h) = ci := by show (if am_n h = am_n h then ci else _) = ci; rw [if_pos rfl]
  have hat : va_at D vwCl (H.size, am_cell cy b base (am_new h ci 0 (am_N ci)) (am_n h)) H1 := by
    rw [am_cell_obj hk2 hci]
    refine ⟨_, am_cl ci hci, hob.to (fun j hj => ?_)⟩
    unfold vp_V
    rw [List.getD_eq_getElem?_getD, am_fs_get hj]
    rcases am_tyk ci hci j hj with e | e | ⟨n, e⟩ | ⟨t, e⟩
    · simp [am_fv, am_ft, e, am_new, am_i, am_cv, defaultValue]
    · simp [am_fv, am_ft, e, am_new, am_i, am_cv, defaultValue]
    · simp [am_fv, am_ft, e, am_new, am_r, am_cv, defaultValue, va_rf]
    · simp [am_fv, am_ft, e, am_new, am_r, am_cv, defaultValue, va_rf]
  obtain ⟨hR1, hsz⟩ := hR.push (kind := ci) (len := 0) (size := am_N ci) hat z1 o1
  have k1 := kk (show am_n hs ≤ am_n h + 1 by omega) (show am_z hs ≤ am_z h + am_N ci by omega) hll H1 locs LS hR1 ⟨Nat.le_trans hS.1 (by omega), fun x h1 h2 => (o1 x (Nat.lt_of_lt_of_le h1 hS.1)).trans (hS.2.1 x h1 h2), hS.2.2⟩ hL
  have c1 : am_n h - am_n hs + 1 = am_n (am_new h ci 0 (am_N ci)) - am_n hs := am_count hn rfl
  have c2 : am_z h - am_z hs + am_N ci = am_z (am_new h ci 0 (am_N ci)) - am_z hs := am_count hz rfl
  rw [c1, c2, hsz]
  exact k1
theorem as_newarray (X : am_Cx p l R s m args meth c M D cy b base d Cal) {at1 : ArrayType} {kd : Nat} (ht : (at1 = .int ∧ kd = 7) ∨ (at1 = .boolean ∧ kd = 8)) (hd : decode M.2.1 pc = .ok (.newarray at1, 2)) {n : Int32} (hn0 : ¬ n < 0) (hnb : n.toNatClampNeg ≤ 100000) (hrc : am_n h + 1 ≤ am_n hs + R.cells) (hrs : am_z h + n.toNatClampNeg ≤ am_z hs + R.slots)
    (kk : am_G p l e R s m args below meth c Q M D cy b base hs (pc + 2) ls (.ref (am_n h) :: st) (am_new h kd n.toNatClampNeg n.toNatClampNeg)) : am_G p l e R s m args below meth c Q M D cy b base hs pc ls (.int n :: st) h := by
  intro hn hz hll H locs LS hR hS hL
  obtain ⟨hx, hb, hml, hown, hts, hin2, hK, X⟩ := X
  have harr : (Jvm.Cond.arrayClass (newarray.typeOf at1)).before args s = true := by
    rcases ht with ⟨rfl, -⟩ | ⟨rfl, -⟩
    · exact hts _ am_arrI
    · exact hts _ am_arrZ
  have hby : n.toNatClampNeg * componentBytes (newarray.typeOf at1) ≤ 536870912 := by
    have h8 : componentBytes (newarray.typeOf at1) ≤ 8 := by rcases ht with ⟨rfl, -⟩ | ⟨rfl, -⟩ <;> decide
    calc n.toNatClampNeg * componentBytes (newarray.typeOf at1) ≤ 100000 * 8 := Nat.mul_le_mul hnb h8
      _ ≤ 536870912 := by decide
  refine va_newaK hx hb harr rfl hd rfl hn0 rfl hby (by omega) (by omega) rfl fun H1 cA e1 z1 o1 hAr hNm => ?_
  have hk2 : am_k (am_new h kd n.toNatClampNeg n.toNatClampNeg) (am_n h) = kd := by show (if am_n h = am_n h then kd else _) = kd; rw [if_pos rfl]
  have hl2 : am_l (am_new h kd n.toNatClampNeg n.toNatClampNeg) (am_n h) = n.toNatClampNeg := by show (if am_n h = am_n h then n.toNatClampNeg else _) = _; rw [if_pos rfl]
  have hi2 : am_i (am_new h kd n.toNatClampNeg n.toNatClampNeg) (am_n h) = fun _ => 0 := by funext j; show (if am_n h = am_n h then 0 else _) = (0 : Int32); rw [if_pos rfl]
  have hat : va_at D vwCl (H.size, am_cell cy b base (am_new h kd n.toNatClampNeg n.toNatClampNeg) (am_n h)) H1 := by
    rcases ht with ⟨rfl, rfl⟩ | ⟨rfl, rfl⟩
    · rw [am_cell_int hk2, hl2, hi2]
      have hc : cA = cy 7 := Option.some.inj (hNm.symm.trans (show s.vm.findClass _ = some (cy 7) from (hK.1.2 0 (cy 7, .int) rfl).2))
      subst hc
      exact e1
    · rw [am_cell_bool hk2, hl2, hi2]
      have hc : cA = cy 8 := Option.some.inj (hNm.symm.trans (show s.vm.findClass _ = some (cy 8) from (hK.1.2 1 (cy 8, .boolean) rfl).2))
      subst hc
      exact e1
  obtain ⟨hR1, hsz⟩ := hR.push (kind := kd) (len := n.toNatClampNeg) (size := n.toNatClampNeg) hat z1 o1
  have k1 := kk (show am_n hs ≤ am_n h + 1 by omega) (show am_z hs ≤ am_z h + n.toNatClampNeg by omega) hll H1 locs LS hR1 ⟨Nat.le_trans hS.1 (by omega), fun x h1 h2 => (o1 x (Nat.lt_of_lt_of_le h1 hS.1)).trans (hS.2.1 x h1 h2), hS.2.2⟩ hL
  have c1 : am_n h - am_n hs + 1 = am_n (am_new h kd n.toNatClampNeg n.toNatClampNeg) - am_n hs := am_count hn rfl
  have c2 : am_z h - am_z hs + n.toNatClampNeg = am_z (am_new h kd n.toNatClampNeg n.toNatClampNeg) - am_z hs := am_count hz rfl
  rw [c1, c2, hsz]
  exact k1
theorem am_ao (hK : am_K D cy s) {K : Nat} (h1 : 9 ≤ K) (h2 : K ≤ 12) : va_AO (am_C (am_el K)) s := by
  match K, h1, h2 with
  | 9, _, _ => exact hK.2.2.1
  | 10, _, _ => exact hK.2.2.2.1
  | 11, _, _ => exact hK.2.2.2.2.1
  | 12, _, _ => exact hK.2.2.2.2.2
theorem as_anewarray (X : am_Cx p l R s m args meth c M D cy b base d Cal) {idx kd : Nat} (hk1 : 9 ≤ kd) (hk2 : kd ≤ 12) (hw : Jvm.Cond.classLink M.2.2.2.2.1 idx (am_C (am_el kd)) ∈ am_tbl) (hd : decode M.2.1 pc = .ok (.anewarray idx, 3)) {n : Int32} (hn0 : ¬ n < 0) (hnb : n.toNatClampNeg ≤ 100000) (hrc : am_n h + 1 ≤ am_n hs + R.cells) (hrs : am_z h + n.toNatClampNeg ≤ am_z hs + R.slots)
    (kk : am_G p l e R s m args below meth c Q M D cy b base hs (pc + 3) ls (.ref (am_n h) :: st) (am_new h kd n.toNatClampNeg n.toNatClampNeg)) : am_G p l e R s m args below meth c Q M D cy b base hs pc ls (.int n :: st) h := by
  intro hn hz hll H locs LS hR hS hL
  obtain ⟨hx, hb, hml, hown, hts, hin2, hK, X⟩ := X
  refine W.anew hx hb hown (hts _ hw) (am_ao hK hk1 hk2).use rfl hd rfl hn0 (by omega) (by omega) (by omega) fun cA kA comp g1 g2 g3 g4 => ?_
  rw [arrV_new]
  have hkk : am_k (am_new h kd n.toNatClampNeg n.toNatClampNeg) (am_n h) = kd := by show (if am_n h = am_n h then kd else _) = kd; rw [if_pos rfl]
  have hl2 : am_l (am_new h kd n.toNatClampNeg n.toNatClampNeg) (am_n h) = n.toNatClampNeg := by show (if am_n h = am_n h then n.toNatClampNeg else _) = _; rw [if_pos rfl]
  have hr2 : am_r (am_new h kd n.toNatClampNeg n.toNatClampNeg) (am_n h) = fun _ => none := by funext j; show (if am_n h = am_n h then none else _) = (none : Option Nat); rw [if_pos rfl]
  have hc : cA = cy kd := by
    obtain ⟨kA', comp', -, -, -, j4⟩ := (hK.1.2 _ _ (am_tyA cy hk1 hk2)).2
    exact Option.some.inj (g1.symm.trans j4)
  subst hc
  have hat : va_at D vwCl (H.size, am_cell cy b base (am_new h kd n.toNatClampNeg n.toNatClampNeg) (am_n h)) (H.push (arrV (cy kd) n.toNatClampNeg (fun _ => .null))) := by
    rw [am_cell_ref (by rw [hkk]; exact hk1), hkk, hl2, hr2]
    show (H.push _)[H.size]? = some (arrV (cy kd) n.toNatClampNeg (fun j => va_rf (am_cr b base none)))
    rw [Array.getElem?_push, if_pos rfl]
    rfl
  obtain ⟨hR1, hsz⟩ := hR.push (kind := kd) (len := n.toNatClampNeg) (size := n.toNatClampNeg) hat (by simp) (fun q hq => by rw [Array.getElem?_push, if_neg (Nat.ne_of_lt hq)])
  have k1 := kk (show am_n hs ≤ am_n h + 1 by omega) (show am_z hs ≤ am_z h + n.toNatClampNeg by omega) hll _ locs LS hR1 ⟨Nat.le_trans hS.1 (by simp), fun x h1 h2 => by rw [Array.getElem?_push, if_neg (Nat.ne_of_lt (Nat.lt_of_lt_of_le h1 hS.1))]; exact hS.2.1 x h1 h2, hS.2.2⟩ hL
  have c1 : am_n h - am_n hs + 1 = am_n (am_new h kd n.toNatClampNeg n.toNatClampNeg) - am_n hs := am_count hn rfl
  have c2 : am_z h - am_z hs + n.toNatClampNeg = am_z (am_new h kd n.toNatClampNeg n.toNatClampNeg) - am_z hs := am_count hz rfl
  rw [c1, c2, hsz]
  exact k1
end AH
end
section
/-! CALLS, AND THE WHOLE: a run of the abstract machine is a run of the machine -/
section AC
variable {p : Program} {l : Launch} {e : Env} {R : Room} {s : State} {m : MethodId} {args : Array Value} {below : List Frame} {meth : Method} {c : Code} {Q : State → Prop} {M : am_M} {D : va_G} {cy : Nat → ClassId} {b base d : Nat} {Cal : am_Ct} {hs : Hp}
variable {pc : Nat} {ls : am_Ls} {st : List Value} {h : Hp}
theorem am_after {H : Heap} {locs : List Loc} {LS : Array Slot} {cells slots mc ms : Nat} {st0 rest : List Value} {rv : Option Value} {h' : Hp} {a : Array Value} (hr : va_Run p l e R s m args below meth c H locs cells slots mc ms (F0 m pc LS st0) rest (am_Qc D cy b base rv h' a) (fun q => base ≤ q)) (hS : va_S (fun q => base ≤ q) s.heap H locs)
    (kk : ∀ (H1 : Heap) (locs1 : List Loc), am_R D cy b base s h' H1 → va_S (fun q => base ≤ q) s.heap H1 locs1 → W p l e R s m args below meth c H1 locs1 (cells + mc) (slots + ms) Q (F0 m (pc + 3) LS ((rv.map (am_cv b base)).toList ++ rest))) : W p l e R s m args below meth c H locs cells slots Q (F0 m pc LS st0) := by
  intro T hT X
  obtain ⟨v, st₀, t, T', L, h0, X', hL, e1, e2, ⟨hv, hRt, hz, hk⟩, stp⟩ := hr T hT X
  cases hv
  rw [h0] at hz hk
  obtain ⟨t2, a1, b1⟩ := kk T'.heap (locs ++ L) (by rw [e1]; exact hRt.moved (by rw [← e2]; exact X'.warmed.alike.symm))
    ⟨Nat.le_trans hS.1 (by rw [e1]; exact hz), fun q h1 h2 => by rw [e1, hk q (Nat.lt_of_lt_of_le h1 hS.1) h2]; exact hS.2.1 q h1 h2, fun q hq => by
      rcases List.mem_append.mp hq with h | h
      · exact hS.2.2 q h
      · exact hL q h⟩ T' rfl X'
  exact ⟨t2, stp t2 a1, b1⟩
theorem am_goodw (y : Nat) (hc : Jvm.Cond.code (am_m y).1 (am_m y).2.1 (am_m y).2.2.1 (am_m y).2.2.2.1 ∈ am_tbl) : GoodIn am_tbl (am_w y) := by
  intro w hw
  rcases List.mem_cons.mp hw with rfl | hw
  · exact ⟨hc, am_tbl_good hc⟩
  · exact ⟨hw, am_tbl_good hw⟩
def am_mok (y : Nat) : Prop := Jvm.Cond.code (am_m y).1 (am_m y).2.1 (am_m y).2.2.1 (am_m y).2.2.2.1 ∈ am_tbl ∧ (if (am_pos.getD y (0, 0, 0, 0, 0, 0)).2.2.1 = 1 then Jvm.Cond.static (am_m y).1 ∈ am_tbl else Jvm.Cond.instanceMethod (am_m y).1 ∈ am_tbl) ∧ Jvm.Cond.initialized (am_m y).1.cls ∈ am_tbl ∧
  ((am_m y).1.cls ≠ "java/lang/invoke/MethodHandle" ∧ (am_m y).1.cls ≠ "java/lang/invoke/VarHandle" ∧ (parseMethodDescriptor (am_m y).1.desc).map (fun d => d.parameters.length) = some (am_pos.getD y (0, 0, 0, 0, 0, 0)).2.2.2.2.2) ∧ plainName (am_m y).1.cls = true ∧ (am_m y).2.2.1 ≤ 10
theorem am_mok_of {y : Nat} (h : am_mchk y = true) : am_mok y := by
  unfold am_mchk at h
  simp only [Bool.and_eq_true, decide_eq_true_eq] at h
  obtain ⟨⟨⟨⟨⟨⟨⟨h1, h2⟩, h3⟩, h4⟩, h5⟩, h6⟩, h7⟩, h8⟩ := h
  refine ⟨am_at_mem h1, ?_, am_at_mem h3, ⟨h4, h5, h6⟩, h7, h8⟩
  split
  · rename_i hq; rw [if_pos hq] at h2; exact am_at_mem h2
  · rename_i hq; rw [if_neg hq] at h2; exact am_at_mem h2
theorem am_sum (r : List Value) : ((r.map (am_cv b base)).map fun v => v.category) = r.map fun v => v.category := by
  rw [List.map_map]
  apply List.map_congr_left
  intro v _
  exact am_cv_cat b base v
theorem as_virt (X : am_Cx p l R s m args meth c M D cy b base d Cal) {idx y n : Nat} (hw : Jvm.Cond.methodLink M.2.2.2.2.1 idx (am_m y).1 ∈ am_tbl) (hm : am_mok y) (hst : ¬ (am_pos.getD y (0, 0, 0, 0, 0, 0)).2.2.1 = 1) (hnp : (am_pos.getD y (0, 0, 0, 0, 0, 0)).2.2.2.2.2 = n) (hsel : Jvm.Cond.selects (am_m y).1.cls (am_m y).1 (am_m y).1 ∈ am_tbl) (hcl : (am_m y).1.cls = am_C (am_own y)) (ho7 : am_own y < 7)
    (hd : decode M.2.1 pc = .ok (.invokevirtual idx, 3)) {as : List Value} {a : Nat} {rv : Option Value} {h' : Hp} (hlen : as.length = n) (h8 : (st.map fun v => v.category).sum ≤ 8) (ha : 0 < a) (han : a < am_n h) (hka : am_k h a = am_own y) (hcal : Cal y (.ref a :: as) h rv h')
    (hrc : am_n h' ≤ am_n hs + R.cells) (hrs : am_z h' ≤ am_z hs + R.slots) (kk : am_G p l e R s m args below meth c Q M D cy b base hs (pc + 3) ls (rv.toList ++ st) h') : am_G p l e R s m args below meth c Q M D cy b base hs pc ls (as.reverse ++ .ref a :: st) h := by
  intro hn hz hll H locs LS hR hS hL
  obtain ⟨hx, hb, hml, hown, hts, hin2, hK, hbs, hfr, hlo, hC⟩ := X
  obtain ⟨hM, hn1, hz1⟩ := hC y _ h rv h' hcal
  obtain ⟨m1, m2, m3, m4, m5, m6⟩ := hm
  rw [if_neg hst] at m2
  subst hnp
  have hat := hR.2.2.2.2.2 a ha han
  rw [am_cell_obj hka ho7] at hat
  have hrecv := va_recv hK.1 (am_one hat) (am_cl (am_own y) ho7) (q0 := 0) rfl
  have hcb := callB_of (R := R) (s := s) (args := args) (own := M.2.2.2.2.1) (index := idx) (y := (am_m y).1) (rm := { frames := d, cells := am_n h' - am_n h, slots := am_z h' - am_z h, locals := 30 * d }) (am_pos.getD y (0, 0, 0, 0, 0, 0)).2.2.2.2.2 hts (am_goodw y m1) rfl (mc := am_n h' - am_n h) (ms := am_z h' - am_z h) rfl rfl (hts _ m3) (hts _ hw) m4 ⟨hfr, by show 8 + ((am_m y).2.2.1 + 11) + 30 * d ≤ _; omega⟩
  have hrun := va_runV (p := p) (l := l) (e := e) (m := m) (below := below) (meth := meth) (c := c) (H := H) (locs := locs) (cells := am_n h - am_n hs) (slots := am_z h - am_z hs) (As := as.map (am_cv b base)) (rest := st.map (am_cv b base)) (g := F0 m pc LS ((as.reverse ++ .ref a :: st).map (am_cv b base))) (b := am_ad b base a) (C := (am_m y).1.cls)
    ⟨hx, hb, hml, hown, hts⟩ (hM D cy b base) ⟨hcb, hts _ m2, hts _ hsel⟩ ⟨am_Pc.blind D cy b base _ h, by rw [hcl]; exact hrecv, fun U hU hW => ⟨rfl, by rw [hU]; exact hR.moved hW.alike, hK.warm hW⟩⟩ rfl (by rw [List.length_map]; exact hlen) (hL.1.trans hll) (by show (as.reverse ++ .ref a :: st).map (am_cv b base) = _; rw [List.map_append, List.map_reverse]; rfl) (lv_room (by rw [am_sum]; exact h8)) hd ⟨by omega, by omega⟩
  refine am_after hrun hS fun H1 locs1 g1 g2 => ?_
  have c1 : am_n h - am_n hs + (am_n h' - am_n h) = am_n h' - am_n hs := by omega
  have c2 : am_z h - am_z hs + (am_z h' - am_z h) = am_z h' - am_z hs := by omega
  rw [c1, c2]
  have k1 := kk (by omega) (by omega) hll H1 locs1 LS g1 g2 hL
  rw [List.map_append] at k1
  cases rv <;> exact k1
theorem as_stat (X : am_Cx p l R s m args meth c M D cy b base d Cal) {idx y n : Nat} (hw : Jvm.Cond.methodLink M.2.2.2.2.1 idx (am_m y).1 ∈ am_tbl ∨ Jvm.Cond.methodLinkNest M.2.2.2.2.1 idx (am_m y).1 RX5 = am_Z) (hm : am_mok y) (hst : (am_pos.getD y (0, 0, 0, 0, 0, 0)).2.2.1 = 1) (hnp : (am_pos.getD y (0, 0, 0, 0, 0, 0)).2.2.2.2.2 = n)
    (hd : decode M.2.1 pc = .ok (.invokestatic idx, 3)) {as : List Value} {rv : Option Value} {h' : Hp} (hlen : as.length = n) (h8 : (st.map fun v => v.category).sum ≤ 8) (hcal : Cal y as h rv h')
    (hrc : am_n h' ≤ am_n hs + R.cells) (hrs : am_z h' ≤ am_z hs + R.slots) (kk : am_G p l e R s m args below meth c Q M D cy b base hs (pc + 3) ls (rv.toList ++ st) h') : am_G p l e R s m args below meth c Q M D cy b base hs pc ls (as.reverse ++ st) h := by
  intro hn hz hll H locs LS hR hS hL
  obtain ⟨hx, hb, hml, hown, hts, hin2, hK, hbs, hfr, hlo, hC⟩ := X
  obtain ⟨hM, hn1, hz1⟩ := hC y _ h rv h' hcal
  obtain ⟨m1, m2, m3, m4, m5, m6⟩ := hm
  rw [if_pos hst] at m2
  subst hnp
  have hstk : (F0 m pc LS ((as.reverse ++ st).map (am_cv b base))).stack = (as.map (am_cv b base)).reverse ++ st.map (am_cv b base) := by
    show (as.reverse ++ st).map (am_cv b base) = _
    rw [List.map_append, List.map_reverse]
  have hroom : 30 * d + 29 ≤ R.locals := by omega
  have hpre : PreS s H (am_Pc D cy b base as h) (as.map (am_cv b base)) := ⟨am_Pc.blind D cy b base _ h, fun U hU hW => ⟨rfl, by rw [hU]; exact hR.moved hW.alike, hK.warm hW⟩⟩
  have hrun : va_Run p l e R s m args below meth c H locs (am_n h - am_n hs) (am_z h - am_z hs) (am_n h' - am_n h) (am_z h' - am_z h) (F0 m pc LS ((as.reverse ++ st).map (am_cv b base))) (st.map (am_cv b base)) (am_Qc D cy b base rv h' (as.map (am_cv b base)).toArray) (fun q => base ≤ q) := by
    rcases hw with hw | hw
    · have hcb := callB_of (R := R) (s := s) (args := args) (own := M.2.2.2.2.1) (index := idx) (y := (am_m y).1) (rm := { frames := d, cells := am_n h' - am_n h, slots := am_z h' - am_z h, locals := 30 * d }) (am_pos.getD y (0, 0, 0, 0, 0, 0)).2.2.2.2.2 hts (am_goodw y m1) rfl (mc := am_n h' - am_n h) (ms := am_z h' - am_z h) rfl rfl (hts _ m3) (hts _ hw) m4 ⟨hfr, by show 8 + ((am_m y).2.2.1 + 11) + 30 * d ≤ _; omega⟩
      exact va_runS ⟨hx, hb, hml, hown, hts⟩ (hM D cy b base) ⟨hcb, hts _ m2⟩ hpre rfl (by rw [List.length_map]; exact hlen) (hL.1.trans hll) hstk (lv_room (by rw [am_sum]; exact h8)) hd ⟨by omega, by omega⟩
    · have hcn := va_cnB (R := R) (s := s) (args := args) (own := M.2.2.2.2.1) (host := RX5) (index := idx) (y := (am_m y).1) (rm := { frames := d, cells := am_n h' - am_n h, slots := am_z h' - am_z h, locals := 30 * d }) (am_pos.getD y (0, 0, 0, 0, 0, 0)).2.2.2.2.2 hts (am_goodw y m1) rfl (mc := am_n h' - am_n h) (ms := am_z h' - am_z h) rfl rfl (by rw [hw]; exact hK.2.1) (hts _ m3) m4 ⟨hfr, by show 8 + ((am_m y).2.2.1 + 11) + 30 * d ≤ _; omega⟩
      exact va_runSN ⟨hx, hb, hml, hown, hts⟩ (hM D cy b base) ⟨hcn, hts _ m2, trivial⟩ hpre rfl (by rw [List.length_map]; exact hlen) (hL.1.trans hll) hstk (lv_room (by rw [am_sum]; exact h8)) hd ⟨by omega, by omega⟩
  refine am_after hrun hS fun H1 locs1 g1 g2 => ?_
  have c1 : am_n h - am_n hs + (am_n h' - am_n h) = am_n h' - am_n hs := by omega
  have c2 : am_z h - am_z hs + (am_z h' - am_z h) = am_z h' - am_z hs := by omega
  rw [c1, c2]
  have k1 := kk (by omega) (by omega) hll H1 locs1 LS g1 g2 hL
  rw [List.map_append] at k1
  cases rv <;> exact k1
theorem as_spec (X : am_Cx p l R s m args meth c M D cy b base d Cal) {idx y n : Nat} (hw : Jvm.Cond.methodLink M.2.2.2.2.1 idx (am_m y).1 ∈ am_tbl) (hm : am_mok y) (hst : ¬ (am_pos.getD y (0, 0, 0, 0, 0, 0)).2.2.1 = 1) (hnp : (am_pos.getD y (0, 0, 0, 0, 0, 0)).2.2.2.2.2 = n) (hin : (am_m y).1.name = "<init>") (hret : (am_m y).2.2.2.1 = none)
    (hd : decode M.2.1 pc = .ok (.invokespecial idx, 3)) {as : List Value} {a : Nat} {rv : Option Value} {h' : Hp} (hlen : as.length = n) (h8 : (st.map fun v => v.category).sum ≤ 8) (hcal : Cal y (.ref a :: as) h rv h')
    (hrc : am_n h' ≤ am_n hs + R.cells) (hrs : am_z h' ≤ am_z hs + R.slots) (kk : am_G p l e R s m args below meth c Q M D cy b base hs (pc + 3) ls (rv.toList ++ st) h') : am_G p l e R s m args below meth c Q M D cy b base hs pc ls (as.reverse ++ .ref a :: st) h := by
  intro hn hz hll H locs LS hR hS hL
  obtain ⟨hx, hb, hml, hown, hts, hin2, hK, hbs, hfr, hlo, hC⟩ := X
  obtain ⟨hM, hn1, hz1⟩ := hC y _ h rv h' hcal
  obtain ⟨m1, m2, m3, m4, m5, m6⟩ := hm
  rw [if_neg hst] at m2
  subst hnp
  have hwe : am_w y = Jvm.Cond.code (am_m y).1 (am_m y).2.1 (am_m y).2.2.1 none :: am_tbl := by unfold am_w; rw [hret]
  have hcb := callB_of (R := R) (s := s) (args := args) (own := M.2.2.2.2.1) (index := idx) (y := (am_m y).1) (ret := none) (rm := { frames := d, cells := am_n h' - am_n h, slots := am_z h' - am_z h, locals := 30 * d }) (am_pos.getD y (0, 0, 0, 0, 0, 0)).2.2.2.2.2 hts (am_goodw y m1) hwe (mc := am_n h' - am_n h) (ms := am_z h' - am_z h) rfl rfl (hts _ m3) (hts _ hw) m4 ⟨hfr, by show 8 + ((am_m y).2.2.1 + 11) + 30 * d ≤ _; omega⟩
  have hrun := va_runI (p := p) (l := l) (e := e) (m := m) (below := below) (meth := meth) (c := c) (H := H) (locs := locs) (cells := am_n h - am_n hs) (slots := am_z h - am_z hs) (As := as.map (am_cv b base)) (rest := st.map (am_cv b base)) (g := F0 m pc LS ((as.reverse ++ .ref a :: st).map (am_cv b base))) (b := am_ad b base a)
    ⟨hx, hb, hml, hown, hts⟩ (hM D cy b base) ⟨hcb, hin, hts _ m2⟩ ⟨am_Pc.blind D cy b base _ h, fun U hU hW => ⟨rfl, by rw [hU]; exact hR.moved hW.alike, hK.warm hW⟩⟩ rfl (by rw [List.length_map]; exact hlen) (hL.1.trans hll) (by show (as.reverse ++ .ref a :: st).map (am_cv b base) = _; rw [List.map_append, List.map_reverse]; rfl) (lv_room (by rw [am_sum]; exact h8)) hd ⟨by omega, by omega⟩
  refine am_after hrun hS fun H1 locs1 g1 g2 => ?_
  have c1 : am_n h - am_n hs + (am_n h' - am_n h) = am_n h' - am_n hs := by omega
  have c2 : am_z h - am_z hs + (am_z h' - am_z h) = am_z h' - am_z hs := by omega
  rw [c1, c2]
  have k1 := kk (by omega) (by omega) hll H1 locs1 LS g1 g2 hL
  rw [List.map_append] at k1
  cases rv <;> exact k1
theorem as_obj (X : am_Cx p l R s m args meth c M D cy b base d Cal) {idx : Nat} (hw : Jvm.Cond.methodLink M.2.2.2.2.1 idx objectInit ∈ am_tbl) (hd : decode M.2.1 pc = .ok (.invokespecial idx, 3)) {a : Nat} (h8 : (st.map fun v => v.category).sum ≤ 8) (kk : am_G p l e R s m args below meth c Q M D cy b base hs (pc + 3) ls st h) : am_G p l e R s m args below meth c Q M D cy b base hs pc ls (.ref a :: st) h := by
  intro hn hz hll H locs LS hR hS hL
  obtain ⟨hx, hb, hml, hown, hts, hin2, hK, hbs, hfr, hlo, hC⟩ := X
  refine W.objInit hx hb hown (hts _ hw) (hts _ am_obj1) (hts _ am_obj2) rfl (by rw [hml]; exact hL.1.trans hll) rfl hd (by omega) (by show 2 * 0 + ((st.map (am_cv b base)).map fun v => v.category).sum + 12 ≤ _; rw [am_sum]; omega) ?_
  exact kk hn hz hll H locs LS hR hS hL
theorem as_abs (X : am_Cx p l R s m args meth c M D cy b base d Cal) {idx : Nat} (hw : Jvm.Cond.methodLink M.2.2.2.2.1 idx Lib.Math.abs.name ∈ am_tbl) (hd : decode M.2.1 pc = .ok (.invokestatic idx, 3)) {x : Int32} (h8 : (st.map fun v => v.category).sum ≤ 8) (hrc : am_n h ≤ am_n hs + R.cells) (hrs : am_z h ≤ am_z hs + R.slots) (kk : am_G p l e R s m args below meth c Q M D cy b base hs (pc + 3) ls (.int (if 0 ≤ x then x else 0 - x) :: st) h) : am_G p l e R s m args below meth c Q M D cy b base hs pc ls (.int x :: st) h := by
  intro hn hz hll H locs LS hR hS hL
  obtain ⟨hx, hb, hml, hown, hts, hin2, hK, hbs, hfr, hlo, hC⟩ := X
  exact va_mabs hx hb (by rw [hml]; exact (hL.1.trans hll).symm) hown (hts _ hw) (hts _ am_abs1) (hts _ am_math) (hts _ am_abs2) (by omega) (by rw [am_sum]; omega) (by omega) (by omega) hd (kk hn hz hll H locs LS hR hS hL)
theorem as_max (X : am_Cx p l R s m args meth c M D cy b base d Cal) {idx : Nat} (hw : Jvm.Cond.methodLink M.2.2.2.2.1 idx Lib.Math.max.name ∈ am_tbl) (hd : decode M.2.1 pc = .ok (.invokestatic idx, 3)) {x y : Int32} (h8 : (st.map fun v => v.category).sum ≤ 8) (hrc : am_n h ≤ am_n hs + R.cells) (hrs : am_z h ≤ am_z hs + R.slots) (kk : am_G p l e R s m args below meth c Q M D cy b base hs (pc + 3) ls (.int (if x < y then y else x) :: st) h) : am_G p l e R s m args below meth c Q M D cy b base hs pc ls (.int y :: .int x :: st) h := by
  intro hn hz hll H locs LS hR hS hL
  obtain ⟨hx, hb, hml, hown, hts, hin2, hK, hbs, hfr, hlo, hC⟩ := X
  exact va_mmax hx hb (by rw [hml]; exact (hL.1.trans hll).symm) hown (hts _ hw) (hts _ am_max1) (hts _ am_math) (hts _ am_max2) (by omega) (by rw [am_sum]; omega) (by omega) (by omega) hd (kk hn hz hll H locs LS hR hS hL)
theorem as_min (X : am_Cx p l R s m args meth c M D cy b base d Cal) {idx : Nat} (hw : Jvm.Cond.methodLink M.2.2.2.2.1 idx Lib.Math.min.name ∈ am_tbl) (hd : decode M.2.1 pc = .ok (.invokestatic idx, 3)) {x y : Int32} (h8 : (st.map fun v => v.category).sum ≤ 8) (hrc : am_n h ≤ am_n hs + R.cells) (hrs : am_z h ≤ am_z hs + R.slots) (kk : am_G p l e R s m args below meth c Q M D cy b base hs (pc + 3) ls (.int (if y < x then y else x) :: st) h) : am_G p l e R s m args below meth c Q M D cy b base hs pc ls (.int y :: .int x :: st) h := by
  intro hn hz hll H locs LS hR hS hL
  obtain ⟨hx, hb, hml, hown, hts, hin2, hK, hbs, hfr, hlo, hC⟩ := X
  exact va_mmin hx hb (by rw [hml]; exact (hL.1.trans hll).symm) hown (hts _ hw) (hts _ am_min1) (hts _ am_math) (hts _ am_min2) (by omega) (by rw [am_sum]; omega) (by omega) (by omega) hd (kk hn hz hll H locs LS hR hS hL)
end AC
end
section
/-! ONE STEP, AND THE RUN -/
def am_fin (M : am_M) (i : Instr) (rv : Option Value) : Prop :=
  (i = .ireturn ∧ ∃ x, rv = some (.int x) ∧ (M.2.2.2.1 = some .int ∨ (M.2.2.2.1 = some .boolean ∧ (x = 0 ∨ x = 1)))) ∨ (i = .areturn ∧ ∃ x n, rv = some (va_rf x) ∧ M.2.2.2.1 = some (.object n)) ∨ (i = .return_ ∧ rv = none ∧ M.2.2.2.1 = none)
section AT
variable {p : Program} {l : Launch} {e : Env} {R : Room} {s : State} {m : MethodId} {args : Array Value} {below : List Frame} {meth : Method} {c : Code} {Q : State → Prop} {M : am_M} {D : va_G} {cy : Nat → ClassId} {b base d : Nat} {Cal : am_Ct} {hs : Hp}
variable {pc : Nat} {ls : am_Ls} {st : List Value} {h : Hp}
set_option maxHeartbeats 4000000 in
theorem am_step (X : am_Cx p l R s m args meth c M D cy b base d Cal) {N0 Z0 : Nat} (hN : N0 ≤ am_n hs + R.cells) (hZ : Z0 ≤ am_z hs + R.slots) {K : am_Kt} {Qa : Option Value → Hp → Prop} (hK : ∀ pc ls st h, K pc ls st h → am_n h ≤ N0 ∧ am_z h ≤ Z0 ∧ am_G p l e R s m args below meth c Q M D cy b base hs pc ls st h)
    (hQ : ∀ (i : Instr) (pc : Nat) (ls : am_Ls) (rv : Option Value) (h : Hp), decode M.2.1 pc = .ok (i, 1) → am_fin M i rv → Qa rv h → am_n h ≤ N0 ∧ am_z h ≤ Z0 ∧ am_G p l e R s m args below meth c Q M D cy b base hs pc ls rv.toList h) {q : Instr × Nat × Nat × Nat × Nat} (hc : am_chk M (pc, q) = true) (hdo : am_do K Cal Qa pc q ls st h) : am_n h ≤ N0 ∧ am_z h ≤ Z0 ∧ am_G p l e R s m args below meth c Q M D cy b base hs pc ls st h := by
  obtain ⟨i, len, r1, r2, r3⟩ := q
  unfold am_chk at hc
  simp only [Bool.and_eq_true, decide_eq_true_eq] at hc
  obtain ⟨⟨hd, hlen⟩, hc⟩ := hc
  cases i with
  | iload j =>
    have hl9 : len = 2 := by simpa [am_len] using hlen
    subst hl9
    obtain ⟨x, h1, hk⟩ := hdo
    obtain ⟨g1, g2, g3⟩ := hK _ _ _ _ hk
    exact ⟨g1, g2, as_iload X hd h1 g3⟩
  | iload_n j =>
    have hl9 : len = 1 := by simpa [am_len] using hlen
    subst hl9
    obtain ⟨x, h1, hk⟩ := hdo
    obtain ⟨g1, g2, g3⟩ := hK _ _ _ _ hk
    exact ⟨g1, g2, as_iload_n X hd h1 g3⟩
  | aload j =>
    have hl9 : len = 2 := by simpa [am_len] using hlen
    subst hl9
    obtain ⟨x, h1, hk⟩ := hdo
    obtain ⟨g1, g2, g3⟩ := hK _ _ _ _ hk
    exact ⟨g1, g2, as_aload X hd h1 g3⟩
  | aload_n j =>
    have hl9 : len = 1 := by simpa [am_len] using hlen
    subst hl9
    obtain ⟨x, h1, hk⟩ := hdo
    obtain ⟨g1, g2, g3⟩ := hK _ _ _ _ hk
    exact ⟨g1, g2, as_aload_n X hd h1 g3⟩
  | istore j =>
    have hl9 : len = 2 := by simpa [am_len] using hlen
    subst hl9
    obtain ⟨x, r, rfl, h1, hk⟩ := hdo
    obtain ⟨g1, g2, g3⟩ := hK _ _ _ _ hk
    exact ⟨g1, g2, as_istore X hd h1 g3⟩
  | istore_n j =>
    have hl9 : len = 1 := by simpa [am_len] using hlen
    subst hl9
    obtain ⟨x, r, rfl, h1, hk⟩ := hdo
    obtain ⟨g1, g2, g3⟩ := hK _ _ _ _ hk
    exact ⟨g1, g2, as_istore_n X hd h1 g3⟩
  | astore j =>
    have hl9 : len = 2 := by simpa [am_len] using hlen
    subst hl9
    obtain ⟨x, r, rfl, h1, hk⟩ := hdo
    obtain ⟨g1, g2, g3⟩ := hK _ _ _ _ hk
    exact ⟨g1, g2, as_astore X hd h1 g3⟩
  | astore_n j =>
    have hl9 : len = 1 := by simpa [am_len] using hlen
    subst hl9
    obtain ⟨x, r, rfl, h1, hk⟩ := hdo
    obtain ⟨g1, g2, g3⟩ := hK _ _ _ _ hk
    exact ⟨g1, g2, as_astore_n X hd h1 g3⟩
  | iconst n =>
    have hl9 : len = 1 := by simpa [am_len] using hlen
    subst hl9
    obtain ⟨g1, g2, g3⟩ := hK _ _ _ _ hdo
    exact ⟨g1, g2, as_iconst X hd g3⟩
  | bipush n =>
    have hl9 : len = 2 := by simpa [am_len] using hlen
    subst hl9
    obtain ⟨g1, g2, g3⟩ := hK _ _ _ _ hdo
    exact ⟨g1, g2, as_bipush X hd g3⟩
  | sipush n =>
    have hl9 : len = 3 := by simpa [am_len] using hlen
    subst hl9
    obtain ⟨g1, g2, g3⟩ := hK _ _ _ _ hdo
    exact ⟨g1, g2, as_sipush X hd g3⟩
  | ldc idx =>
    have hl9 : len = 2 := by simpa [am_len] using hlen
    subst hl9
    obtain ⟨g1, g2, g3⟩ := hK _ _ _ _ hdo
    exact ⟨g1, g2, as_ldc X (am_at_mem hc) hd g3⟩
  | aconst_null =>
    have hl9 : len = 1 := by simpa [am_len] using hlen
    subst hl9
    obtain ⟨g1, g2, g3⟩ := hK _ _ _ _ hdo
    exact ⟨g1, g2, as_null X hd g3⟩
  | iinc j n =>
    have hl9 : len = 3 := by simpa [am_len] using hlen
    subst hl9
    obtain ⟨x, h1, hk⟩ := hdo
    obtain ⟨g1, g2, g3⟩ := hK _ _ _ _ hk
    exact ⟨g1, g2, as_iinc X hd h1 g3⟩
  | iadd =>
    have hl9 : len = 1 := by simpa [am_len] using hlen
    subst hl9
    obtain ⟨x, y, r, rfl, hk⟩ := hdo
    obtain ⟨g1, g2, g3⟩ := hK _ _ _ _ hk
    exact ⟨g1, g2, as_iadd X hd g3⟩
  | isub =>
    have hl9 : len = 1 := by simpa [am_len] using hlen
    subst hl9
    obtain ⟨x, y, r, rfl, hk⟩ := hdo
    obtain ⟨g1, g2, g3⟩ := hK _ _ _ _ hk
    exact ⟨g1, g2, as_isub X hd g3⟩
  | imul =>
    have hl9 : len = 1 := by simpa [am_len] using hlen
    subst hl9
    obtain ⟨x, y, r, rfl, hk⟩ := hdo
    obtain ⟨g1, g2, g3⟩ := hK _ _ _ _ hk
    exact ⟨g1, g2, as_imul X hd g3⟩
  | iand =>
    have hl9 : len = 1 := by simpa [am_len] using hlen
    subst hl9
    obtain ⟨x, y, r, rfl, hk⟩ := hdo
    obtain ⟨g1, g2, g3⟩ := hK _ _ _ _ hk
    exact ⟨g1, g2, as_iand X hd g3⟩
  | ishl =>
    have hl9 : len = 1 := by simpa [am_len] using hlen
    subst hl9
    obtain ⟨x, y, r, rfl, hk⟩ := hdo
    obtain ⟨g1, g2, g3⟩ := hK _ _ _ _ hk
    exact ⟨g1, g2, as_ishl X hd g3⟩
  | ishr =>
    have hl9 : len = 1 := by simpa [am_len] using hlen
    subst hl9
    obtain ⟨x, y, r, rfl, hk⟩ := hdo
    obtain ⟨g1, g2, g3⟩ := hK _ _ _ _ hk
    exact ⟨g1, g2, as_ishr X hd g3⟩
  | idiv =>
    have hl9 : len = 1 := by simpa [am_len] using hlen
    subst hl9
    obtain ⟨x, y, r, rfl, h1, hk⟩ := hdo
    obtain ⟨g1, g2, g3⟩ := hK _ _ _ _ hk
    exact ⟨g1, g2, as_idiv X hd h1 g3⟩
  | irem =>
    have hl9 : len = 1 := by simpa [am_len] using hlen
    subst hl9
    obtain ⟨x, y, r, rfl, h1, hk⟩ := hdo
    obtain ⟨g1, g2, g3⟩ := hK _ _ _ _ hk
    exact ⟨g1, g2, as_irem X hd h1 g3⟩
  | ineg =>
    have hl9 : len = 1 := by simpa [am_len] using hlen
    subst hl9
    obtain ⟨x, r, rfl, hk⟩ := hdo
    obtain ⟨g1, g2, g3⟩ := hK _ _ _ _ hk
    exact ⟨g1, g2, as_ineg X hd g3⟩
  | dup =>
    have hl9 : len = 1 := by simpa [am_len] using hlen
    subst hl9
    obtain ⟨v, r, rfl, h1, hk⟩ := hdo
    obtain ⟨g1, g2, g3⟩ := hK _ _ _ _ hk
    exact ⟨g1, g2, as_dup X hd h1 g3⟩
  | dup2 =>
    have hl9 : len = 1 := by simpa [am_len] using hlen
    subst hl9
    obtain ⟨v, w, r, rfl, h1, h2, hk⟩ := hdo
    obtain ⟨g1, g2, g3⟩ := hK _ _ _ _ hk
    exact ⟨g1, g2, as_dup2 X hd h1 h2 g3⟩
  | goto off =>
    have hl9 : len = 3 := by simpa [am_len] using hlen
    subst hl9
    dsimp only at hc
    simp only [decide_eq_true_eq] at hc
    obtain ⟨g1, g2, g3⟩ := hK _ _ _ _ hdo
    exact ⟨g1, g2, as_goto X hd hc g3⟩
  | ifCond cnd off =>
    have hl9 : len = 3 := by simpa [am_len] using hlen
    subst hl9
    dsimp only at hc
    simp only [decide_eq_true_eq] at hc
    obtain ⟨x, r, rfl, k1, k2⟩ := hdo
    have hboth : am_n h ≤ N0 ∧ am_z h ≤ Z0 := by
      by_cases q : am_cond cnd x 0
      · exact ⟨(hK _ _ _ _ (k1 q)).1, (hK _ _ _ _ (k1 q)).2.1⟩
      · exact ⟨(hK _ _ _ _ (k2 q)).1, (hK _ _ _ _ (k2 q)).2.1⟩
    exact ⟨hboth.1, hboth.2, as_if X hd hc (fun z => (hK _ _ _ _ (k1 z)).2.2) (fun z => (hK _ _ _ _ (k2 z)).2.2)⟩
  | if_icmp cnd off =>
    have hl9 : len = 3 := by simpa [am_len] using hlen
    subst hl9
    dsimp only at hc
    simp only [decide_eq_true_eq] at hc
    obtain ⟨x, y, r, rfl, k1, k2⟩ := hdo
    have hboth : am_n h ≤ N0 ∧ am_z h ≤ Z0 := by
      by_cases q : am_cond cnd x y
      · exact ⟨(hK _ _ _ _ (k1 q)).1, (hK _ _ _ _ (k1 q)).2.1⟩
      · exact ⟨(hK _ _ _ _ (k2 q)).1, (hK _ _ _ _ (k2 q)).2.1⟩
    exact ⟨hboth.1, hboth.2, as_icmp X hd hc (fun z => (hK _ _ _ _ (k1 z)).2.2) (fun z => (hK _ _ _ _ (k2 z)).2.2)⟩
  | ifnull off =>
    have hl9 : len = 3 := by simpa [am_len] using hlen
    subst hl9
    dsimp only at hc
    simp only [decide_eq_true_eq] at hc
    obtain ⟨x, r, rfl, k1, k2⟩ := hdo
    have hboth : am_n h ≤ N0 ∧ am_z h ≤ Z0 := by
      by_cases q : x = none
      · exact ⟨(hK _ _ _ _ (k1 q)).1, (hK _ _ _ _ (k1 q)).2.1⟩
      · exact ⟨(hK _ _ _ _ (k2 q)).1, (hK _ _ _ _ (k2 q)).2.1⟩
    exact ⟨hboth.1, hboth.2, as_ifnull X hd hc (fun z => (hK _ _ _ _ (k1 z)).2.2) (fun z => (hK _ _ _ _ (k2 z)).2.2)⟩
  | ifnonnull off =>
    have hl9 : len = 3 := by simpa [am_len] using hlen
    subst hl9
    dsimp only at hc
    simp only [decide_eq_true_eq] at hc
    obtain ⟨x, r, rfl, k1, k2⟩ := hdo
    have hboth : am_n h ≤ N0 ∧ am_z h ≤ Z0 := by
      by_cases q : x = none
      · exact ⟨(hK _ _ _ _ (k2 q)).1, (hK _ _ _ _ (k2 q)).2.1⟩
      · exact ⟨(hK _ _ _ _ (k1 q)).1, (hK _ _ _ _ (k1 q)).2.1⟩
    exact ⟨hboth.1, hboth.2, as_ifnonnull X hd hc (fun z => (hK _ _ _ _ (k1 z)).2.2) (fun z => (hK _ _ _ _ (k2 z)).2.2)⟩
  | if_acmp cnd off =>
    cases cnd with
    | ne => exact hdo.elim
    | eq =>
      have hl9 : len = 3 := by simpa [am_len] using hlen
      subst hl9
      dsimp only at hc
      simp only [decide_eq_true_eq] at hc
      obtain ⟨x, y, r, rfl, k1, k2⟩ := hdo
      have hboth : am_n h ≤ N0 ∧ am_z h ≤ Z0 := by
        by_cases q : x = y
        · exact ⟨(hK _ _ _ _ (k1 q)).1, (hK _ _ _ _ (k1 q)).2.1⟩
        · exact ⟨(hK _ _ _ _ (k2 q)).1, (hK _ _ _ _ (k2 q)).2.1⟩
      exact ⟨hboth.1, hboth.2, as_acmp X hd hc (fun z => (hK _ _ _ _ (k1 z)).2.2) (fun z => (hK _ _ _ _ (k2 z)).2.2)⟩
  | tableswitch df lo hi offs =>
    obtain ⟨x, r, tgt, rfl, h1, hk⟩ := hdo
    obtain ⟨g1, g2, g3⟩ := hK _ _ _ _ hk
    exact ⟨g1, g2, as_switch X hd h1 g3⟩
  | getfield idx =>
    have hl9 : len = 3 := by simpa [am_len] using hlen
    subst hl9
    dsimp only at hc
    simp only [Bool.and_eq_true, decide_eq_true_eq] at hc
    obtain ⟨⟨c1, c2⟩, c3⟩ := hc
    obtain ⟨a, r, rfl, ha, han, hka, hk⟩ := hdo
    obtain ⟨g1, g2, g3⟩ := hK _ _ _ _ hk
    exact ⟨g1, g2, as_get X c1 c2 (am_at_mem c3) hd ha han hka g3⟩
  | putfield idx =>
    have hl9 : len = 3 := by simpa [am_len] using hlen
    subst hl9
    dsimp only at hc
    simp only [Bool.and_eq_true, decide_eq_true_eq] at hc
    obtain ⟨⟨⟨c1, c2⟩, c3⟩, c4⟩ := hc
    have hfin : (am_T r1 r2).2.2.2 = true → (am_T r1 r2).1 = M.2.2.2.2.1 ∧ M.1.name = "<init>" := by
      intro z
      rw [z] at c4
      simpa using c4
    obtain ⟨a, v, r, rfl, ha, han, hka, hk⟩ := hdo
    rcases hk with ⟨f1, x, rfl, hk⟩ | ⟨f1, x, rfl, hx, hk⟩
    · obtain ⟨g1, g2, g3⟩ := hK _ _ _ _ hk
      exact ⟨g1, g2, as_putR X c1 c2 (am_at_mem c3) hfin hd f1 ha han hka g3⟩
    · obtain ⟨g1, g2, g3⟩ := hK _ _ _ _ hk
      exact ⟨g1, g2, as_putI X c1 c2 (am_at_mem c3) hfin hd f1 hx ha han hka g3⟩
  | new idx =>
    have hl9 : len = 3 := by simpa [am_len] using hlen
    subst hl9
    dsimp only at hc
    simp only [Bool.and_eq_true, decide_eq_true_eq] at hc
    obtain ⟨c1, c2⟩ := hc
    obtain ⟨g1, g2, g3⟩ := hK _ _ _ _ hdo
    have g1' : am_n h + 1 ≤ N0 := g1
    have g2' : am_z h + am_N r1 ≤ Z0 := g2
    exact ⟨by omega, by omega, as_new X c1 (am_at_mem c2) hd (by omega) (by omega) g3⟩
  | newarray at1 =>
    have hl9 : len = 2 := by simpa [am_len] using hlen
    subst hl9
    dsimp only at hc
    simp only [Bool.or_eq_true, decide_eq_true_eq] at hc
    obtain ⟨n, r, rfl, h1, h2, hk⟩ := hdo
    obtain ⟨g1, g2, g3⟩ := hK _ _ _ _ hk
    have g1' : am_n h + 1 ≤ N0 := g1
    have g2' : am_z h + n.toNatClampNeg ≤ Z0 := g2
    exact ⟨by omega, by omega, as_newarray X hc hd h1 h2 (by omega) (by omega) g3⟩
  | anewarray idx =>
    have hl9 : len = 3 := by simpa [am_len] using hlen
    subst hl9
    dsimp only at hc
    simp only [Bool.and_eq_true, decide_eq_true_eq] at hc
    obtain ⟨⟨c1, c2⟩, c3⟩ := hc
    obtain ⟨n, r, rfl, h1, h2, hk⟩ := hdo
    obtain ⟨g1, g2, g3⟩ := hK _ _ _ _ hk
    have g1' : am_n h + 1 ≤ N0 := g1
    have g2' : am_z h + n.toNatClampNeg ≤ Z0 := g2
    exact ⟨by omega, by omega, as_anewarray X c1 c2 (am_at_mem c3) hd h1 h2 (by omega) (by omega) g3⟩
  | iaload =>
    have hl9 : len = 1 := by simpa [am_len] using hlen
    subst hl9
    obtain ⟨i, a, r, rfl, h1, h2, h3, hk⟩ := hdo
    obtain ⟨g1, g2, g3⟩ := hK _ _ _ _ hk
    exact ⟨g1, g2, as_iaload X hd h1 h2 h3 g3⟩
  | baload =>
    have hl9 : len = 1 := by simpa [am_len] using hlen
    subst hl9
    obtain ⟨i, a, r, rfl, h0, h1, h2, h3, hk⟩ := hdo
    obtain ⟨g1, g2, g3⟩ := hK _ _ _ _ hk
    exact ⟨g1, g2, as_baload X hd h0 h1 h2 h3 g3⟩
  | aaload =>
    have hl9 : len = 1 := by simpa [am_len] using hlen
    subst hl9
    obtain ⟨i, a, r, rfl, h0, h1, h2, h3, h4, hk⟩ := hdo
    obtain ⟨g1, g2, g3⟩ := hK _ _ _ _ hk
    exact ⟨g1, g2, as_aaload X hd h0 h1 h2 h3 h4 g3⟩
  | iastore =>
    have hl9 : len = 1 := by simpa [am_len] using hlen
    subst hl9
    obtain ⟨x, i, a, r, rfl, h0, h1, h2, h3, hk⟩ := hdo
    obtain ⟨g1, g2, g3⟩ := hK _ _ _ _ hk
    exact ⟨g1, g2, as_iastore X hd h0 h1 h2 h3 g3⟩
  | bastore =>
    have hl9 : len = 1 := by simpa [am_len] using hlen
    subst hl9
    obtain ⟨x, i, a, r, rfl, h0, h1, h2, h3, h4, hk⟩ := hdo
    obtain ⟨g1, g2, g3⟩ := hK _ _ _ _ hk
    exact ⟨g1, g2, as_bastore X hd h0 h1 h2 h3 h4 g3⟩
  | aastore =>
    have hl9 : len = 1 := by simpa [am_len] using hlen
    subst hl9
    obtain ⟨v, i, a, r, rfl, h0, h1, h2, h3, h4, h5, h6, h7, hk⟩ := hdo
    obtain ⟨g1, g2, g3⟩ := hK _ _ _ _ hk
    exact ⟨g1, g2, as_aastore X hd h0 h1 h2 h3 h4 h5 h6 h7 g3⟩
  | arraylength =>
    have hl9 : len = 1 := by simpa [am_len] using hlen
    subst hl9
    obtain ⟨a, r, rfl, h1, h2, h3, hk⟩ := hdo
    obtain ⟨g1, g2, g3⟩ := hK _ _ _ _ hk
    exact ⟨g1, g2, as_alen X hd h1 h2 h3 g3⟩
  | invokevirtual idx =>
    have hl9 : len = 3 := by simpa [am_len] using hlen
    subst hl9
    dsimp only at hc
    simp only [Bool.and_eq_true, decide_eq_true_eq] at hc
    obtain ⟨⟨⟨⟨⟨⟨c1, c2⟩, c3⟩, c4⟩, c5⟩, c6⟩, c7⟩ := hc
    obtain ⟨as, a, r, rv, h', rfl, h1, h2, h3, h4, h5, h6, hk⟩ := hdo
    obtain ⟨g1, g2, g3⟩ := hK _ _ _ _ hk
    obtain ⟨-, n1, n2⟩ := X.2.2.2.2.2.2.2.2.2.2 _ _ _ _ _ h6
    exact ⟨by omega, by omega, as_virt X (am_at_mem c1) (am_mok_of c2) (by rw [c3]; decide) c4 (am_at_mem c5) c6 c7 hd h1 h2 h3 h4 h5 h6 (by omega) (by omega) g3⟩
  | invokestatic idx =>
    have hl9 : len = 3 := by simpa [am_len] using hlen
    subst hl9
    dsimp only at hc
    rcases hdo with ⟨e1, x, r, rfl, h2, hk⟩ | ⟨e1, x, y, r, rfl, h2, hk⟩ | ⟨e1, x, y, r, rfl, h2, hk⟩ | ⟨e1, as, r, rv, h', rfl, h1, h2, h6, hk⟩
    · dsimp only at e1
      subst e1
      rw [if_pos rfl] at hc
      obtain ⟨g1, g2, g3⟩ := hK _ _ _ _ hk
      exact ⟨g1, g2, as_abs X (am_at_mem hc) hd h2 (by omega) (by omega) g3⟩
    · dsimp only at e1
      subst e1
      rw [if_neg (by decide), if_pos rfl] at hc
      obtain ⟨g1, g2, g3⟩ := hK _ _ _ _ hk
      exact ⟨g1, g2, as_max X (am_at_mem hc) hd h2 (by omega) (by omega) g3⟩
    · dsimp only at e1
      subst e1
      rw [if_neg (by decide), if_neg (by decide), if_pos rfl] at hc
      obtain ⟨g1, g2, g3⟩ := hK _ _ _ _ hk
      exact ⟨g1, g2, as_min X (am_at_mem hc) hd h2 (by omega) (by omega) g3⟩
    · dsimp only at e1
      rw [if_neg (by omega), if_neg (by omega), if_neg (by omega)] at hc
      simp only [Bool.and_eq_true, Bool.or_eq_true, decide_eq_true_eq] at hc
      obtain ⟨⟨⟨c1, c2⟩, c3⟩, c4⟩ := hc
      obtain ⟨g1, g2, g3⟩ := hK _ _ _ _ hk
      obtain ⟨-, n1, n2⟩ := X.2.2.2.2.2.2.2.2.2.2 _ _ _ _ _ h6
      exact ⟨by omega, by omega, as_stat X (c4.imp am_at_mem id) (am_mok_of c1) c2 c3 hd h1 h2 h6 (by omega) (by omega) g3⟩
  | invokespecial idx =>
    have hl9 : len = 3 := by simpa [am_len] using hlen
    subst hl9
    dsimp only at hc
    rcases hdo with ⟨e1, a, r, rfl, h2, hk⟩ | ⟨e1, as, a, r, rv, h', rfl, h1, h2, h6, hk⟩
    · dsimp only at e1
      subst e1
      rw [if_pos rfl] at hc
      obtain ⟨g1, g2, g3⟩ := hK _ _ _ _ hk
      exact ⟨g1, g2, as_obj X (am_at_mem hc) hd h2 g3⟩
    · dsimp only at e1
      rw [if_neg e1] at hc
      simp only [Bool.and_eq_true, decide_eq_true_eq] at hc
      obtain ⟨⟨⟨⟨⟨c1, c2⟩, c3⟩, c4⟩, c5⟩, c6⟩ := hc
      obtain ⟨g1, g2, g3⟩ := hK _ _ _ _ hk
      obtain ⟨-, n1, n2⟩ := X.2.2.2.2.2.2.2.2.2.2 _ _ _ _ _ h6
      exact ⟨by omega, by omega, as_spec X (am_at_mem c1) (am_mok_of c2) (by rw [c3]; decide) c4 c5 c6 hd h1 h2 h6 (by omega) (by omega) g3⟩
  | ireturn =>
    have hl9 : len = 1 := by simpa [am_len] using hlen
    subst hl9
    dsimp only at hc
    simp only [Bool.or_eq_true, decide_eq_true_eq] at hc
    obtain ⟨x, rfl, h1, hq⟩ := hdo
    dsimp only at h1
    refine hQ .ireturn pc ls (some (.int x)) h hd (Or.inl ⟨rfl, x, rfl, ?_⟩) hq
    rcases hc with hc | hc
    · exact Or.inl hc.2
    · exact Or.inr ⟨hc.2, h1 hc.1⟩
  | areturn =>
    have hl9 : len = 1 := by simpa [am_len] using hlen
    subst hl9
    dsimp only at hc
    obtain ⟨x, rfl, hq⟩ := hdo
    refine hQ .areturn pc ls (some (va_rf x)) h hd (Or.inr (Or.inl ⟨rfl, x, ?_⟩)) hq
    split at hc
    · rename_i n hn
      exact ⟨n, rfl, hn⟩
    · cases hc
  | return_ =>
    have hl9 : len = 1 := by simpa [am_len] using hlen
    subst hl9
    dsimp only at hc
    simp only [decide_eq_true_eq] at hc
    obtain ⟨rfl, hq⟩ := hdo
    exact hQ .return_ pc ls none h hd (Or.inr (Or.inr ⟨rfl, rfl, hc⟩)) hq
  | _ => exact hdo.elim
theorem am_run (X : am_Cx p l R s m args meth c M D cy b base d Cal) {N0 Z0 : Nat} (hN : N0 ≤ am_n hs + R.cells) (hZ : Z0 ≤ am_z hs + R.slots) {Qa : Option Value → Hp → Prop} {cod : List am_E} (hck : cod.all (am_chk M) = true)
    (hQ : ∀ (i : Instr) (pc : Nat) (ls : am_Ls) (rv : Option Value) (h : Hp), decode M.2.1 pc = .ok (i, 1) → am_fin M i rv → Qa rv h → am_n h ≤ N0 ∧ am_z h ≤ Z0 ∧ am_G p l e R s m args below meth c Q M D cy b base hs pc ls rv.toList h) :
    ∀ (n : Nat) (pc : Nat) (ls : am_Ls) (st : List Value) (h : Hp), am_wp cod Cal Qa n pc ls st h → am_n h ≤ N0 ∧ am_z h ≤ Z0 ∧ am_G p l e R s m args below meth c Q M D cy b base hs pc ls st h := by
  intro n
  induction n with
  | zero => intro pc ls st h hw; exact hw.elim
  | succ n ih =>
    intro pc ls st h hw
    obtain ⟨q, hm, hdo⟩ := hw
    exact am_step X hN hZ ih hQ (List.all_eq_true.mp hck _ hm) hdo
end AT
/-- growth: a run never loses cells -/
theorem am_grow {cod : List am_E} {Cal : am_Ct} {Qa : Option Value → Hp → Prop} (hC : ∀ y as h rv h', Cal y as h rv h' → am_n h ≤ am_n h' ∧ am_z h ≤ am_z h') :
    ∀ (n : Nat) (pc : Nat) (ls : am_Ls) (st : List Value) (h : Hp), am_wp cod Cal Qa n pc ls st h → ∃ rv h', Qa rv h' ∧ am_n h ≤ am_n h' ∧ am_z h ≤ am_z h' := by
  intro n
  induction n with
  | zero => intro pc ls st h hw; exact hw.elim
  | succ n ih =>
    intro pc ls st h hw
    obtain ⟨⟨i, len, r1, r2, r3⟩, hm, hdo⟩ := hw
    cases i with

    | iload j =>
      obtain ⟨x, h1, hk⟩ := hdo
      have hh := ih _ _ _ _ hk
      exact hh
    | iload_n j =>
      obtain ⟨x, h1, hk⟩ := hdo
      have hh := ih _ _ _ _ hk
      exact hh
    | aload j =>
      obtain ⟨x, h1, hk⟩ := hdo
      have hh := ih _ _ _ _ hk
      exact hh
    | aload_n j =>
      obtain ⟨x, h1, hk⟩ := hdo
      have hh := ih _ _ _ _ hk
      exact hh
    | istore j =>
      obtain ⟨x, r, h0, h1, hk⟩ := hdo
      have hh := ih _ _ _ _ hk
      exact hh
    | istore_n j =>
      obtain ⟨x, r, h0, h1, hk⟩ := hdo
      have hh := ih _ _ _ _ hk
      exact hh
    | astore j =>
      obtain ⟨x, r, h0, h1, hk⟩ := hdo
      have hh := ih _ _ _ _ hk
      exact hh
    | astore_n j =>
      obtain ⟨x, r, h0, h1, hk⟩ := hdo
      have hh := ih _ _ _ _ hk
      exact hh
    | iinc j n =>
      obtain ⟨x, h1, hk⟩ := hdo
      have hh := ih _ _ _ _ hk
      exact hh
    | ineg =>
      obtain ⟨x, r, h0, hk⟩ := hdo
      have hh := ih _ _ _ _ hk
      exact hh
    | dup =>
      obtain ⟨v, r, h0, h1, hk⟩ := hdo
      have hh := ih _ _ _ _ hk
      exact hh
    | dup2 =>
      obtain ⟨v, w, r, h0, h1, h2, hk⟩ := hdo
      have hh := ih _ _ _ _ hk
      exact hh
    | idiv =>
      obtain ⟨x, y, r, h0, h1, hk⟩ := hdo
      have hh := ih _ _ _ _ hk
      exact hh
    | irem =>
      obtain ⟨x, y, r, h0, h1, hk⟩ := hdo
      have hh := ih _ _ _ _ hk
      exact hh
    | tableswitch df lo hi offs =>
      obtain ⟨x, r, tgt, h0, h1, hk⟩ := hdo
      have hh := ih _ _ _ _ hk
      exact hh
    | getfield idx =>
      obtain ⟨a, r, h0, h1, h2, h3, hk⟩ := hdo
      have hh := ih _ _ _ _ hk
      exact hh
    | iaload =>
      obtain ⟨i, a, r, h0, h1, h2, h3, hk⟩ := hdo
      have hh := ih _ _ _ _ hk
      exact hh
    | baload =>
      obtain ⟨i, a, r, h0, h1, h2, h3, h4, hk⟩ := hdo
      have hh := ih _ _ _ _ hk
      exact hh
    | aaload =>
      obtain ⟨i, a, r, h0, h1, h2, h3, h4, h5, hk⟩ := hdo
      have hh := ih _ _ _ _ hk
      exact hh
    | iastore =>
      obtain ⟨x, i, a, r, h0, h1, h2, h3, h4, hk⟩ := hdo
      have hh := ih _ _ _ _ hk
      exact hh
    | bastore =>
      obtain ⟨x, i, a, r, h0, h1, h2, h3, h4, h5, hk⟩ := hdo
      have hh := ih _ _ _ _ hk
      exact hh
    | aastore =>
      obtain ⟨v, i, a, r, h0, h1, h2, h3, h4, h5, h6, h7, h8, hk⟩ := hdo
      have hh := ih _ _ _ _ hk
      exact hh
    | arraylength =>
      obtain ⟨a, r, h0, h1, h2, h3, hk⟩ := hdo
      have hh := ih _ _ _ _ hk
      exact hh
    | iadd =>
      obtain ⟨x, y, r, h0, hk⟩ := hdo
      have hh := ih _ _ _ _ hk
      exact hh
    | isub =>
      obtain ⟨x, y, r, h0, hk⟩ := hdo
      have hh := ih _ _ _ _ hk
      exact hh
    | imul =>
      obtain ⟨x, y, r, h0, hk⟩ := hdo
      have hh := ih _ _ _ _ hk
      exact hh
    | iand =>
      obtain ⟨x, y, r, h0, hk⟩ := hdo
      have hh := ih _ _ _ _ hk
      exact hh
    | ishl =>
      obtain ⟨x, y, r, h0, hk⟩ := hdo
      have hh := ih _ _ _ _ hk
      exact hh
    | ishr =>
      obtain ⟨x, y, r, h0, hk⟩ := hdo
      have hh := ih _ _ _ _ hk
      exact hh
    | iconst n => exact ih _ _ _ _ hdo
    | bipush n => exact ih _ _ _ _ hdo
    | sipush n => exact ih _ _ _ _ hdo
    | ldc idx => exact ih _ _ _ _ hdo
    | aconst_null => exact ih _ _ _ _ hdo
    | goto off => exact ih _ _ _ _ hdo
    | ifCond cnd off =>
      obtain ⟨x, r, h0, k1, k2⟩ := hdo
      by_cases q : am_cond cnd x 0
      · exact ih _ _ _ _ (k1 q)
      · exact ih _ _ _ _ (k2 q)
    | if_icmp cnd off =>
      obtain ⟨x, y, r, h0, k1, k2⟩ := hdo
      by_cases q : am_cond cnd x y
      · exact ih _ _ _ _ (k1 q)
      · exact ih _ _ _ _ (k2 q)
    | ifnull off =>
      obtain ⟨x, r, h0, k1, k2⟩ := hdo
      by_cases q : x = none
      · exact ih _ _ _ _ (k1 q)
      · exact ih _ _ _ _ (k2 q)
    | ifnonnull off =>
      obtain ⟨x, r, h0, k1, k2⟩ := hdo
      by_cases q : x = none
      · exact ih _ _ _ _ (k2 q)
      · exact ih _ _ _ _ (k1 q)
    | if_acmp cnd off =>
      cases cnd with
      | ne => exact hdo.elim
      | eq =>
        obtain ⟨x, y, r, h0, k1, k2⟩ := hdo
        by_cases q : x = y
        · exact ih _ _ _ _ (k1 q)
        · exact ih _ _ _ _ (k2 q)
    | putfield idx =>
      obtain ⟨a, v, r, h0, ha, han, hka, hk⟩ := hdo
      rcases hk with ⟨f1, x, hv, hk⟩ | ⟨f1, x, hv, hx, hk⟩
      · have hh := ih _ _ _ _ hk
        exact hh
      · have hh := ih _ _ _ _ hk
        exact hh
    | new idx =>
      obtain ⟨rv, h', g1, g2, g3⟩ := ih _ _ _ _ hdo
      have g2' : am_n h + 1 ≤ am_n h' := g2
      have g3' : am_z h + am_N r1 ≤ am_z h' := g3
      exact ⟨rv, h', g1, by omega, by omega⟩
    | newarray at1 =>
      obtain ⟨k, r, h0, h1, h2, hk⟩ := hdo
      obtain ⟨rv, h', g1, g2, g3⟩ := ih _ _ _ _ hk
      have g2' : am_n h + 1 ≤ am_n h' := g2
      have g3' : am_z h + k.toNatClampNeg ≤ am_z h' := g3
      exact ⟨rv, h', g1, by omega, by omega⟩
    | anewarray idx =>
      obtain ⟨k, r, h0, h1, h2, hk⟩ := hdo
      obtain ⟨rv, h', g1, g2, g3⟩ := ih _ _ _ _ hk
      have g2' : am_n h + 1 ≤ am_n h' := g2
      have g3' : am_z h + k.toNatClampNeg ≤ am_z h' := g3
      exact ⟨rv, h', g1, by omega, by omega⟩
    | invokevirtual idx =>
      obtain ⟨as, a, r, rv, h', h0, h1, h2, h3, h4, h5, h6, hk⟩ := hdo
      obtain ⟨rv2, h2', g1, g2, g3⟩ := ih _ _ _ _ hk
      obtain ⟨n1, n2⟩ := hC _ _ _ _ _ h6
      exact ⟨rv2, h2', g1, Nat.le_trans n1 g2, Nat.le_trans n2 g3⟩
    | invokestatic idx =>
      rcases hdo with ⟨e1, x, r, h0, h2, hk⟩ | ⟨e1, x, y, r, h0, h2, hk⟩ | ⟨e1, x, y, r, h0, h2, hk⟩ | ⟨e1, as, r, rv, h', h0, h1, h2, h6, hk⟩
      · exact ih _ _ _ _ hk
      · exact ih _ _ _ _ hk
      · exact ih _ _ _ _ hk
      · obtain ⟨rv2, h2', g1, g2, g3⟩ := ih _ _ _ _ hk
        obtain ⟨n1, n2⟩ := hC _ _ _ _ _ h6
        exact ⟨rv2, h2', g1, Nat.le_trans n1 g2, Nat.le_trans n2 g3⟩
    | invokespecial idx =>
      rcases hdo with ⟨e1, a, r, h0, h2, hk⟩ | ⟨e1, as, a, r, rv, h', h0, h1, h2, h6, hk⟩
      · exact ih _ _ _ _ hk
      · obtain ⟨rv2, h2', g1, g2, g3⟩ := ih _ _ _ _ hk
        obtain ⟨n1, n2⟩ := hC _ _ _ _ _ h6
        exact ⟨rv2, h2', g1, Nat.le_trans n1 g2, Nat.le_trans n2 g3⟩
    | ireturn => obtain ⟨x, h0, h1, hq⟩ := hdo; exact ⟨_, h, hq, Nat.le_refl _, Nat.le_refl _⟩
    | areturn => obtain ⟨x, h0, hq⟩ := hdo; exact ⟨_, h, hq, Nat.le_refl _, Nat.le_refl _⟩
    | return_ => obtain ⟨h0, hq⟩ := hdo; exact ⟨_, h, hq, Nat.le_refl _, Nat.le_refl _⟩
    | _ => exact hdo.elim
theorem Res_grow : ∀ (d y : Nat) (as : List Value) (h : Hp) (rv : Option Value) (h' : Hp), Res d y as h rv h' → am_n h ≤ am_n h' ∧ am_z h ≤ am_z h' := by
  intro d
  induction d with
  | zero => intro y as h rv h' hr; exact hr.elim
  | succ d ih =>
    intro y as h rv h' hr
    obtain ⟨hy, n, h1, h2, hw⟩ := hr
    obtain ⟨rv2, h2', ⟨g0, g1⟩, g2, g3⟩ := am_grow ih n _ _ _ _ hw
    subst g1
    exact ⟨g2, g3⟩
set_option maxRecDepth 100000 in
theorem am_mem {y : Nat} (h : y < 119) : am_m y ∈ am_msW := by
  have key : ∀ y, y < 119 → am_m y = am_msW.getD y mL_law := by
    intro y hy
    have e : am_msW = am_ms.take 119 ++ [mL_law] := rfl
    rw [e]
    unfold am_m
    rw [List.getD_eq_getElem?_getD, List.getD_eq_getElem?_getD, List.getElem?_append_left (by rw [List.length_take]; exact Nat.lt_min.mpr ⟨hy, Nat.lt_of_lt_of_le hy (by decide +kernel)⟩), List.getElem?_take_of_lt hy]
  rw [key y h, List.getD_eq_getElem?_getD]
  have hl : y < am_msW.length := Nat.lt_of_lt_of_le h (by decide +kernel)
  rw [List.getElem?_eq_getElem hl]
  exact List.getElem_mem hl
end
section
/-! CONTRACTS OUT OF RUNS; THE LAW OUT OF ITS RUN -/
theorem am_own_ok : ∀ M ∈ am_msW, M.1.cls = M.2.2.2.2.1 ∧ plainName M.1.cls = true := by
  have key : am_msW.all (fun M => decide (M.1.cls = M.2.2.2.2.1) && plainName M.1.cls) = true := by decide +kernel
  intro M hM
  have h1 := List.all_eq_true.mp key M hM
  simp only [Bool.and_eq_true, decide_eq_true_eq] at h1
  exact h1
set_option maxHeartbeats 4000000 in
theorem am_met (l : Launch) : ∀ (d y : Nat) (as : List Value) (h : Hp) (rv : Option Value) (h' : Hp), Res d y as h rv h' → am_Met l d y as h rv h' ∧ am_n h ≤ am_n h' ∧ am_z h ≤ am_z h' := by
  intro d
  induction d with
  | zero => intro y as h rv h' hr; exact hr.elim
  | succ d ih =>
    intro y as h rv h' hr
    have hg := Res_grow _ _ _ _ _ _ hr
    refine ⟨?_, hg⟩
    intro D cy b base
    obtain ⟨hy, n, hl, hcat, hw⟩ := hr
    have hmem := am_mem hy
    refine Met.ofW (cc := (am_m y).2.1) (maxL := (am_m y).2.2.1) (ret := (am_m y).2.2.2.1) (am_own_ok _ hmem).2 rfl ?_
    intro p e s m args below meth c s₁ B hml hv
    obtain ⟨rfl, hR, hK⟩ := hv
    have hts0 := atoms_spec (ws := am_w y) B.pre
    have hts : ∀ w ∈ am_tbl, w.before ((as.map (am_cv b base)).toArray) s = true := fun w hw => hts0 w (List.mem_cons_of_mem _ hw)
    have hown : s.vm.findClass (am_m y).2.2.2.2.1 = some m.cls := by rw [← (am_own_ok _ hmem).1]; exact findClass_of_methodNamed B.named
    have hname : meth.name = (am_m y).1.name := (name_of_methodNamed B.named B.method).1
    have hr := B.returns
    have hlocks := B.notSynchronized
    have hb1 : base ≤ s.heap.size := by have := hR.2.1; have := hR.1; omega
    have X : am_Cx p l (headSpec (am_w y) { frames := d + 1, cells := am_n h' - am_n h, slots := am_z h' - am_z h, locals := 30 * (d + 1) }).room s m ((as.map (am_cv b base)).toArray) meth c (am_m y) D cy b base d (Res d) :=
      ⟨B.exec, B.bytes, hml, hown, hts, fun z => hname.trans z, hK, hb1, Nat.le_refl _, Nat.le_refl _, ih⟩
    have hrun := am_run (e := e) (below := below) (Q := MQ below (am_Qc D cy b base rv h') ((as.map (am_cv b base)).toArray) s (am_n h' - am_n h) (am_z h' - am_z h) (fun q => base ≤ q)) (hs := h) X (N0 := am_n h') (Z0 := am_z h') (by show am_n h' ≤ am_n h + (am_n h' - am_n h); omega) (by show am_z h' ≤ am_z h + (am_z h' - am_z h); omega) (Qa := fun r1 h1 => r1 = rv ∧ h1 = h') (am_ok _ hmem)
      (by
        intro i pc ls rv1 h1 hd hfin hq
        obtain ⟨rfl, rfl⟩ := hq
        refine ⟨Nat.le_refl _, Nat.le_refl _, ?_⟩
        intro hn hz hll H locs LS hR1 hS hL
        have hqq : ∀ t : State, t.heap = H → s.WarmedH t.vm → am_Qc D cy b base rv1 h1 ((as.map (am_cv b base)).toArray) s (.returned (rv1.map (am_cv b base))) t := fun t ht hW => ⟨rfl, by rw [ht]; exact hR1.moved hW.alike, hS.F ht⟩
        rcases hfin with ⟨rfl, x, rfl, hx⟩ | ⟨rfl, x, nm, rfl, hx⟩ | ⟨rfl, rfl, hx⟩
        · rcases hx with hx | ⟨hx, hx2⟩
          · exact W.iret B.exec B.bytes (hr.trans hx) hqq hS.2.2 hd hlocks
          · exact W.zret B.exec B.bytes (hr.trans hx) (by rcases hx2 with rfl | rfl <;> rfl) hqq hS.2.2 hd hlocks
        · have hv : am_cv b base (va_rf x) = .null ∨ ∃ a, am_cv b base (va_rf x) = .ref a := by cases x; exact Or.inl rfl; exact Or.inr ⟨_, rfl⟩
          exact W.aret B.exec B.bytes (hr.trans hx) (Or.inl ⟨nm, rfl⟩) hv hqq hS.2.2 hd hlocks
        · exact W.vret B.exec B.bytes (hr.trans hx) hqq hS.2.2 hd hlocks) n _ _ _ _ hw
    have k1 := hrun.2.2 (Nat.le_refl _) (Nat.le_refl _) (by rw [List.length_append, List.length_map, List.length_replicate]; omega) s.heap [] _ hR va_S.rf (am_L.entry b base as _ hl hcat)
    rw [Nat.sub_self, Nat.sub_self] at k1
    have he := entry_eq m (as.map (am_cv b base)) (by intro v hv; obtain ⟨w, hw1, rfl⟩ := List.mem_map.mp hv; rw [am_cv_cat]; exact hcat w hw1) (am_m y).2.2.1
    rw [he, List.length_map]
    exact k1
/-- the tables of the start -/
theorem am_K_start {args : Array Value} {s : State} (hts : ∀ w ∈ lw_tbl, w.before args s = true) : ∃ (D : va_G) (cy : Nat → ClassId), am_K D cy s := by
  have hts1 : ∀ w ∈ am_tbl, w.before args s = true := fun w h => hts w (List.mem_filter.mp h).1
  have hk : ∀ ci, ci < 7 → ∃ (cC : ClassId) (iS : Nat → Nat), u_Kn s (am_C ci) (am_T ci) (am_N ci) cC iS := fun ci h => u_known hts1 (am_in ci h) (hts1 _ (am_inst ci h).1)
  have arr : ∀ (ty : FieldType), (Jvm.Cond.arrayClass ty).before args s = true → ∃ cA, ArrOfT s cA ty ∧ s.vm.findClass ("[" ++ ty.toString) = some cA := by
    intro ty h
    obtain ⟨cA, kA, comp, h1, h2, h3⟩ := Cond.arrayClass_spec h
    exact ⟨cA, fun n z => ⟨fun k h => (by cases h), kA, h2, comp, h3⟩, h1⟩
  have ov : ∀ (C : String), (Jvm.Cond.arrayOver (.object C)).before args s = true → ∃ cA, ArrOfT s cA (.object C) ∧ va_RA s cA (.object C) := by
    intro C h
    obtain ⟨comp, cA, kA, h1, -, h2, h3, h4⟩ := Cond.arrayOver_spec h
    exact ⟨cA, fun n z => ⟨fun k h => (by cases h), kA, h2, comp, h3⟩, kA, comp, h2, h3, h1, h4⟩
  have o3 : (Jvm.Cond.arrayOver (.object RX3)).before args s = true := hts _ (List.mem_of_getElem? (i := 55) (by decide +kernel))
  have o4 : (Jvm.Cond.arrayOver (.object RX4)).before args s = true := hts _ (List.mem_of_getElem? (i := 57) (by decide +kernel))
  have o1 : (Jvm.Cond.arrayOver (.object RX1)).before args s = true := hts _ (List.mem_of_getElem? (i := 59) (by decide +kernel))
  have o2 : (Jvm.Cond.arrayOver (.object RX2)).before args s = true := hts _ (List.mem_of_getElem? (i := 61) (by decide +kernel))
  have oz : am_Z.before args s = true := hts _ (List.mem_of_getElem? (i := 360) (by decide +kernel))
  obtain ⟨c7, a7, b7⟩ := arr .int (hts1 _ am_arrI)
  obtain ⟨c8, a8, b8⟩ := arr .boolean (hts1 _ am_arrZ)
  obtain ⟨c9, a9, b9⟩ := ov RX3 o3
  obtain ⟨c10, a10, b10⟩ := ov RX4 o4
  obtain ⟨c11, a11, b11⟩ := ov RX1 o1
  obtain ⟨c12, a12, b12⟩ := ov RX2 o2
  refine ⟨(fun k => if h : k < 7 then Classical.choose (hk k h) else 0, fun k => if h : k < 7 then Classical.choose (Classical.choose_spec (hk k h)) else fun _ => 0), fun k => match k with | 7 => c7 | 8 => c8 | 9 => c9 | 10 => c10 | 11 => c11 | _ => c12, ⟨fun ci q hq => ?_, fun k q hq => ?_⟩, va_Nw.of rfl oz, va_AO.of o3, va_AO.of o4, va_AO.of o1, va_AO.of o2⟩
  · have hci : ci < 7 := (List.getElem?_eq_some_iff.mp hq).1
    have e := Option.some.inj (hq.symm.trans (am_cl ci hci))
    subst e
    show u_Kn s (am_C ci) (am_T ci) (am_N ci) (if h : ci < 7 then Classical.choose (hk ci h) else 0) (if h : ci < 7 then Classical.choose (Classical.choose_spec (hk ci h)) else fun _ => 0)
    rw [dif_pos hci, dif_pos hci]
    exact Classical.choose_spec (Classical.choose_spec (hk ci hci))
  · match k, hq with
    | 0, hq => cases hq; exact ⟨a7, b7⟩
    | 1, hq => cases hq; exact ⟨a8, b8⟩
    | 2, hq => cases hq; exact ⟨a9, b9⟩
    | 3, hq => cases hq; exact ⟨a10, b10⟩
    | 4, hq => cases hq; exact ⟨a11, b11⟩
    | 5, hq => cases hq; exact ⟨a12, b12⟩
    | k + 6, hq => simp [am_tys] at hq
/-- the abstract heap at the law's start: the script alone -/
def am_h0 (L : Nat) (xs : Nat → Int32) : Hp := (1, 0, fun _ => 7, fun _ => L, fun _ => xs, fun _ _ => none)
def lw_run (L : Nat) (xs : Nat → Int32) : Prop := ∃ n, am_wp kL_law (Res 7) (fun r h => r = some (.int 1) ∧ am_n h ≤ 600001 ∧ am_z h ≤ 7302250) n 0 [some (.ref 0), none, none, none] [] (am_h0 L xs)
/-! THE CLAIM OUT OF ONE WALK OF THE LAW'S BODY. Your part is whole_start (and what it stands on); all else here is the same for every law, but numbers. -/
def R_law : String := "LuggageCounterLaw"
def lw_P (b : Addr) (xs : List Int32) (args : Array Value) (s : State) : Prop := args = #[.ref b] ∧ s.IntsAt b xs ∧ xs.length ≤ 3584 ∧ (Jvm.Cond.and given_1 narrow_1).before args s = true
def lw_Q (_ : Array Value) (s : State) (o : Outcome) (t : State) : Prop := o = .returned (some (.int 1)) ∧ Framed s o t [] 600000 7302250
def lw_Z (below : List Frame) (a : Array Value) (s : State) : State → Prop := fun t => ∃ o, t.status = .running ∧ Ended t below o ∧ lw_Q a s o t
/-- the law's own end, with 1 on the stack, nothing written that was there before, its room as the claim has it -/
theorem lw_ret {p : Program} {l : Launch} {e : Env} {s : State} {m : MethodId} {below : List Frame} {meth : Method} {c : Code} {b : Nat} (hx : p.tables.exec = Jvm.exec) (hb : c.code = code) (hr : meth.sig.returnType = ret) (hlocks : meth.locks = false) {pc : Nat} {H : Heap} {ls : Array Slot} (hdg : decode code pc = .ok (.ireturn, 1)) : W p l e room_1 s m #[Value.ref b] below meth c H [] 600000 7302250 (lw_Z below #[Value.ref b] s) (F0 m pc ls [.int 1]) := by
  intro T hT X
  obtain ⟨fs, hret, hrun, hended, hW, hframe⟩ := X.leave (v := some (.int 1)) (hlocks := hlocks) (fun h => by rw [hr] at h; cases h)
  have hmeth' : T.vm.method? m = some meth := X.method'
  refine ⟨T.setFrames fs, ?_, .returned (some (.int 1)), hrun, hended, rfl, ⟨_, rfl⟩, hW, hframe⟩
  jvm_step X.here [X.here.top, hx, hb, hdg, hmeth', hr, ret, narrow_b1]
  (try refine ⟨rfl, ?_⟩); (try refine ⟨rfl, ?_⟩)
  first | (intro acts; rw [hret _ acts rfl rfl rfl]) | rw [hret _ _ rfl rfl rfl]
  exact Steps.refl _
/-- what holds at the law's entry: the machine, the code, the tables' words (any of lw_tbl by 'hts w (by decide +kernel)'), the script of L ints xs at the cell b, what the Statement gives of the start (any of its parts by flat_of_before) -/
def lw_At (p : Program) (s : State) (m : MethodId) (meth : Method) (c : Code) (b L : Nat) (xs : Nat → Int32) : Prop :=
  p.tables.exec = Jvm.exec ∧ c.code = code ∧ meth.sig.returnType = ret ∧ c.maxLocals = 4 ∧ s.vm.findClass R_law = some m.cls ∧ (∀ w ∈ lw_tbl, w.before #[Value.ref b] s = true) ∧ va_X b L xs s s.heap ∧ b < s.heap.size ∧ meth.locks = false ∧ (Jvm.Cond.and given_1 narrow_1).before #[Value.ref b] s = true
set_option maxHeartbeats 4000000 in
/-- THE LAW'S WALK out of its run on the abstract machine -/
theorem whole_of {p : Program} {e : Env} {s : State} {m : MethodId} {below : List Frame} {meth : Method} {c : Code} (l : Launch) {b L : Nat} {xs : Nat → Int32} (hw : lw_run L xs) (C0 : lw_At p s m meth c b L xs) : W p l e room_1 s m #[Value.ref b] below meth c s.heap [] 0 0 (lw_Z below #[Value.ref b] s) (entryFrame m ([Value.ref b] : List Value).toArray 4) := by
  obtain ⟨hx, hb, hr, hml, hown, hts, hX, hbl, hlocks, hgv⟩ := id C0
  obtain ⟨D, cy, hK⟩ := am_K_start hts
  obtain ⟨n, hw⟩ := hw
  have hR : am_R D cy b s.heap.size s (am_h0 L xs) s.heap := ⟨Nat.one_pos, rfl, hbl, rfl, hX, fun a h1 h2 => by have h3 : a < 1 := h2; omega⟩
  have X : am_Cx p l room_1 s m #[Value.ref b] meth c mL_law D cy b s.heap.size 7 (Res 7) :=
    ⟨hx, hb, hml, hown, fun w h => hts w (List.mem_filter.mp h).1, fun z => absurd z (by decide), hK, Nat.le_refl _, by decide, by decide, am_met l 7⟩
  have hrun := am_run (e := e) (below := below) (Q := lw_Z below #[Value.ref b] s) (hs := am_h0 L xs) X (N0 := 600001) (Z0 := 7302250) (by show 600001 ≤ 1 + 600000; decide) (by show 7302250 ≤ 0 + 7302250; decide) (Qa := fun r h => r = some (.int 1) ∧ am_n h ≤ 600001 ∧ am_z h ≤ 7302250) qL_law
    (by
      intro i pc ls rv1 h1 hd hfin hq
      obtain ⟨rfl, q1, q2⟩ := hq
      refine ⟨q1, q2, ?_⟩
      intro hn hz hll H locs LS hR1 hS hL
      have hi : i = .ireturn := by
        rcases hfin with ⟨h, -⟩ | ⟨-, x, nm, h, -⟩ | ⟨-, h, -⟩
        · exact h
        · cases x <;> cases h
        · cases h
      subst hi
      refine va_forget hS.2.2 (W.widen (k := 600000) (n := 7302250) ?_ ?_ (lw_ret hx hb hr hlocks hd))
      · show am_n h1 - 1 ≤ 600000
        omega
      · show am_z h1 - 0 ≤ 7302250
        omega) n _ _ _ _ hw
  have k1 := hrun.2.2 (Nat.le_refl _) (Nat.le_refl _) rfl s.heap [] _ hR va_S.rf (am_L.entry b s.heap.size [.ref 0] 4 (by decide) (by intro v hv; rw [List.mem_singleton.mp hv]; rfl))
  rw [Nat.sub_self, Nat.sub_self] at k1
  have he := entry_eq m [Value.ref b] (by intro v hv; rw [List.mem_singleton.mp hv]; rfl) 4
  rw [he]
  exact k1
end
section
/-! RUNS OF THE ABSTRACT MACHINE, goal first: a rule an instruction -/
def WP (cod : List am_E) (Cal : am_Ct) (Q : Option Value → Hp → Prop) (pc : Nat) (ls : am_Ls) (st : List Value) (h : Hp) : Prop := ∃ n, am_wp cod Cal Q n pc ls st h
def Ob (h : Hp) (a ci : Nat) : Prop := 0 < a ∧ a < am_n h ∧ am_k h a = ci
/-- the same heap with other ints -/
def am_wi (h : Hp) (S : Nat → Nat → Int32) : Hp := (am_n h, am_z h, am_k h, am_l h, S, am_r h)
def up2 (S : Nat → Nat → Int32) (a k : Nat) (v : Int32) : Nat → Nat → Int32 := fun x j => if x = a ∧ j = k then v else S x j
theorem am_wi_i (h : Hp) (S : Nat → Nat → Int32) : am_i (am_wi h S) = S := rfl
theorem am_wi_set (h : Hp) (S : Nat → Nat → Int32) (a k : Nat) (v : Int32) : am_setI (am_wi h S) a k v = am_wi h (up2 S a k v) := rfl
theorem am_wi_self (h : Hp) : am_wi h (am_i h) = h := rfl
theorem am_wp_mono {cod : List am_E} {Cal : am_Ct} {Q : Option Value → Hp → Prop} : ∀ (n : Nat) (pc : Nat) (ls : am_Ls) (st : List Value) (h : Hp), am_wp cod Cal Q n pc ls st h → ∀ k, n ≤ k → am_wp cod Cal Q k pc ls st h := by
  have key : ∀ n, (∀ pc ls st h, am_wp cod Cal Q n pc ls st h → am_wp cod Cal Q (n + 1) pc ls st h) := by
    intro n
    induction n with
    | zero => intro pc ls st h hw; exact hw.elim
    | succ n ih =>
      intro pc ls st h hw
      obtain ⟨q, hm, hdo⟩ := hw
      refine ⟨q, hm, ?_⟩
      obtain ⟨i, len, r1, r2, r3⟩ := q
      cases i with
      | if_acmp cnd off =>
        cases cnd with
        | ne => exact hdo
        | eq => obtain ⟨x, y, r, h0, k1, k2⟩ := hdo; exact ⟨x, y, r, h0, fun z => ih _ _ _ _ (k1 z), fun z => ih _ _ _ _ (k2 z)⟩
      | ifCond cnd off => obtain ⟨x, r, h0, k1, k2⟩ := hdo; exact ⟨x, r, h0, fun z => ih _ _ _ _ (k1 z), fun z => ih _ _ _ _ (k2 z)⟩
      | if_icmp cnd off => obtain ⟨x, y, r, h0, k1, k2⟩ := hdo; exact ⟨x, y, r, h0, fun z => ih _ _ _ _ (k1 z), fun z => ih _ _ _ _ (k2 z)⟩
      | ifnull off => obtain ⟨x, r, h0, k1, k2⟩ := hdo; exact ⟨x, r, h0, fun z => ih _ _ _ _ (k1 z), fun z => ih _ _ _ _ (k2 z)⟩
      | ifnonnull off => obtain ⟨x, r, h0, k1, k2⟩ := hdo; exact ⟨x, r, h0, fun z => ih _ _ _ _ (k1 z), fun z => ih _ _ _ _ (k2 z)⟩
      | iload j => obtain ⟨x, h1, hk⟩ := hdo; exact ⟨x, h1, ih _ _ _ _ hk⟩
      | iload_n j => obtain ⟨x, h1, hk⟩ := hdo; exact ⟨x, h1, ih _ _ _ _ hk⟩
      | aload j => obtain ⟨x, h1, hk⟩ := hdo; exact ⟨x, h1, ih _ _ _ _ hk⟩
      | aload_n j => obtain ⟨x, h1, hk⟩ := hdo; exact ⟨x, h1, ih _ _ _ _ hk⟩
      | istore j => obtain ⟨x, r, h0, h1, hk⟩ := hdo; exact ⟨x, r, h0, h1, ih _ _ _ _ hk⟩
      | istore_n j => obtain ⟨x, r, h0, h1, hk⟩ := hdo; exact ⟨x, r, h0, h1, ih _ _ _ _ hk⟩
      | astore j => obtain ⟨x, r, h0, h1, hk⟩ := hdo; exact ⟨x, r, h0, h1, ih _ _ _ _ hk⟩
      | astore_n j => obtain ⟨x, r, h0, h1, hk⟩ := hdo; exact ⟨x, r, h0, h1, ih _ _ _ _ hk⟩
      | iconst n => exact ih _ _ _ _ hdo
      | bipush n => exact ih _ _ _ _ hdo
      | sipush n => exact ih _ _ _ _ hdo
      | ldc n => exact ih _ _ _ _ hdo
      | aconst_null => exact ih _ _ _ _ hdo
      | goto n => exact ih _ _ _ _ hdo
      | new n => exact ih _ _ _ _ hdo
      | iinc j n => obtain ⟨x, h1, hk⟩ := hdo; exact ⟨x, h1, ih _ _ _ _ hk⟩
      | iadd => obtain ⟨x, y, r, h0, hk⟩ := hdo; exact ⟨x, y, r, h0, ih _ _ _ _ hk⟩
      | isub => obtain ⟨x, y, r, h0, hk⟩ := hdo; exact ⟨x, y, r, h0, ih _ _ _ _ hk⟩
      | imul => obtain ⟨x, y, r, h0, hk⟩ := hdo; exact ⟨x, y, r, h0, ih _ _ _ _ hk⟩
      | iand => obtain ⟨x, y, r, h0, hk⟩ := hdo; exact ⟨x, y, r, h0, ih _ _ _ _ hk⟩
      | ishl => obtain ⟨x, y, r, h0, hk⟩ := hdo; exact ⟨x, y, r, h0, ih _ _ _ _ hk⟩
      | ishr => obtain ⟨x, y, r, h0, hk⟩ := hdo; exact ⟨x, y, r, h0, ih _ _ _ _ hk⟩
      | idiv => obtain ⟨x, y, r, h0, h1, hk⟩ := hdo; exact ⟨x, y, r, h0, h1, ih _ _ _ _ hk⟩
      | irem => obtain ⟨x, y, r, h0, h1, hk⟩ := hdo; exact ⟨x, y, r, h0, h1, ih _ _ _ _ hk⟩
      | ineg => obtain ⟨x, r, h0, hk⟩ := hdo; exact ⟨x, r, h0, ih _ _ _ _ hk⟩
      | dup => obtain ⟨x, r, h0, h1, hk⟩ := hdo; exact ⟨x, r, h0, h1, ih _ _ _ _ hk⟩
      | dup2 => obtain ⟨x, y, r, h0, h1, h2, hk⟩ := hdo; exact ⟨x, y, r, h0, h1, h2, ih _ _ _ _ hk⟩
      | tableswitch d lo hi offs => obtain ⟨x, r, t, h0, h1, hk⟩ := hdo; exact ⟨x, r, t, h0, h1, ih _ _ _ _ hk⟩
      | getfield idx => obtain ⟨a, r, h0, h1, h2, h3, hk⟩ := hdo; exact ⟨a, r, h0, h1, h2, h3, ih _ _ _ _ hk⟩
      | putfield idx =>
        obtain ⟨a, v, r, h0, h1, h2, h3, hk⟩ := hdo
        rcases hk with ⟨f1, x, hv, hk⟩ | ⟨f1, x, hv, hx, hk⟩
        · exact ⟨a, v, r, h0, h1, h2, h3, Or.inl ⟨f1, x, hv, ih _ _ _ _ hk⟩⟩
        · exact ⟨a, v, r, h0, h1, h2, h3, Or.inr ⟨f1, x, hv, hx, ih _ _ _ _ hk⟩⟩
      | newarray at1 => obtain ⟨k, r, h0, h1, h2, hk⟩ := hdo; exact ⟨k, r, h0, h1, h2, ih _ _ _ _ hk⟩
      | anewarray at1 => obtain ⟨k, r, h0, h1, h2, hk⟩ := hdo; exact ⟨k, r, h0, h1, h2, ih _ _ _ _ hk⟩
      | iaload => obtain ⟨i, a, r, h0, h1, h2, h3, hk⟩ := hdo; exact ⟨i, a, r, h0, h1, h2, h3, ih _ _ _ _ hk⟩
      | baload => obtain ⟨i, a, r, h0, h1, h2, h3, h4, hk⟩ := hdo; exact ⟨i, a, r, h0, h1, h2, h3, h4, ih _ _ _ _ hk⟩
      | aaload => obtain ⟨i, a, r, h0, h1, h2, h3, h4, h5, hk⟩ := hdo; exact ⟨i, a, r, h0, h1, h2, h3, h4, h5, ih _ _ _ _ hk⟩
      | iastore => obtain ⟨x, i, a, r, h0, h1, h2, h3, h4, hk⟩ := hdo; exact ⟨x, i, a, r, h0, h1, h2, h3, h4, ih _ _ _ _ hk⟩
      | bastore => obtain ⟨x, i, a, r, h0, h1, h2, h3, h4, h5, hk⟩ := hdo; exact ⟨x, i, a, r, h0, h1, h2, h3, h4, h5, ih _ _ _ _ hk⟩
      | aastore => obtain ⟨v, i, a, r, h0, h1, h2, h3, h4, h5, h6, h7, h8, hk⟩ := hdo; exact ⟨v, i, a, r, h0, h1, h2, h3, h4, h5, h6, h7, h8, ih _ _ _ _ hk⟩
      | arraylength => obtain ⟨a, r, h0, h1, h2, h3, hk⟩ := hdo; exact ⟨a, r, h0, h1, h2, h3, ih _ _ _ _ hk⟩
      | invokevirtual idx => obtain ⟨as, a, r, rv, h', h0, h1, h2, h3, h4, h5, h6, hk⟩ := hdo; exact ⟨as, a, r, rv, h', h0, h1, h2, h3, h4, h5, h6, ih _ _ _ _ hk⟩
      | invokestatic idx =>
        rcases hdo with ⟨e1, x, r, h0, h2, hk⟩ | ⟨e1, x, y, r, h0, h2, hk⟩ | ⟨e1, x, y, r, h0, h2, hk⟩ | ⟨e1, as, r, rv, h', h0, h1, h2, h6, hk⟩
        · exact Or.inl ⟨e1, x, r, h0, h2, ih _ _ _ _ hk⟩
        · exact Or.inr (Or.inl ⟨e1, x, y, r, h0, h2, ih _ _ _ _ hk⟩)
        · exact Or.inr (Or.inr (Or.inl ⟨e1, x, y, r, h0, h2, ih _ _ _ _ hk⟩))
        · exact Or.inr (Or.inr (Or.inr ⟨e1, as, r, rv, h', h0, h1, h2, h6, ih _ _ _ _ hk⟩))
      | invokespecial idx =>
        rcases hdo with ⟨e1, a, r, h0, h2, hk⟩ | ⟨e1, as, a, r, rv, h', h0, h1, h2, h6, hk⟩
        · exact Or.inl ⟨e1, a, r, h0, h2, ih _ _ _ _ hk⟩
        · exact Or.inr ⟨e1, as, a, r, rv, h', h0, h1, h2, h6, ih _ _ _ _ hk⟩
      | ireturn => exact hdo
      | areturn => exact hdo
      | return_ => exact hdo
      | _ => exact hdo.elim
  intro n pc ls st h hw k hk
  obtain ⟨j, rfl⟩ := Nat.exists_eq_add_of_le hk
  clear hk
  induction j with
  | zero => exact hw
  | succ j ih => exact key _ _ _ _ _ ih
section WPR
variable {cod : List am_E} {Cal : am_Ct} {Q : Option Value → Hp → Prop} {pc : Nat} {ls ls' : am_Ls} {st : List Value} {h : Hp} {len r1 r2 r3 : Nat}
theorem wp_iload {j : Nat} (hm : (pc, Instr.iload j, len, r1, r2, r3) ∈ cod) {x : Int32} (hl : ls[j]? = some (some (.int x))) (k : WP cod Cal Q (pc + 2) ls (.int x :: st) h) : WP cod Cal Q pc ls st h := by
  obtain ⟨n, hn⟩ := k; exact ⟨n + 1, _, hm, x, hl, hn⟩
theorem wp_iload_n {j : Fin 4} (hm : (pc, Instr.iload_n j, len, r1, r2, r3) ∈ cod) {x : Int32} (hl : ls[(j : Nat)]? = some (some (.int x))) (k : WP cod Cal Q (pc + 1) ls (.int x :: st) h) : WP cod Cal Q pc ls st h := by
  obtain ⟨n, hn⟩ := k; exact ⟨n + 1, _, hm, x, hl, hn⟩
theorem wp_aload {j : Nat} (hm : (pc, Instr.aload j, len, r1, r2, r3) ∈ cod) {x : Nat} (hl : ls[j]? = some (some (.ref x))) (k : WP cod Cal Q (pc + 2) ls (.ref x :: st) h) : WP cod Cal Q pc ls st h := by
  obtain ⟨n, hn⟩ := k; exact ⟨n + 1, _, hm, some x, hl, hn⟩
theorem wp_aload_n {j : Fin 4} (hm : (pc, Instr.aload_n j, len, r1, r2, r3) ∈ cod) {x : Nat} (hl : ls[(j : Nat)]? = some (some (.ref x))) (k : WP cod Cal Q (pc + 1) ls (.ref x :: st) h) : WP cod Cal Q pc ls st h := by
  obtain ⟨n, hn⟩ := k; exact ⟨n + 1, _, hm, some x, hl, hn⟩
theorem wp_aloadO {j : Nat} (hm : (pc, Instr.aload j, len, r1, r2, r3) ∈ cod) {x : Option Nat} (hl : ls[j]? = some (some (va_rf x))) (k : WP cod Cal Q (pc + 2) ls (va_rf x :: st) h) : WP cod Cal Q pc ls st h := by
  obtain ⟨n, hn⟩ := k; exact ⟨n + 1, _, hm, x, hl, hn⟩
theorem wp_aload_nO {j : Fin 4} (hm : (pc, Instr.aload_n j, len, r1, r2, r3) ∈ cod) {x : Option Nat} (hl : ls[(j : Nat)]? = some (some (va_rf x))) (k : WP cod Cal Q (pc + 1) ls (va_rf x :: st) h) : WP cod Cal Q pc ls st h := by
  obtain ⟨n, hn⟩ := k; exact ⟨n + 1, _, hm, x, hl, hn⟩
theorem wp_istore {j : Nat} (hm : (pc, Instr.istore j, len, r1, r2, r3) ∈ cod) {x : Int32} (hj : Nat.blt j ls.length = true) (hs : ls.set j (some (.int x)) = ls') (k : WP cod Cal Q (pc + 2) ls' st h) : WP cod Cal Q pc ls (.int x :: st) h := by
  subst hs; obtain ⟨n, hn⟩ := k; exact ⟨n + 1, _, hm, x, _, rfl, Nat.le_of_ble_eq_true hj, hn⟩
theorem wp_istore_n {j : Fin 4} (hm : (pc, Instr.istore_n j, len, r1, r2, r3) ∈ cod) {x : Int32} (hj : Nat.blt j ls.length = true) (hs : ls.set j (some (.int x)) = ls') (k : WP cod Cal Q (pc + 1) ls' st h) : WP cod Cal Q pc ls (.int x :: st) h := by
  subst hs; obtain ⟨n, hn⟩ := k; exact ⟨n + 1, _, hm, x, _, rfl, Nat.le_of_ble_eq_true hj, hn⟩
theorem wp_astore {j : Nat} (hm : (pc, Instr.astore j, len, r1, r2, r3) ∈ cod) {x : Nat} (hj : Nat.blt j ls.length = true) (hs : ls.set j (some (.ref x)) = ls') (k : WP cod Cal Q (pc + 2) ls' st h) : WP cod Cal Q pc ls (.ref x :: st) h := by
  subst hs; obtain ⟨n, hn⟩ := k; exact ⟨n + 1, _, hm, some x, _, rfl, Nat.le_of_ble_eq_true hj, hn⟩
theorem wp_astore_n {j : Fin 4} (hm : (pc, Instr.astore_n j, len, r1, r2, r3) ∈ cod) {x : Nat} (hj : Nat.blt j ls.length = true) (hs : ls.set j (some (.ref x)) = ls') (k : WP cod Cal Q (pc + 1) ls' st h) : WP cod Cal Q pc ls (.ref x :: st) h := by
  subst hs; obtain ⟨n, hn⟩ := k; exact ⟨n + 1, _, hm, some x, _, rfl, Nat.le_of_ble_eq_true hj, hn⟩
theorem wp_astoreO {j : Nat} (hm : (pc, Instr.astore j, len, r1, r2, r3) ∈ cod) {x : Option Nat} (hj : Nat.blt j ls.length = true) (hs : ls.set j (some (va_rf x)) = ls') (k : WP cod Cal Q (pc + 2) ls' st h) : WP cod Cal Q pc ls (va_rf x :: st) h := by
  subst hs; obtain ⟨n, hn⟩ := k; exact ⟨n + 1, _, hm, x, _, rfl, Nat.le_of_ble_eq_true hj, hn⟩
theorem wp_astore_nO {j : Fin 4} (hm : (pc, Instr.astore_n j, len, r1, r2, r3) ∈ cod) {x : Option Nat} (hj : Nat.blt j ls.length = true) (hs : ls.set j (some (va_rf x)) = ls') (k : WP cod Cal Q (pc + 1) ls' st h) : WP cod Cal Q pc ls (va_rf x :: st) h := by
  subst hs; obtain ⟨n, hn⟩ := k; exact ⟨n + 1, _, hm, x, _, rfl, Nat.le_of_ble_eq_true hj, hn⟩
theorem wp_iconst {i : Int} (hm : (pc, Instr.iconst i, len, r1, r2, r3) ∈ cod) {v : Int32} (hv : Int32.ofInt i = v) (k : WP cod Cal Q (pc + 1) ls (.int v :: st) h) : WP cod Cal Q pc ls st h := by
  subst hv; obtain ⟨n, hn⟩ := k; exact ⟨n + 1, _, hm, hn⟩
theorem wp_bipush {i : Int} (hm : (pc, Instr.bipush i, len, r1, r2, r3) ∈ cod) {v : Int32} (hv : (Int8.ofInt i).toInt32 = v) (k : WP cod Cal Q (pc + 2) ls (.int v :: st) h) : WP cod Cal Q pc ls st h := by
  subst hv; obtain ⟨n, hn⟩ := k; exact ⟨n + 1, _, hm, hn⟩
theorem wp_sipush {i : Int} (hm : (pc, Instr.sipush i, len, r1, r2, r3) ∈ cod) {v : Int32} (hv : (Int16.ofInt i).toInt32 = v) (k : WP cod Cal Q (pc + 3) ls (.int v :: st) h) : WP cod Cal Q pc ls st h := by
  subst hv; obtain ⟨n, hn⟩ := k; exact ⟨n + 1, _, hm, hn⟩
theorem wp_ldc {i : Nat} (hm : (pc, Instr.ldc i, len, r1, r2, r3) ∈ cod) {v : Int32} (hv : Int32.ofNat r1 = v) (k : WP cod Cal Q (pc + 2) ls (.int v :: st) h) : WP cod Cal Q pc ls st h := by
  subst hv; obtain ⟨n, hn⟩ := k; exact ⟨n + 1, _, hm, hn⟩
theorem wp_null (hm : (pc, Instr.aconst_null, len, r1, r2, r3) ∈ cod) (k : WP cod Cal Q (pc + 1) ls (va_rf none :: st) h) : WP cod Cal Q pc ls st h := by
  obtain ⟨n, hn⟩ := k; exact ⟨n + 1, _, hm, hn⟩
theorem wp_iinc {j : Nat} {i : Int} (hm : (pc, Instr.iinc j i, len, r1, r2, r3) ∈ cod) {x v : Int32} (hl : ls[j]? = some (some (.int x))) (hv : x + Int32.ofInt i = v) (hs : ls.set j (some (.int v)) = ls') (k : WP cod Cal Q (pc + 3) ls' st h) : WP cod Cal Q pc ls st h := by
  subst hv; subst hs; obtain ⟨n, hn⟩ := k; exact ⟨n + 1, _, hm, x, hl, hn⟩
theorem wp_iadd (hm : (pc, Instr.iadd, len, r1, r2, r3) ∈ cod) {x y : Int32} (k : WP cod Cal Q (pc + 1) ls (.int (x + y) :: st) h) : WP cod Cal Q pc ls (.int y :: .int x :: st) h := by
  obtain ⟨n, hn⟩ := k; exact ⟨n + 1, _, hm, x, y, _, rfl, hn⟩
theorem wp_isub (hm : (pc, Instr.isub, len, r1, r2, r3) ∈ cod) {x y : Int32} (k : WP cod Cal Q (pc + 1) ls (.int (x - y) :: st) h) : WP cod Cal Q pc ls (.int y :: .int x :: st) h := by
  obtain ⟨n, hn⟩ := k; exact ⟨n + 1, _, hm, x, y, _, rfl, hn⟩
theorem wp_imul (hm : (pc, Instr.imul, len, r1, r2, r3) ∈ cod) {x y : Int32} (k : WP cod Cal Q (pc + 1) ls (.int (x * y) :: st) h) : WP cod Cal Q pc ls (.int y :: .int x :: st) h := by
  obtain ⟨n, hn⟩ := k; exact ⟨n + 1, _, hm, x, y, _, rfl, hn⟩
theorem wp_iand (hm : (pc, Instr.iand, len, r1, r2, r3) ∈ cod) {x y : Int32} (k : WP cod Cal Q (pc + 1) ls (.int (x &&& y) :: st) h) : WP cod Cal Q pc ls (.int y :: .int x :: st) h := by
  obtain ⟨n, hn⟩ := k; exact ⟨n + 1, _, hm, x, y, _, rfl, hn⟩
theorem wp_ishl (hm : (pc, Instr.ishl, len, r1, r2, r3) ∈ cod) {x y : Int32} (k : WP cod Cal Q (pc + 1) ls (.int (x <<< (y &&& 31)) :: st) h) : WP cod Cal Q pc ls (.int y :: .int x :: st) h := by
  obtain ⟨n, hn⟩ := k; exact ⟨n + 1, _, hm, x, y, _, rfl, hn⟩
theorem wp_ishr (hm : (pc, Instr.ishr, len, r1, r2, r3) ∈ cod) {x y : Int32} (k : WP cod Cal Q (pc + 1) ls (.int (x >>> (y &&& 31)) :: st) h) : WP cod Cal Q pc ls (.int y :: .int x :: st) h := by
  obtain ⟨n, hn⟩ := k; exact ⟨n + 1, _, hm, x, y, _, rfl, hn⟩
theorem wp_idiv (hm : (pc, Instr.idiv, len, r1, r2, r3) ∈ cod) {x y : Int32} (hy : ¬ y = 0) (k : WP cod Cal Q (pc + 1) ls (.int (x / y) :: st) h) : WP cod Cal Q pc ls (.int y :: .int x :: st) h := by
  obtain ⟨n, hn⟩ := k; exact ⟨n + 1, _, hm, x, y, _, rfl, hy, hn⟩
theorem wp_irem (hm : (pc, Instr.irem, len, r1, r2, r3) ∈ cod) {x y : Int32} (hy : ¬ y = 0) (k : WP cod Cal Q (pc + 1) ls (.int (x - x / y * y) :: st) h) : WP cod Cal Q pc ls (.int y :: .int x :: st) h := by
  obtain ⟨n, hn⟩ := k; exact ⟨n + 1, _, hm, x, y, _, rfl, hy, hn⟩
theorem wp_dup (hm : (pc, Instr.dup, len, r1, r2, r3) ∈ cod) {v : Value} (hv : v.category = 1) (k : WP cod Cal Q (pc + 1) ls (v :: v :: st) h) : WP cod Cal Q pc ls (v :: st) h := by
  obtain ⟨n, hn⟩ := k; exact ⟨n + 1, _, hm, v, _, rfl, hv, hn⟩
theorem wp_dup2 (hm : (pc, Instr.dup2, len, r1, r2, r3) ∈ cod) {v w : Value} (hv : v.category = 1) (hw : w.category = 1) (k : WP cod Cal Q (pc + 1) ls (v :: w :: v :: w :: st) h) : WP cod Cal Q pc ls (v :: w :: st) h := by
  obtain ⟨n, hn⟩ := k; exact ⟨n + 1, _, hm, v, w, _, rfl, hv, hw, hn⟩
theorem wp_goto {off : Int} (hm : (pc, Instr.goto off, len, r1, r2, r3) ∈ cod) (k : WP cod Cal Q r1 ls st h) : WP cod Cal Q pc ls st h := by
  obtain ⟨n, hn⟩ := k; exact ⟨n + 1, _, hm, hn⟩
theorem wp_if {c : Jvm.ClassFile.Cond} {off : Int} (hm : (pc, Instr.ifCond c off, len, r1, r2, r3) ∈ cod) {x : Int32} (k1 : am_cond c x 0 → WP cod Cal Q r1 ls st h) (k2 : ¬ am_cond c x 0 → WP cod Cal Q (pc + 3) ls st h) : WP cod Cal Q pc ls (.int x :: st) h := by
  by_cases q : am_cond c x 0
  · obtain ⟨n, hn⟩ := k1 q; exact ⟨n + 1, _, hm, x, _, rfl, fun _ => hn, fun z => absurd q z⟩
  · obtain ⟨n, hn⟩ := k2 q; exact ⟨n + 1, _, hm, x, _, rfl, fun z => absurd z q, fun _ => hn⟩
theorem wp_ifT {c : Jvm.ClassFile.Cond} {off : Int} (hm : (pc, Instr.ifCond c off, len, r1, r2, r3) ∈ cod) {x : Int32} (q : am_cond c x 0) (k : WP cod Cal Q r1 ls st h) : WP cod Cal Q pc ls (.int x :: st) h := wp_if hm (fun _ => k) (fun z => absurd q z)
theorem wp_ifF {c : Jvm.ClassFile.Cond} {off : Int} (hm : (pc, Instr.ifCond c off, len, r1, r2, r3) ∈ cod) {x : Int32} (q : ¬ am_cond c x 0) (k : WP cod Cal Q (pc + 3) ls st h) : WP cod Cal Q pc ls (.int x :: st) h := wp_if hm (fun z => absurd z q) (fun _ => k)
theorem wp_icmp {c : Jvm.ClassFile.Cond} {off : Int} (hm : (pc, Instr.if_icmp c off, len, r1, r2, r3) ∈ cod) {x y : Int32} (k1 : am_cond c x y → WP cod Cal Q r1 ls st h) (k2 : ¬ am_cond c x y → WP cod Cal Q (pc + 3) ls st h) : WP cod Cal Q pc ls (.int y :: .int x :: st) h := by
  by_cases q : am_cond c x y
  · obtain ⟨n, hn⟩ := k1 q; exact ⟨n + 1, _, hm, x, y, _, rfl, fun _ => hn, fun z => absurd q z⟩
  · obtain ⟨n, hn⟩ := k2 q; exact ⟨n + 1, _, hm, x, y, _, rfl, fun z => absurd z q, fun _ => hn⟩
theorem wp_icmpT {c : Jvm.ClassFile.Cond} {off : Int} (hm : (pc, Instr.if_icmp c off, len, r1, r2, r3) ∈ cod) {x y : Int32} (q : am_cond c x y) (k : WP cod Cal Q r1 ls st h) : WP cod Cal Q pc ls (.int y :: .int x :: st) h := wp_icmp hm (fun _ => k) (fun z => absurd q z)
theorem wp_icmpF {c : Jvm.ClassFile.Cond} {off : Int} (hm : (pc, Instr.if_icmp c off, len, r1, r2, r3) ∈ cod) {x y : Int32} (q : ¬ am_cond c x y) (k : WP cod Cal Q (pc + 3) ls st h) : WP cod Cal Q pc ls (.int y :: .int x :: st) h := wp_icmp hm (fun z => absurd z q) (fun _ => k)
theorem wp_ifnull {off : Int} (hm : (pc, Instr.ifnull off, len, r1, r2, r3) ∈ cod) {x : Option Nat} (k1 : x = none → WP cod Cal Q r1 ls st h) (k2 : ∀ a, x = some a → WP cod Cal Q (pc + 3) ls st h) : WP cod Cal Q pc ls (va_rf x :: st) h := by
  cases x with
  | none => obtain ⟨n, hn⟩ := k1 rfl; exact ⟨n + 1, _, hm, none, _, rfl, fun _ => hn, fun z => absurd rfl z⟩
  | some a => obtain ⟨n, hn⟩ := k2 a rfl; exact ⟨n + 1, _, hm, some a, _, rfl, fun z => (by cases z), fun _ => hn⟩
theorem wp_ifnullF {off : Int} (hm : (pc, Instr.ifnull off, len, r1, r2, r3) ∈ cod) {x : Nat} (k : WP cod Cal Q (pc + 3) ls st h) : WP cod Cal Q pc ls (.ref x :: st) h := wp_ifnull (x := some x) hm (fun z => by cases z) (fun _ _ => k)
theorem wp_ifnullT {off : Int} (hm : (pc, Instr.ifnull off, len, r1, r2, r3) ∈ cod) (k : WP cod Cal Q r1 ls st h) : WP cod Cal Q pc ls (va_rf none :: st) h := wp_ifnull (x := none) hm (fun _ => k) (fun _ z => by cases z)
theorem wp_ifnonnull {off : Int} (hm : (pc, Instr.ifnonnull off, len, r1, r2, r3) ∈ cod) {x : Option Nat} (k1 : ∀ a, x = some a → WP cod Cal Q r1 ls st h) (k2 : x = none → WP cod Cal Q (pc + 3) ls st h) : WP cod Cal Q pc ls (va_rf x :: st) h := by
  cases x with
  | none => obtain ⟨n, hn⟩ := k2 rfl; exact ⟨n + 1, _, hm, none, _, rfl, fun z => absurd rfl z, fun _ => hn⟩
  | some a => obtain ⟨n, hn⟩ := k1 a rfl; exact ⟨n + 1, _, hm, some a, _, rfl, fun _ => hn, fun z => by cases z⟩
theorem wp_ifnonnullT {off : Int} (hm : (pc, Instr.ifnonnull off, len, r1, r2, r3) ∈ cod) {x : Nat} (k : WP cod Cal Q r1 ls st h) : WP cod Cal Q pc ls (.ref x :: st) h := wp_ifnonnull (x := some x) hm (fun _ _ => k) (fun z => by cases z)
theorem wp_ifnonnullF {off : Int} (hm : (pc, Instr.ifnonnull off, len, r1, r2, r3) ∈ cod) (k : WP cod Cal Q (pc + 3) ls st h) : WP cod Cal Q pc ls (va_rf none :: st) h := wp_ifnonnull (x := none) hm (fun _ z => by cases z) (fun _ => k)
theorem wp_acmp {off : Int} (hm : (pc, Instr.if_acmp .eq off, len, r1, r2, r3) ∈ cod) {x y : Option Nat} (k1 : x = y → WP cod Cal Q r1 ls st h) (k2 : ¬ x = y → WP cod Cal Q (pc + 3) ls st h) : WP cod Cal Q pc ls (va_rf y :: va_rf x :: st) h := by
  by_cases q : x = y
  · obtain ⟨n, hn⟩ := k1 q; exact ⟨n + 1, _, hm, x, y, _, rfl, fun _ => hn, fun z => absurd q z⟩
  · obtain ⟨n, hn⟩ := k2 q; exact ⟨n + 1, _, hm, x, y, _, rfl, fun z => absurd z q, fun _ => hn⟩
theorem wp_acmpR {off : Int} (hm : (pc, Instr.if_acmp .eq off, len, r1, r2, r3) ∈ cod) {x y : Nat} (k1 : x = y → WP cod Cal Q r1 ls st h) (k2 : ¬ x = y → WP cod Cal Q (pc + 3) ls st h) : WP cod Cal Q pc ls (.ref y :: .ref x :: st) h := wp_acmp (x := some x) (y := some y) hm (fun z => k1 (Option.some.inj z)) (fun z => k2 (fun w => z (by rw [w])))
theorem wp_switch {d lo hi : Int} {offs : Array Int} (hm : (pc, Instr.tableswitch d lo hi offs, len, r1, r2, r3) ∈ cod) {x : Int32} {t : Nat} (ht : am_sw pc d lo hi offs x t) (k : WP cod Cal Q t ls st h) : WP cod Cal Q pc ls (.int x :: st) h := by
  obtain ⟨n, hn⟩ := k; exact ⟨n + 1, _, hm, x, _, t, rfl, ht, hn⟩
theorem wp_getI {idx ci k a : Nat} (hm : (pc, Instr.getfield idx, len, ci, k, r3) ∈ cod) (hO : Ob h a ci) (hf : Nat.blt (am_ft ci k) 2 = true) {v : Int32} (hv : am_i h a k = v) (kk : WP cod Cal Q (pc + 3) ls (.int v :: st) h) : WP cod Cal Q pc ls (.ref a :: st) h := by
  subst hv
  obtain ⟨n, hn⟩ := kk
  have e : am_fv h a ci k = .int (am_i h a k) := by unfold am_fv; rw [if_neg]; have := Nat.le_of_ble_eq_true hf; omega
  exact ⟨n + 1, _, hm, a, _, rfl, hO.1, hO.2.1, hO.2.2, by show am_wp cod Cal Q n (pc + 3) ls (am_fv h a ci k :: st) h; rw [e]; exact hn⟩
theorem wp_getO {idx ci k a : Nat} (hm : (pc, Instr.getfield idx, len, ci, k, r3) ∈ cod) (hO : Ob h a ci) (hf : Nat.beq (am_ft ci k) 2 = true) {v : Option Nat} (hv : am_r h a k = v) (kk : WP cod Cal Q (pc + 3) ls (va_rf v :: st) h) : WP cod Cal Q pc ls (.ref a :: st) h := by
  subst hv
  obtain ⟨n, hn⟩ := kk
  have e : am_fv h a ci k = va_rf (am_r h a k) := by unfold am_fv; rw [if_pos (Nat.eq_of_beq_eq_true hf)]
  exact ⟨n + 1, _, hm, a, _, rfl, hO.1, hO.2.1, hO.2.2, by show am_wp cod Cal Q n (pc + 3) ls (am_fv h a ci k :: st) h; rw [e]; exact hn⟩
theorem wp_getR {idx ci k a : Nat} (hm : (pc, Instr.getfield idx, len, ci, k, r3) ∈ cod) (hO : Ob h a ci) (hf : Nat.beq (am_ft ci k) 2 = true) {v : Nat} (hv : am_r h a k = some v) (kk : WP cod Cal Q (pc + 3) ls (.ref v :: st) h) : WP cod Cal Q pc ls (.ref a :: st) h := wp_getO hm hO hf hv kk
theorem wp_putI {idx ci k a : Nat} (hm : (pc, Instr.putfield idx, len, ci, k, r3) ∈ cod) (hO : Ob h a ci) (hf : Nat.beq (am_ft ci k) 0 = true) {x : Int32} {h' : Hp} (hh : am_setI h a k x = h') (kk : WP cod Cal Q (pc + 3) ls st h') : WP cod Cal Q pc ls (.int x :: .ref a :: st) h := by
  subst hh
  obtain ⟨n, hn⟩ := kk
  have e := Nat.eq_of_beq_eq_true hf
  exact ⟨n + 1, _, hm, a, _, _, rfl, hO.1, hO.2.1, hO.2.2, Or.inr ⟨by show am_ft ci k < 2; omega, x, rfl, fun z => by have z2 : am_ft ci k = 1 := z; omega, hn⟩⟩
theorem wp_putZ {idx ci k a : Nat} (hm : (pc, Instr.putfield idx, len, ci, k, r3) ∈ cod) (hO : Ob h a ci) (hf : Nat.beq (am_ft ci k) 1 = true) {x : Int32} (hx : x = 0 ∨ x = 1) {h' : Hp} (hh : am_setI h a k x = h') (kk : WP cod Cal Q (pc + 3) ls st h') : WP cod Cal Q pc ls (.int x :: .ref a :: st) h := by
  subst hh
  obtain ⟨n, hn⟩ := kk
  have e := Nat.eq_of_beq_eq_true hf
  exact ⟨n + 1, _, hm, a, _, _, rfl, hO.1, hO.2.1, hO.2.2, Or.inr ⟨by show am_ft ci k < 2; omega, x, rfl, fun _ => hx, hn⟩⟩
theorem wp_putO {idx ci k a : Nat} (hm : (pc, Instr.putfield idx, len, ci, k, r3) ∈ cod) (hO : Ob h a ci) (hf : Nat.beq (am_ft ci k) 2 = true) {x : Option Nat} {h' : Hp} (hh : am_setR h a k x = h') (kk : WP cod Cal Q (pc + 3) ls st h') : WP cod Cal Q pc ls (va_rf x :: .ref a :: st) h := by
  subst hh
  obtain ⟨n, hn⟩ := kk
  exact ⟨n + 1, _, hm, a, _, _, rfl, hO.1, hO.2.1, hO.2.2, Or.inl ⟨Nat.eq_of_beq_eq_true hf, x, rfl, hn⟩⟩
theorem wp_putR {idx ci k a : Nat} (hm : (pc, Instr.putfield idx, len, ci, k, r3) ∈ cod) (hO : Ob h a ci) (hf : Nat.beq (am_ft ci k) 2 = true) {x : Nat} {h' : Hp} (hh : am_setR h a k (some x) = h') (kk : WP cod Cal Q (pc + 3) ls st h') : WP cod Cal Q pc ls (.ref x :: .ref a :: st) h := wp_putO (x := some x) hm hO hf hh kk
theorem wp_new {idx ci : Nat} (hm : (pc, Instr.new idx, len, ci, r2, r3) ∈ cod) {a : Nat} {h' : Hp} (ha : am_n h = a) (hh : am_new h ci 0 (am_N ci) = h') (kk : WP cod Cal Q (pc + 3) ls (.ref a :: st) h') : WP cod Cal Q pc ls st h := by
  subst ha; subst hh; obtain ⟨n, hn⟩ := kk; exact ⟨n + 1, _, hm, hn⟩
theorem wp_newarray {at1 : ArrayType} {kd : Nat} (hm : (pc, Instr.newarray at1, len, kd, r2, r3) ∈ cod) {k : Int32} {N a : Nat} {h' : Hp} (h0 : ¬ k < 0) (hN : k.toNatClampNeg = N) (hb : N ≤ 100000) (ha : am_n h = a) (hh : am_new h kd N N = h') (kk : WP cod Cal Q (pc + 2) ls (.ref a :: st) h') : WP cod Cal Q pc ls (.int k :: st) h := by
  subst ha; subst hN; subst hh; obtain ⟨n, hn⟩ := kk; exact ⟨n + 1, _, hm, k, _, rfl, h0, hb, hn⟩
theorem wp_anewarray {idx kd : Nat} (hm : (pc, Instr.anewarray idx, len, kd, r2, r3) ∈ cod) {k : Int32} {N a : Nat} {h' : Hp} (h0 : ¬ k < 0) (hN : k.toNatClampNeg = N) (hb : N ≤ 100000) (ha : am_n h = a) (hh : am_new h kd N N = h') (kk : WP cod Cal Q (pc + 3) ls (.ref a :: st) h') : WP cod Cal Q pc ls (.int k :: st) h := by
  subst ha; subst hN; subst hh; obtain ⟨n, hn⟩ := kk; exact ⟨n + 1, _, hm, k, _, rfl, h0, hb, hn⟩
theorem wp_iaload (hm : (pc, Instr.iaload, len, r1, r2, r3) ∈ cod) {a : Nat} {i v : Int32} (han : a < am_n h) (hk : am_k h a = 7) (hin : vp_in i (am_l h a)) (hv : am_i h a i.toNatClampNeg = v) (kk : WP cod Cal Q (pc + 1) ls (.int v :: st) h) : WP cod Cal Q pc ls (.int i :: .ref a :: st) h := by
  subst hv; obtain ⟨n, hn⟩ := kk; exact ⟨n + 1, _, hm, i, a, _, rfl, han, hk, hin, hn⟩
theorem wp_baload (hm : (pc, Instr.baload, len, r1, r2, r3) ∈ cod) {a : Nat} {i v : Int32} (hO : Ob h a 8) (hin : vp_in i (am_l h a)) (hv : am_i h a i.toNatClampNeg = v) (kk : WP cod Cal Q (pc + 1) ls (.int v :: st) h) : WP cod Cal Q pc ls (.int i :: .ref a :: st) h := by
  subst hv; obtain ⟨n, hn⟩ := kk; exact ⟨n + 1, _, hm, i, a, _, rfl, hO.1, hO.2.1, hO.2.2, hin, hn⟩
theorem wp_aaloadO (hm : (pc, Instr.aaload, len, r1, r2, r3) ∈ cod) {a K : Nat} {i : Int32} {v : Option Nat} (hO : Ob h a K) (h9 : Nat.ble 9 K = true) (h12 : Nat.ble K 12 = true) (hin : vp_in i (am_l h a)) (hv : am_r h a i.toNatClampNeg = v) (kk : WP cod Cal Q (pc + 1) ls (va_rf v :: st) h) : WP cod Cal Q pc ls (.int i :: .ref a :: st) h := by
  subst hv; obtain ⟨n, hn⟩ := kk
  obtain ⟨o1, o2, o3⟩ := hO
  subst o3
  exact ⟨n + 1, _, hm, i, a, _, rfl, o1, o2, Nat.le_of_ble_eq_true h9, Nat.le_of_ble_eq_true h12, hin, hn⟩
theorem wp_aaload (hm : (pc, Instr.aaload, len, r1, r2, r3) ∈ cod) {a K : Nat} {i : Int32} {v : Nat} (hO : Ob h a K) (h9 : Nat.ble 9 K = true) (h12 : Nat.ble K 12 = true) (hin : vp_in i (am_l h a)) (hv : am_r h a i.toNatClampNeg = some v) (kk : WP cod Cal Q (pc + 1) ls (.ref v :: st) h) : WP cod Cal Q pc ls (.int i :: .ref a :: st) h := wp_aaloadO hm hO h9 h12 hin hv kk
theorem wp_iastore (hm : (pc, Instr.iastore, len, r1, r2, r3) ∈ cod) {a : Nat} {i x : Int32} (hO : Ob h a 7) (hin : vp_in i (am_l h a)) {h' : Hp} (hh : am_setI h a i.toNatClampNeg x = h') (kk : WP cod Cal Q (pc + 1) ls st h') : WP cod Cal Q pc ls (.int x :: .int i :: .ref a :: st) h := by
  subst hh; obtain ⟨n, hn⟩ := kk; exact ⟨n + 1, _, hm, x, i, a, _, rfl, hO.1, hO.2.1, hO.2.2, hin, hn⟩
theorem wp_bastore (hm : (pc, Instr.bastore, len, r1, r2, r3) ∈ cod) {a : Nat} {i x : Int32} (hO : Ob h a 8) (hin : vp_in i (am_l h a)) (hx : x = 0 ∨ x = 1) {h' : Hp} (hh : am_setI h a i.toNatClampNeg x = h') (kk : WP cod Cal Q (pc + 1) ls st h') : WP cod Cal Q pc ls (.int x :: .int i :: .ref a :: st) h := by
  subst hh; obtain ⟨n, hn⟩ := kk; exact ⟨n + 1, _, hm, x, i, a, _, rfl, hO.1, hO.2.1, hO.2.2, hin, hx, hn⟩
theorem wp_aastore (hm : (pc, Instr.aastore, len, r1, r2, r3) ∈ cod) {a v K : Nat} {i : Int32} (hO : Ob h a K) (h9 : Nat.ble 9 K = true) (h12 : Nat.ble K 12 = true) (hV : Ob h v (am_el K)) (hin : vp_in i (am_l h a)) {h' : Hp} (hh : am_setR h a i.toNatClampNeg (some v) = h') (kk : WP cod Cal Q (pc + 1) ls st h') : WP cod Cal Q pc ls (.ref v :: .int i :: .ref a :: st) h := by
  subst hh; obtain ⟨n, hn⟩ := kk
  obtain ⟨o1, o2, o3⟩ := hO
  subst o3
  exact ⟨n + 1, _, hm, v, i, a, _, rfl, o1, o2, Nat.le_of_ble_eq_true h9, Nat.le_of_ble_eq_true h12, hV.1, hV.2.1, hV.2.2, hin, hn⟩
theorem wp_alen (hm : (pc, Instr.arraylength, len, r1, r2, r3) ∈ cod) {a : Nat} {v : Int32} (han : a < am_n h) (h7 : 7 ≤ am_k h a) (h12 : am_k h a ≤ 12) (hv : Int32.ofNat (am_l h a) = v) (kk : WP cod Cal Q (pc + 1) ls (.int v :: st) h) : WP cod Cal Q pc ls (.ref a :: st) h := by
  subst hv; obtain ⟨n, hn⟩ := kk; exact ⟨n + 1, _, hm, a, _, rfl, han, h7, h12, hn⟩
theorem wp_virt {idx y np : Nat} (hm : (pc, Instr.invokevirtual idx, len, y, np, r3) ∈ cod) (as : List Value) {a : Nat} {r : List Value} {rv : Option Value} {h' : Hp} (hst : st = as.reverse ++ .ref a :: r) (hn : Nat.beq as.length np = true) (h8 : Nat.ble (r.map fun v => v.category).sum 8 = true) (hO : Ob h a (am_own y)) (hcal : Cal y (.ref a :: as) h rv h') (kk : WP cod Cal Q (pc + 3) ls (rv.toList ++ r) h') : WP cod Cal Q pc ls st h := by
  obtain ⟨n, hn'⟩ := kk; exact ⟨n + 1, _, hm, as, a, r, rv, h', hst, Nat.eq_of_beq_eq_true hn, Nat.le_of_ble_eq_true h8, hO.1, hO.2.1, hO.2.2, hcal, hn'⟩
theorem wp_stat {idx y np : Nat} (hm : (pc, Instr.invokestatic idx, len, y, np, r3) ∈ cod) (as : List Value) {r : List Value} {rv : Option Value} {h' : Hp} (hy : Nat.blt y 119 = true) (hst : st = as.reverse ++ r) (hn : Nat.beq as.length np = true) (h8 : Nat.ble (r.map fun v => v.category).sum 8 = true) (hcal : Cal y as h rv h') (kk : WP cod Cal Q (pc + 3) ls (rv.toList ++ r) h') : WP cod Cal Q pc ls st h := by
  obtain ⟨n, hn'⟩ := kk; exact ⟨n + 1, _, hm, Or.inr (Or.inr (Or.inr ⟨Nat.le_of_ble_eq_true hy, as, r, rv, h', hst, Nat.eq_of_beq_eq_true hn, Nat.le_of_ble_eq_true h8, hcal, hn'⟩))⟩
theorem wp_abs {idx : Nat} (hm : (pc, Instr.invokestatic idx, len, 119, r2, r3) ∈ cod) {x : Int32} (h8 : Nat.ble (st.map fun v => v.category).sum 8 = true) (kk : WP cod Cal Q (pc + 3) ls (.int (if 0 ≤ x then x else 0 - x) :: st) h) : WP cod Cal Q pc ls (.int x :: st) h := by
  obtain ⟨n, hn'⟩ := kk; exact ⟨n + 1, _, hm, Or.inl ⟨rfl, x, _, rfl, Nat.le_of_ble_eq_true h8, hn'⟩⟩
theorem wp_max {idx : Nat} (hm : (pc, Instr.invokestatic idx, len, 120, r2, r3) ∈ cod) {x y : Int32} (h8 : Nat.ble (st.map fun v => v.category).sum 8 = true) (kk : WP cod Cal Q (pc + 3) ls (.int (if x < y then y else x) :: st) h) : WP cod Cal Q pc ls (.int y :: .int x :: st) h := by
  obtain ⟨n, hn'⟩ := kk; exact ⟨n + 1, _, hm, Or.inr (Or.inl ⟨rfl, x, y, _, rfl, Nat.le_of_ble_eq_true h8, hn'⟩)⟩
theorem wp_min {idx : Nat} (hm : (pc, Instr.invokestatic idx, len, 121, r2, r3) ∈ cod) {x y : Int32} (h8 : Nat.ble (st.map fun v => v.category).sum 8 = true) (kk : WP cod Cal Q (pc + 3) ls (.int (if y < x then y else x) :: st) h) : WP cod Cal Q pc ls (.int y :: .int x :: st) h := by
  obtain ⟨n, hn'⟩ := kk; exact ⟨n + 1, _, hm, Or.inr (Or.inr (Or.inl ⟨rfl, x, y, _, rfl, Nat.le_of_ble_eq_true h8, hn'⟩))⟩
theorem wp_spec {idx y np : Nat} (hm : (pc, Instr.invokespecial idx, len, y, np, r3) ∈ cod) (as : List Value) {a : Nat} {r : List Value} {rv : Option Value} {h' : Hp} (hy : Nat.blt y 119 = true) (hst : st = as.reverse ++ .ref a :: r) (hn : Nat.beq as.length np = true) (h8 : Nat.ble (r.map fun v => v.category).sum 8 = true) (hcal : Cal y (.ref a :: as) h rv h') (kk : WP cod Cal Q (pc + 3) ls (rv.toList ++ r) h') : WP cod Cal Q pc ls st h := by
  obtain ⟨n, hn'⟩ := kk; exact ⟨n + 1, _, hm, Or.inr ⟨by have h1 : y < 119 := Nat.le_of_ble_eq_true hy; show ¬ y = 999; omega, as, a, r, rv, h', hst, Nat.eq_of_beq_eq_true hn, Nat.le_of_ble_eq_true h8, hcal, hn'⟩⟩
theorem wp_obj {idx : Nat} (hm : (pc, Instr.invokespecial idx, len, 999, r2, r3) ∈ cod) {a : Nat} (h8 : Nat.ble (st.map fun v => v.category).sum 8 = true) (kk : WP cod Cal Q (pc + 3) ls st h) : WP cod Cal Q pc ls (.ref a :: st) h := by
  obtain ⟨n, hn'⟩ := kk; exact ⟨n + 1, _, hm, Or.inl ⟨rfl, a, _, rfl, Nat.le_of_ble_eq_true h8, hn'⟩⟩
theorem wp_iret (hm : (pc, Instr.ireturn, len, 0, r2, r3) ∈ cod) {x : Int32} (hq : Q (some (.int x)) h) : WP cod Cal Q pc ls [.int x] h := ⟨1, _, hm, x, rfl, fun z => (by cases z), hq⟩
theorem wp_zret (hm : (pc, Instr.ireturn, len, 1, r2, r3) ∈ cod) {x : Int32} (hx : x = 0 ∨ x = 1) (hq : Q (some (.int x)) h) : WP cod Cal Q pc ls [.int x] h := ⟨1, _, hm, x, rfl, fun _ => hx, hq⟩
theorem wp_aretO (hm : (pc, Instr.areturn, len, r1, r2, r3) ∈ cod) {x : Option Nat} (hq : Q (some (va_rf x)) h) : WP cod Cal Q pc ls [va_rf x] h := ⟨1, _, hm, x, rfl, hq⟩
theorem wp_aret (hm : (pc, Instr.areturn, len, r1, r2, r3) ∈ cod) {x : Nat} (hq : Q (some (.ref x)) h) : WP cod Cal Q pc ls [.ref x] h := ⟨1, _, hm, some x, rfl, hq⟩
theorem wp_vret (hm : (pc, Instr.return_, len, r1, r2, r3) ∈ cod) (hq : Q none h) : WP cod Cal Q pc ls [] h := ⟨1, _, hm, rfl, hq⟩
end WPR
theorem am_cats : ∀ (as : List Value), (as.all fun v => Nat.beq v.category 1) = true → ∀ v ∈ as, v.category = 1 := fun as h v hv => Nat.eq_of_beq_eq_true (List.all_eq_true.mp h v hv)
theorem Res_intro {d y : Nat} {M : am_M} {as : List Value} {h h' : Hp} {rv : Option Value} {ls : am_Ls} (hM : am_m y = M) (hy : Nat.blt y 119 = true) (hl : Nat.ble as.length M.2.2.1 = true) (hc : (as.all fun v => Nat.beq v.category 1) = true) (hls : as.map some ++ List.replicate (M.2.2.1 - as.length) none = ls) (k : WP M.2.2.2.2.2 (Res d) (fun r1 h1 => r1 = rv ∧ h1 = h') 0 ls [] h) : Res (d + 1) y as h rv h' := by
  subst hM; subst hls
  obtain ⟨n, hn⟩ := k
  exact ⟨Nat.le_of_ble_eq_true hy, n, Nat.le_of_ble_eq_true hl, am_cats as hc, hn⟩
end
section
theorem aX0_init : am_m nX0_init = mX0_init := rfl
theorem eX0_init_0 : (0, Instr.aload_n 0, 1, 0, 0, 0) ∈ kX0_init := List.mem_of_getElem? (i := 0) rfl
theorem eX0_init_1 : (1, Instr.invokespecial 3, 3, 999, 0, 67) ∈ kX0_init := List.mem_of_getElem? (i := 1) rfl
theorem eX0_init_4 : (4, Instr.aload_n 0, 1, 0, 0, 0) ∈ kX0_init := List.mem_of_getElem? (i := 2) rfl
theorem eX0_init_5 : (5, Instr.iconst 5, 1, 0, 0, 0) ∈ kX0_init := List.mem_of_getElem? (i := 3) rfl
theorem eX0_init_6 : (6, Instr.anewarray 9, 3, 10, 0, 68) ∈ kX0_init := List.mem_of_getElem? (i := 4) rfl
theorem eX0_init_9 : (9, Instr.putfield 11, 3, 0, 0, 69) ∈ kX0_init := List.mem_of_getElem? (i := 5) rfl
theorem eX0_init_12 : (12, Instr.aload_n 0, 1, 0, 0, 0) ∈ kX0_init := List.mem_of_getElem? (i := 6) rfl
theorem eX0_init_13 : (13, Instr.bipush 32, 2, 0, 0, 0) ∈ kX0_init := List.mem_of_getElem? (i := 7) rfl
theorem eX0_init_15 : (15, Instr.newarray .int, 2, 7, 0, 0) ∈ kX0_init := List.mem_of_getElem? (i := 8) rfl
theorem eX0_init_17 : (17, Instr.putfield 17, 3, 0, 1, 70) ∈ kX0_init := List.mem_of_getElem? (i := 9) rfl
theorem eX0_init_20 : (20, Instr.return_, 1, 0, 0, 0) ∈ kX0_init := List.mem_of_getElem? (i := 10) rfl
theorem aX0_clear : am_m nX0_clear = mX0_clear := rfl
theorem eX0_clear_0 : (0, Instr.aload_n 0, 1, 0, 0, 0) ∈ kX0_clear := List.mem_of_getElem? (i := 0) rfl
theorem eX0_clear_1 : (1, Instr.iconst 0, 1, 0, 0, 0) ∈ kX0_clear := List.mem_of_getElem? (i := 1) rfl
theorem eX0_clear_2 : (2, Instr.putfield 21, 3, 0, 2, 71) ∈ kX0_clear := List.mem_of_getElem? (i := 2) rfl
theorem eX0_clear_5 : (5, Instr.aload_n 0, 1, 0, 0, 0) ∈ kX0_clear := List.mem_of_getElem? (i := 3) rfl
theorem eX0_clear_6 : (6, Instr.getfield 17, 3, 0, 1, 70) ∈ kX0_clear := List.mem_of_getElem? (i := 4) rfl
theorem eX0_clear_9 : (9, Instr.iconst 0, 1, 0, 0, 0) ∈ kX0_clear := List.mem_of_getElem? (i := 5) rfl
theorem eX0_clear_10 : (10, Instr.iconst 0, 1, 0, 0, 0) ∈ kX0_clear := List.mem_of_getElem? (i := 6) rfl
theorem eX0_clear_11 : (11, Instr.iastore, 1, 0, 0, 0) ∈ kX0_clear := List.mem_of_getElem? (i := 7) rfl
theorem eX0_clear_12 : (12, Instr.iconst 1, 1, 0, 0, 0) ∈ kX0_clear := List.mem_of_getElem? (i := 8) rfl
theorem eX0_clear_13 : (13, Instr.istore_n 1, 1, 0, 0, 0) ∈ kX0_clear := List.mem_of_getElem? (i := 9) rfl
theorem eX0_clear_14 : (14, Instr.iload_n 1, 1, 0, 0, 0) ∈ kX0_clear := List.mem_of_getElem? (i := 10) rfl
theorem eX0_clear_15 : (15, Instr.aload_n 0, 1, 0, 0, 0) ∈ kX0_clear := List.mem_of_getElem? (i := 11) rfl
theorem eX0_clear_16 : (16, Instr.getfield 17, 3, 0, 1, 70) ∈ kX0_clear := List.mem_of_getElem? (i := 12) rfl
theorem eX0_clear_19 : (19, Instr.arraylength, 1, 0, 0, 0) ∈ kX0_clear := List.mem_of_getElem? (i := 13) rfl
theorem eX0_clear_20 : (20, Instr.if_icmp .ge 17, 3, 37, 0, 0) ∈ kX0_clear := List.mem_of_getElem? (i := 14) rfl
theorem eX0_clear_23 : (23, Instr.aload_n 0, 1, 0, 0, 0) ∈ kX0_clear := List.mem_of_getElem? (i := 15) rfl
theorem eX0_clear_24 : (24, Instr.getfield 17, 3, 0, 1, 70) ∈ kX0_clear := List.mem_of_getElem? (i := 16) rfl
theorem eX0_clear_27 : (27, Instr.iload_n 1, 1, 0, 0, 0) ∈ kX0_clear := List.mem_of_getElem? (i := 17) rfl
theorem eX0_clear_28 : (28, Instr.ldc 25, 2, 1000000, 0, 486) ∈ kX0_clear := List.mem_of_getElem? (i := 18) rfl
theorem eX0_clear_30 : (30, Instr.iastore, 1, 0, 0, 0) ∈ kX0_clear := List.mem_of_getElem? (i := 19) rfl
theorem eX0_clear_31 : (31, Instr.iinc 1 1, 3, 0, 0, 0) ∈ kX0_clear := List.mem_of_getElem? (i := 20) rfl
theorem eX0_clear_34 : (34, Instr.goto (-20), 3, 14, 0, 0) ∈ kX0_clear := List.mem_of_getElem? (i := 21) rfl
theorem eX0_clear_37 : (37, Instr.return_, 1, 0, 0, 0) ∈ kX0_clear := List.mem_of_getElem? (i := 22) rfl
theorem aX0_add : am_m nX0_add = mX0_add := rfl
theorem eX0_add_0 : (0, Instr.aload_n 0, 1, 0, 0, 0) ∈ kX0_add := List.mem_of_getElem? (i := 0) rfl
theorem eX0_add_1 : (1, Instr.getfield 21, 3, 0, 2, 71) ∈ kX0_add := List.mem_of_getElem? (i := 1) rfl
theorem eX0_add_4 : (4, Instr.iconst 5, 1, 0, 0, 0) ∈ kX0_add := List.mem_of_getElem? (i := 2) rfl
theorem eX0_add_5 : (5, Instr.if_icmp .lt 5, 3, 10, 0, 0) ∈ kX0_add := List.mem_of_getElem? (i := 3) rfl
theorem eX0_add_8 : (8, Instr.iconst 0, 1, 0, 0, 0) ∈ kX0_add := List.mem_of_getElem? (i := 4) rfl
theorem eX0_add_9 : (9, Instr.ireturn, 1, 1, 0, 0) ∈ kX0_add := List.mem_of_getElem? (i := 5) rfl
theorem eX0_add_10 : (10, Instr.aload_n 0, 1, 0, 0, 0) ∈ kX0_add := List.mem_of_getElem? (i := 6) rfl
theorem eX0_add_11 : (11, Instr.getfield 11, 3, 0, 0, 69) ∈ kX0_add := List.mem_of_getElem? (i := 7) rfl
theorem eX0_add_14 : (14, Instr.aload_n 0, 1, 0, 0, 0) ∈ kX0_add := List.mem_of_getElem? (i := 8) rfl
theorem eX0_add_15 : (15, Instr.getfield 21, 3, 0, 2, 71) ∈ kX0_add := List.mem_of_getElem? (i := 9) rfl
theorem eX0_add_18 : (18, Instr.aload_n 1, 1, 0, 0, 0) ∈ kX0_add := List.mem_of_getElem? (i := 10) rfl
theorem eX0_add_19 : (19, Instr.aastore, 1, 0, 0, 0) ∈ kX0_add := List.mem_of_getElem? (i := 11) rfl
theorem eX0_add_20 : (20, Instr.aload_n 0, 1, 0, 0, 0) ∈ kX0_add := List.mem_of_getElem? (i := 12) rfl
theorem eX0_add_21 : (21, Instr.dup, 1, 0, 0, 0) ∈ kX0_add := List.mem_of_getElem? (i := 13) rfl
theorem eX0_add_22 : (22, Instr.getfield 21, 3, 0, 2, 71) ∈ kX0_add := List.mem_of_getElem? (i := 14) rfl
theorem eX0_add_25 : (25, Instr.iconst 1, 1, 0, 0, 0) ∈ kX0_add := List.mem_of_getElem? (i := 15) rfl
theorem eX0_add_26 : (26, Instr.iadd, 1, 0, 0, 0) ∈ kX0_add := List.mem_of_getElem? (i := 16) rfl
theorem eX0_add_27 : (27, Instr.putfield 21, 3, 0, 2, 71) ∈ kX0_add := List.mem_of_getElem? (i := 17) rfl
theorem eX0_add_30 : (30, Instr.iconst 1, 1, 0, 0, 0) ∈ kX0_add := List.mem_of_getElem? (i := 18) rfl
theorem eX0_add_31 : (31, Instr.ireturn, 1, 1, 0, 0) ∈ kX0_add := List.mem_of_getElem? (i := 19) rfl
theorem aX0_offer : am_m nX0_offer = mX0_offer := rfl
theorem eX0_offer_0 : (0, Instr.aload_n 0, 1, 0, 0, 0) ∈ kX0_offer := List.mem_of_getElem? (i := 0) rfl
theorem eX0_offer_1 : (1, Instr.invokevirtual 26, 3, 5, 0, 495) ∈ kX0_offer := List.mem_of_getElem? (i := 1) rfl
theorem eX0_offer_4 : (4, Instr.istore_n 3, 1, 0, 0, 0) ∈ kX0_offer := List.mem_of_getElem? (i := 2) rfl
theorem eX0_offer_5 : (5, Instr.iload_n 3, 1, 0, 0, 0) ∈ kX0_offer := List.mem_of_getElem? (i := 3) rfl
theorem eX0_offer_6 : (6, Instr.ifCond .le 70, 3, 76, 0, 0) ∈ kX0_offer := List.mem_of_getElem? (i := 4) rfl
theorem eX0_offer_9 : (9, Instr.iconst 1, 1, 0, 0, 0) ∈ kX0_offer := List.mem_of_getElem? (i := 5) rfl
theorem eX0_offer_10 : (10, Instr.istore 4, 2, 0, 0, 0) ∈ kX0_offer := List.mem_of_getElem? (i := 6) rfl
theorem eX0_offer_12 : (12, Instr.iload 4, 2, 0, 0, 0) ∈ kX0_offer := List.mem_of_getElem? (i := 7) rfl
theorem eX0_offer_14 : (14, Instr.iload_n 3, 1, 0, 0, 0) ∈ kX0_offer := List.mem_of_getElem? (i := 8) rfl
theorem eX0_offer_15 : (15, Instr.if_icmp .gt 55, 3, 70, 0, 0) ∈ kX0_offer := List.mem_of_getElem? (i := 9) rfl
theorem eX0_offer_18 : (18, Instr.iload 4, 2, 0, 0, 0) ∈ kX0_offer := List.mem_of_getElem? (i := 10) rfl
theorem eX0_offer_20 : (20, Instr.iload_n 3, 1, 0, 0, 0) ∈ kX0_offer := List.mem_of_getElem? (i := 11) rfl
theorem eX0_offer_21 : (21, Instr.iand, 1, 0, 0, 0) ∈ kX0_offer := List.mem_of_getElem? (i := 12) rfl
theorem eX0_offer_22 : (22, Instr.iload 4, 2, 0, 0, 0) ∈ kX0_offer := List.mem_of_getElem? (i := 13) rfl
theorem eX0_offer_24 : (24, Instr.if_icmp .ne 40, 3, 64, 0, 0) ∈ kX0_offer := List.mem_of_getElem? (i := 14) rfl
theorem eX0_offer_27 : (27, Instr.aload_n 0, 1, 0, 0, 0) ∈ kX0_offer := List.mem_of_getElem? (i := 15) rfl
theorem eX0_offer_28 : (28, Instr.getfield 17, 3, 0, 1, 70) ∈ kX0_offer := List.mem_of_getElem? (i := 16) rfl
theorem eX0_offer_31 : (31, Instr.iload_n 3, 1, 0, 0, 0) ∈ kX0_offer := List.mem_of_getElem? (i := 17) rfl
theorem eX0_offer_32 : (32, Instr.iload 4, 2, 0, 0, 0) ∈ kX0_offer := List.mem_of_getElem? (i := 18) rfl
theorem eX0_offer_34 : (34, Instr.isub, 1, 0, 0, 0) ∈ kX0_offer := List.mem_of_getElem? (i := 19) rfl
theorem eX0_offer_35 : (35, Instr.iaload, 1, 0, 0, 0) ∈ kX0_offer := List.mem_of_getElem? (i := 20) rfl
theorem eX0_offer_36 : (36, Instr.aload_n 0, 1, 0, 0, 0) ∈ kX0_offer := List.mem_of_getElem? (i := 21) rfl
theorem eX0_offer_37 : (37, Instr.iload 4, 2, 0, 0, 0) ∈ kX0_offer := List.mem_of_getElem? (i := 22) rfl
theorem eX0_offer_39 : (39, Instr.aload_n 1, 1, 0, 0, 0) ∈ kX0_offer := List.mem_of_getElem? (i := 23) rfl
theorem eX0_offer_40 : (40, Instr.iload_n 2, 1, 0, 0, 0) ∈ kX0_offer := List.mem_of_getElem? (i := 24) rfl
theorem eX0_offer_41 : (41, Instr.invokevirtual 30, 3, 6, 3, 499) ∈ kX0_offer := List.mem_of_getElem? (i := 25) rfl
theorem eX0_offer_44 : (44, Instr.iadd, 1, 0, 0, 0) ∈ kX0_offer := List.mem_of_getElem? (i := 26) rfl
theorem eX0_offer_45 : (45, Instr.istore 5, 2, 0, 0, 0) ∈ kX0_offer := List.mem_of_getElem? (i := 27) rfl
theorem eX0_offer_47 : (47, Instr.aload_n 0, 1, 0, 0, 0) ∈ kX0_offer := List.mem_of_getElem? (i := 28) rfl
theorem eX0_offer_48 : (48, Instr.getfield 17, 3, 0, 1, 70) ∈ kX0_offer := List.mem_of_getElem? (i := 29) rfl
theorem eX0_offer_51 : (51, Instr.iload_n 3, 1, 0, 0, 0) ∈ kX0_offer := List.mem_of_getElem? (i := 30) rfl
theorem eX0_offer_52 : (52, Instr.aload_n 0, 1, 0, 0, 0) ∈ kX0_offer := List.mem_of_getElem? (i := 31) rfl
theorem eX0_offer_53 : (53, Instr.getfield 17, 3, 0, 1, 70) ∈ kX0_offer := List.mem_of_getElem? (i := 32) rfl
theorem eX0_offer_56 : (56, Instr.iload_n 3, 1, 0, 0, 0) ∈ kX0_offer := List.mem_of_getElem? (i := 33) rfl
theorem eX0_offer_57 : (57, Instr.iaload, 1, 0, 0, 0) ∈ kX0_offer := List.mem_of_getElem? (i := 34) rfl
theorem eX0_offer_58 : (58, Instr.iload 5, 2, 0, 0, 0) ∈ kX0_offer := List.mem_of_getElem? (i := 35) rfl
theorem eX0_offer_60 : (60, Instr.invokestatic 34, 3, 121, 2, 505) ∈ kX0_offer := List.mem_of_getElem? (i := 36) rfl
theorem eX0_offer_63 : (63, Instr.iastore, 1, 0, 0, 0) ∈ kX0_offer := List.mem_of_getElem? (i := 37) rfl
theorem eX0_offer_64 : (64, Instr.iinc 4 1, 3, 0, 0, 0) ∈ kX0_offer := List.mem_of_getElem? (i := 38) rfl
theorem eX0_offer_67 : (67, Instr.goto (-55), 3, 12, 0, 0) ∈ kX0_offer := List.mem_of_getElem? (i := 39) rfl
theorem eX0_offer_70 : (70, Instr.iinc 3 (-1), 3, 0, 0, 0) ∈ kX0_offer := List.mem_of_getElem? (i := 40) rfl
theorem eX0_offer_73 : (73, Instr.goto (-68), 3, 5, 0, 0) ∈ kX0_offer := List.mem_of_getElem? (i := 41) rfl
theorem eX0_offer_76 : (76, Instr.return_, 1, 0, 0, 0) ∈ kX0_offer := List.mem_of_getElem? (i := 42) rfl
theorem aX0_leastSum : am_m nX0_leastSum = mX0_leastSum := rfl
theorem eX0_leastSum_0 : (0, Instr.aload_n 0, 1, 0, 0, 0) ∈ kX0_leastSum := List.mem_of_getElem? (i := 0) rfl
theorem eX0_leastSum_1 : (1, Instr.getfield 17, 3, 0, 1, 70) ∈ kX0_leastSum := List.mem_of_getElem? (i := 1) rfl
theorem eX0_leastSum_4 : (4, Instr.aload_n 0, 1, 0, 0, 0) ∈ kX0_leastSum := List.mem_of_getElem? (i := 2) rfl
theorem eX0_leastSum_5 : (5, Instr.invokevirtual 26, 3, 5, 0, 495) ∈ kX0_leastSum := List.mem_of_getElem? (i := 3) rfl
theorem eX0_leastSum_8 : (8, Instr.iaload, 1, 0, 0, 0) ∈ kX0_leastSum := List.mem_of_getElem? (i := 4) rfl
theorem eX0_leastSum_9 : (9, Instr.ireturn, 1, 0, 0, 0) ∈ kX0_leastSum := List.mem_of_getElem? (i := 5) rfl
theorem aX0_fullSet : am_m nX0_fullSet = mX0_fullSet := rfl
theorem eX0_fullSet_0 : (0, Instr.iconst 1, 1, 0, 0, 0) ∈ kX0_fullSet := List.mem_of_getElem? (i := 0) rfl
theorem eX0_fullSet_1 : (1, Instr.aload_n 0, 1, 0, 0, 0) ∈ kX0_fullSet := List.mem_of_getElem? (i := 1) rfl
theorem eX0_fullSet_2 : (2, Instr.getfield 21, 3, 0, 2, 71) ∈ kX0_fullSet := List.mem_of_getElem? (i := 2) rfl
theorem eX0_fullSet_5 : (5, Instr.ishl, 1, 0, 0, 0) ∈ kX0_fullSet := List.mem_of_getElem? (i := 3) rfl
theorem eX0_fullSet_6 : (6, Instr.iconst 1, 1, 0, 0, 0) ∈ kX0_fullSet := List.mem_of_getElem? (i := 4) rfl
theorem eX0_fullSet_7 : (7, Instr.isub, 1, 0, 0, 0) ∈ kX0_fullSet := List.mem_of_getElem? (i := 5) rfl
theorem eX0_fullSet_8 : (8, Instr.ireturn, 1, 0, 0, 0) ∈ kX0_fullSet := List.mem_of_getElem? (i := 6) rfl
theorem aX0_partSum : am_m nX0_partSum = mX0_partSum := rfl
theorem eX0_partSum_0 : (0, Instr.iconst 0, 1, 0, 0, 0) ∈ kX0_partSum := List.mem_of_getElem? (i := 0) rfl
theorem eX0_partSum_1 : (1, Instr.istore 4, 2, 0, 0, 0) ∈ kX0_partSum := List.mem_of_getElem? (i := 1) rfl
theorem eX0_partSum_3 : (3, Instr.aload_n 2, 1, 0, 0, 0) ∈ kX0_partSum := List.mem_of_getElem? (i := 2) rfl
theorem eX0_partSum_4 : (4, Instr.getfield 40, 3, 3, 1, 195) ∈ kX0_partSum := List.mem_of_getElem? (i := 3) rfl
theorem eX0_partSum_7 : (7, Instr.istore 5, 2, 0, 0, 0) ∈ kX0_partSum := List.mem_of_getElem? (i := 4) rfl
theorem eX0_partSum_9 : (9, Instr.iconst 0, 1, 0, 0, 0) ∈ kX0_partSum := List.mem_of_getElem? (i := 5) rfl
theorem eX0_partSum_10 : (10, Instr.istore 6, 2, 0, 0, 0) ∈ kX0_partSum := List.mem_of_getElem? (i := 6) rfl
theorem eX0_partSum_12 : (12, Instr.iload 6, 2, 0, 0, 0) ∈ kX0_partSum := List.mem_of_getElem? (i := 7) rfl
theorem eX0_partSum_14 : (14, Instr.aload_n 0, 1, 0, 0, 0) ∈ kX0_partSum := List.mem_of_getElem? (i := 8) rfl
theorem eX0_partSum_15 : (15, Instr.getfield 21, 3, 0, 2, 71) ∈ kX0_partSum := List.mem_of_getElem? (i := 9) rfl
theorem eX0_partSum_18 : (18, Instr.if_icmp .ge 74, 3, 92, 0, 0) ∈ kX0_partSum := List.mem_of_getElem? (i := 10) rfl
theorem eX0_partSum_21 : (21, Instr.aload_n 0, 1, 0, 0, 0) ∈ kX0_partSum := List.mem_of_getElem? (i := 11) rfl
theorem eX0_partSum_22 : (22, Instr.getfield 11, 3, 0, 0, 69) ∈ kX0_partSum := List.mem_of_getElem? (i := 12) rfl
theorem eX0_partSum_25 : (25, Instr.iload 6, 2, 0, 0, 0) ∈ kX0_partSum := List.mem_of_getElem? (i := 13) rfl
theorem eX0_partSum_27 : (27, Instr.aaload, 1, 0, 0, 0) ∈ kX0_partSum := List.mem_of_getElem? (i := 14) rfl
theorem eX0_partSum_28 : (28, Instr.astore 7, 2, 0, 0, 0) ∈ kX0_partSum := List.mem_of_getElem? (i := 15) rfl
theorem eX0_partSum_30 : (30, Instr.iload_n 1, 1, 0, 0, 0) ∈ kX0_partSum := List.mem_of_getElem? (i := 16) rfl
theorem eX0_partSum_31 : (31, Instr.iload 6, 2, 0, 0, 0) ∈ kX0_partSum := List.mem_of_getElem? (i := 17) rfl
theorem eX0_partSum_33 : (33, Instr.ishr, 1, 0, 0, 0) ∈ kX0_partSum := List.mem_of_getElem? (i := 18) rfl
theorem eX0_partSum_34 : (34, Instr.iconst 1, 1, 0, 0, 0) ∈ kX0_partSum := List.mem_of_getElem? (i := 19) rfl
theorem eX0_partSum_35 : (35, Instr.iand, 1, 0, 0, 0) ∈ kX0_partSum := List.mem_of_getElem? (i := 20) rfl
theorem eX0_partSum_36 : (36, Instr.ifCond .eq 50, 3, 86, 0, 0) ∈ kX0_partSum := List.mem_of_getElem? (i := 21) rfl
theorem eX0_partSum_39 : (39, Instr.aload 7, 2, 0, 0, 0) ∈ kX0_partSum := List.mem_of_getElem? (i := 22) rfl
theorem eX0_partSum_41 : (41, Instr.ifnonnull 6, 3, 47, 0, 0) ∈ kX0_partSum := List.mem_of_getElem? (i := 23) rfl
theorem eX0_partSum_44 : (44, Instr.goto 42, 3, 86, 0, 0) ∈ kX0_partSum := List.mem_of_getElem? (i := 24) rfl
theorem eX0_partSum_47 : (47, Instr.iload 5, 2, 0, 0, 0) ∈ kX0_partSum := List.mem_of_getElem? (i := 25) rfl
theorem eX0_partSum_49 : (49, Instr.aload 7, 2, 0, 0, 0) ∈ kX0_partSum := List.mem_of_getElem? (i := 26) rfl
theorem eX0_partSum_51 : (51, Instr.getfield 45, 3, 4, 0, 245) ∈ kX0_partSum := List.mem_of_getElem? (i := 27) rfl
theorem eX0_partSum_54 : (54, Instr.isub, 1, 0, 0, 0) ∈ kX0_partSum := List.mem_of_getElem? (i := 28) rfl
theorem eX0_partSum_55 : (55, Instr.istore 5, 2, 0, 0, 0) ∈ kX0_partSum := List.mem_of_getElem? (i := 29) rfl
theorem eX0_partSum_57 : (57, Instr.iload 5, 2, 0, 0, 0) ∈ kX0_partSum := List.mem_of_getElem? (i := 30) rfl
theorem eX0_partSum_59 : (59, Instr.ifCond .lt 12, 3, 71, 0, 0) ∈ kX0_partSum := List.mem_of_getElem? (i := 31) rfl
theorem eX0_partSum_62 : (62, Instr.aload_n 2, 1, 0, 0, 0) ∈ kX0_partSum := List.mem_of_getElem? (i := 32) rfl
theorem eX0_partSum_63 : (63, Instr.aload 7, 2, 0, 0, 0) ∈ kX0_partSum := List.mem_of_getElem? (i := 33) rfl
theorem eX0_partSum_65 : (65, Instr.invokevirtual 46, 3, 13, 1, 503) ∈ kX0_partSum := List.mem_of_getElem? (i := 34) rfl
theorem eX0_partSum_68 : (68, Instr.ifCond .ne 6, 3, 74, 0, 0) ∈ kX0_partSum := List.mem_of_getElem? (i := 35) rfl
theorem eX0_partSum_71 : (71, Instr.ldc 25, 2, 1000000, 0, 486) ∈ kX0_partSum := List.mem_of_getElem? (i := 36) rfl
theorem eX0_partSum_73 : (73, Instr.ireturn, 1, 0, 0, 0) ∈ kX0_partSum := List.mem_of_getElem? (i := 37) rfl
theorem eX0_partSum_74 : (74, Instr.iload 4, 2, 0, 0, 0) ∈ kX0_partSum := List.mem_of_getElem? (i := 38) rfl
theorem eX0_partSum_76 : (76, Instr.aload 7, 2, 0, 0, 0) ∈ kX0_partSum := List.mem_of_getElem? (i := 39) rfl
theorem eX0_partSum_78 : (78, Instr.aload_n 2, 1, 0, 0, 0) ∈ kX0_partSum := List.mem_of_getElem? (i := 40) rfl
theorem eX0_partSum_79 : (79, Instr.iload_n 3, 1, 0, 0, 0) ∈ kX0_partSum := List.mem_of_getElem? (i := 41) rfl
theorem eX0_partSum_80 : (80, Instr.invokevirtual 50, 3, 21, 2, 504) ∈ kX0_partSum := List.mem_of_getElem? (i := 42) rfl
theorem eX0_partSum_83 : (83, Instr.iadd, 1, 0, 0, 0) ∈ kX0_partSum := List.mem_of_getElem? (i := 43) rfl
theorem eX0_partSum_84 : (84, Instr.istore 4, 2, 0, 0, 0) ∈ kX0_partSum := List.mem_of_getElem? (i := 44) rfl
theorem eX0_partSum_86 : (86, Instr.iinc 6 1, 3, 0, 0, 0) ∈ kX0_partSum := List.mem_of_getElem? (i := 45) rfl
theorem eX0_partSum_89 : (89, Instr.goto (-77), 3, 12, 0, 0) ∈ kX0_partSum := List.mem_of_getElem? (i := 46) rfl
theorem eX0_partSum_92 : (92, Instr.iload 4, 2, 0, 0, 0) ∈ kX0_partSum := List.mem_of_getElem? (i := 47) rfl
theorem eX0_partSum_94 : (94, Instr.ireturn, 1, 0, 0, 0) ∈ kX0_partSum := List.mem_of_getElem? (i := 48) rfl
theorem aX1_init : am_m nX1_init = mX1_init := rfl
theorem eX1_init_0 : (0, Instr.aload_n 0, 1, 0, 0, 0) ∈ kX1_init := List.mem_of_getElem? (i := 0) rfl
theorem eX1_init_1 : (1, Instr.invokespecial 3, 3, 999, 0, 390) ∈ kX1_init := List.mem_of_getElem? (i := 1) rfl
theorem eX1_init_4 : (4, Instr.aload_n 0, 1, 0, 0, 0) ∈ kX1_init := List.mem_of_getElem? (i := 2) rfl
theorem eX1_init_5 : (5, Instr.iconst 4, 1, 0, 0, 0) ∈ kX1_init := List.mem_of_getElem? (i := 3) rfl
theorem eX1_init_6 : (6, Instr.newarray .int, 2, 7, 0, 0) ∈ kX1_init := List.mem_of_getElem? (i := 4) rfl
theorem eX1_init_8 : (8, Instr.putfield 9, 3, 1, 0, 391) ∈ kX1_init := List.mem_of_getElem? (i := 5) rfl
theorem eX1_init_11 : (11, Instr.iconst 0, 1, 0, 0, 0) ∈ kX1_init := List.mem_of_getElem? (i := 6) rfl
theorem eX1_init_12 : (12, Instr.istore_n 1, 1, 0, 0, 0) ∈ kX1_init := List.mem_of_getElem? (i := 7) rfl
theorem eX1_init_13 : (13, Instr.iload_n 1, 1, 0, 0, 0) ∈ kX1_init := List.mem_of_getElem? (i := 8) rfl
theorem eX1_init_14 : (14, Instr.iconst 4, 1, 0, 0, 0) ∈ kX1_init := List.mem_of_getElem? (i := 9) rfl
theorem eX1_init_15 : (15, Instr.if_icmp .ge 16, 3, 31, 0, 0) ∈ kX1_init := List.mem_of_getElem? (i := 10) rfl
theorem eX1_init_18 : (18, Instr.aload_n 0, 1, 0, 0, 0) ∈ kX1_init := List.mem_of_getElem? (i := 11) rfl
theorem eX1_init_19 : (19, Instr.getfield 9, 3, 1, 0, 391) ∈ kX1_init := List.mem_of_getElem? (i := 12) rfl
theorem eX1_init_22 : (22, Instr.iload_n 1, 1, 0, 0, 0) ∈ kX1_init := List.mem_of_getElem? (i := 13) rfl
theorem eX1_init_23 : (23, Instr.iconst (-1), 1, 0, 0, 0) ∈ kX1_init := List.mem_of_getElem? (i := 14) rfl
theorem eX1_init_24 : (24, Instr.iastore, 1, 0, 0, 0) ∈ kX1_init := List.mem_of_getElem? (i := 15) rfl
theorem eX1_init_25 : (25, Instr.iinc 1 1, 3, 0, 0, 0) ∈ kX1_init := List.mem_of_getElem? (i := 16) rfl
theorem eX1_init_28 : (28, Instr.goto (-15), 3, 13, 0, 0) ∈ kX1_init := List.mem_of_getElem? (i := 17) rfl
theorem eX1_init_31 : (31, Instr.aload_n 0, 1, 0, 0, 0) ∈ kX1_init := List.mem_of_getElem? (i := 18) rfl
theorem eX1_init_32 : (32, Instr.iconst (-1), 1, 0, 0, 0) ∈ kX1_init := List.mem_of_getElem? (i := 19) rfl
theorem eX1_init_33 : (33, Instr.putfield 15, 3, 1, 2, 394) ∈ kX1_init := List.mem_of_getElem? (i := 20) rfl
theorem eX1_init_36 : (36, Instr.return_, 1, 0, 0, 0) ∈ kX1_init := List.mem_of_getElem? (i := 21) rfl
theorem aX1_toldCount : am_m nX1_toldCount = mX1_toldCount := rfl
theorem eX1_toldCount_0 : (0, Instr.iconst 0, 1, 0, 0, 0) ∈ kX1_toldCount := List.mem_of_getElem? (i := 0) rfl
theorem eX1_toldCount_1 : (1, Instr.istore_n 1, 1, 0, 0, 0) ∈ kX1_toldCount := List.mem_of_getElem? (i := 1) rfl
theorem eX1_toldCount_2 : (2, Instr.iconst 0, 1, 0, 0, 0) ∈ kX1_toldCount := List.mem_of_getElem? (i := 2) rfl
theorem eX1_toldCount_3 : (3, Instr.istore_n 2, 1, 0, 0, 0) ∈ kX1_toldCount := List.mem_of_getElem? (i := 3) rfl
theorem eX1_toldCount_4 : (4, Instr.iload_n 2, 1, 0, 0, 0) ∈ kX1_toldCount := List.mem_of_getElem? (i := 4) rfl
theorem eX1_toldCount_5 : (5, Instr.iconst 4, 1, 0, 0, 0) ∈ kX1_toldCount := List.mem_of_getElem? (i := 5) rfl
theorem eX1_toldCount_6 : (6, Instr.if_icmp .ge 22, 3, 28, 0, 0) ∈ kX1_toldCount := List.mem_of_getElem? (i := 6) rfl
theorem eX1_toldCount_9 : (9, Instr.aload_n 0, 1, 0, 0, 0) ∈ kX1_toldCount := List.mem_of_getElem? (i := 7) rfl
theorem eX1_toldCount_10 : (10, Instr.getfield 9, 3, 1, 0, 391) ∈ kX1_toldCount := List.mem_of_getElem? (i := 8) rfl
theorem eX1_toldCount_13 : (13, Instr.iload_n 2, 1, 0, 0, 0) ∈ kX1_toldCount := List.mem_of_getElem? (i := 9) rfl
theorem eX1_toldCount_14 : (14, Instr.iaload, 1, 0, 0, 0) ∈ kX1_toldCount := List.mem_of_getElem? (i := 10) rfl
theorem eX1_toldCount_15 : (15, Instr.iconst (-1), 1, 0, 0, 0) ∈ kX1_toldCount := List.mem_of_getElem? (i := 11) rfl
theorem eX1_toldCount_16 : (16, Instr.if_icmp .eq 6, 3, 22, 0, 0) ∈ kX1_toldCount := List.mem_of_getElem? (i := 12) rfl
theorem eX1_toldCount_19 : (19, Instr.iinc 1 1, 3, 0, 0, 0) ∈ kX1_toldCount := List.mem_of_getElem? (i := 13) rfl
theorem eX1_toldCount_22 : (22, Instr.iinc 2 1, 3, 0, 0, 0) ∈ kX1_toldCount := List.mem_of_getElem? (i := 14) rfl
theorem eX1_toldCount_25 : (25, Instr.goto (-21), 3, 4, 0, 0) ∈ kX1_toldCount := List.mem_of_getElem? (i := 15) rfl
theorem eX1_toldCount_28 : (28, Instr.iload_n 1, 1, 0, 0, 0) ∈ kX1_toldCount := List.mem_of_getElem? (i := 16) rfl
theorem eX1_toldCount_29 : (29, Instr.ireturn, 1, 0, 0, 0) ∈ kX1_toldCount := List.mem_of_getElem? (i := 17) rfl
theorem aX1_isAbout : am_m nX1_isAbout = mX1_isAbout := rfl
theorem eX1_isAbout_0 : (0, Instr.aload_n 1, 1, 0, 0, 0) ∈ kX1_isAbout := List.mem_of_getElem? (i := 0) rfl
theorem eX1_isAbout_1 : (1, Instr.getfield 19, 3, 4, 7, 263) ∈ kX1_isAbout := List.mem_of_getElem? (i := 1) rfl
theorem eX1_isAbout_4 : (4, Instr.ifCond .eq 5, 3, 9, 0, 0) ∈ kX1_isAbout := List.mem_of_getElem? (i := 2) rfl
theorem eX1_isAbout_7 : (7, Instr.iconst 0, 1, 0, 0, 0) ∈ kX1_isAbout := List.mem_of_getElem? (i := 3) rfl
theorem eX1_isAbout_8 : (8, Instr.ireturn, 1, 1, 0, 0) ∈ kX1_isAbout := List.mem_of_getElem? (i := 4) rfl
theorem eX1_isAbout_9 : (9, Instr.iconst 0, 1, 0, 0, 0) ∈ kX1_isAbout := List.mem_of_getElem? (i := 5) rfl
theorem eX1_isAbout_10 : (10, Instr.istore_n 2, 1, 0, 0, 0) ∈ kX1_isAbout := List.mem_of_getElem? (i := 6) rfl
theorem eX1_isAbout_11 : (11, Instr.iload_n 2, 1, 0, 0, 0) ∈ kX1_isAbout := List.mem_of_getElem? (i := 7) rfl
theorem eX1_isAbout_12 : (12, Instr.iconst 4, 1, 0, 0, 0) ∈ kX1_isAbout := List.mem_of_getElem? (i := 8) rfl
theorem eX1_isAbout_13 : (13, Instr.if_icmp .ge 35, 3, 48, 0, 0) ∈ kX1_isAbout := List.mem_of_getElem? (i := 9) rfl
theorem eX1_isAbout_16 : (16, Instr.aload_n 0, 1, 0, 0, 0) ∈ kX1_isAbout := List.mem_of_getElem? (i := 10) rfl
theorem eX1_isAbout_17 : (17, Instr.getfield 9, 3, 1, 0, 391) ∈ kX1_isAbout := List.mem_of_getElem? (i := 11) rfl
theorem eX1_isAbout_20 : (20, Instr.iload_n 2, 1, 0, 0, 0) ∈ kX1_isAbout := List.mem_of_getElem? (i := 12) rfl
theorem eX1_isAbout_21 : (21, Instr.iaload, 1, 0, 0, 0) ∈ kX1_isAbout := List.mem_of_getElem? (i := 13) rfl
theorem eX1_isAbout_22 : (22, Instr.iconst (-1), 1, 0, 0, 0) ∈ kX1_isAbout := List.mem_of_getElem? (i := 14) rfl
theorem eX1_isAbout_23 : (23, Instr.if_icmp .eq 19, 3, 42, 0, 0) ∈ kX1_isAbout := List.mem_of_getElem? (i := 15) rfl
theorem eX1_isAbout_26 : (26, Instr.aload_n 0, 1, 0, 0, 0) ∈ kX1_isAbout := List.mem_of_getElem? (i := 16) rfl
theorem eX1_isAbout_27 : (27, Instr.getfield 9, 3, 1, 0, 391) ∈ kX1_isAbout := List.mem_of_getElem? (i := 17) rfl
theorem eX1_isAbout_30 : (30, Instr.iload_n 2, 1, 0, 0, 0) ∈ kX1_isAbout := List.mem_of_getElem? (i := 18) rfl
theorem eX1_isAbout_31 : (31, Instr.iaload, 1, 0, 0, 0) ∈ kX1_isAbout := List.mem_of_getElem? (i := 19) rfl
theorem eX1_isAbout_32 : (32, Instr.aload_n 1, 1, 0, 0, 0) ∈ kX1_isAbout := List.mem_of_getElem? (i := 20) rfl
theorem eX1_isAbout_33 : (33, Instr.iload_n 2, 1, 0, 0, 0) ∈ kX1_isAbout := List.mem_of_getElem? (i := 21) rfl
theorem eX1_isAbout_34 : (34, Instr.invokevirtual 24, 3, 19, 1, 419) ∈ kX1_isAbout := List.mem_of_getElem? (i := 22) rfl
theorem eX1_isAbout_37 : (37, Instr.if_icmp .eq 5, 3, 42, 0, 0) ∈ kX1_isAbout := List.mem_of_getElem? (i := 23) rfl
theorem eX1_isAbout_40 : (40, Instr.iconst 0, 1, 0, 0, 0) ∈ kX1_isAbout := List.mem_of_getElem? (i := 24) rfl
theorem eX1_isAbout_41 : (41, Instr.ireturn, 1, 1, 0, 0) ∈ kX1_isAbout := List.mem_of_getElem? (i := 25) rfl
theorem eX1_isAbout_42 : (42, Instr.iinc 2 1, 3, 0, 0, 0) ∈ kX1_isAbout := List.mem_of_getElem? (i := 26) rfl
theorem eX1_isAbout_45 : (45, Instr.goto (-34), 3, 11, 0, 0) ∈ kX1_isAbout := List.mem_of_getElem? (i := 27) rfl
theorem eX1_isAbout_48 : (48, Instr.iconst 1, 1, 0, 0, 0) ∈ kX1_isAbout := List.mem_of_getElem? (i := 28) rfl
theorem eX1_isAbout_49 : (49, Instr.ireturn, 1, 1, 0, 0) ∈ kX1_isAbout := List.mem_of_getElem? (i := 29) rfl
theorem aX2_init : am_m nX2_init = mX2_init := rfl
theorem eX2_init_0 : (0, Instr.aload_n 0, 1, 0, 0, 0) ∈ kX2_init := List.mem_of_getElem? (i := 0) rfl
theorem eX2_init_1 : (1, Instr.invokespecial 1, 3, 999, 0, 164) ∈ kX2_init := List.mem_of_getElem? (i := 1) rfl
theorem eX2_init_4 : (4, Instr.aload_n 0, 1, 0, 0, 0) ∈ kX2_init := List.mem_of_getElem? (i := 2) rfl
theorem eX2_init_5 : (5, Instr.iload_n 1, 1, 0, 0, 0) ∈ kX2_init := List.mem_of_getElem? (i := 3) rfl
theorem eX2_init_6 : (6, Instr.putfield 7, 3, 2, 0, 165) ∈ kX2_init := List.mem_of_getElem? (i := 4) rfl
theorem eX2_init_9 : (9, Instr.aload_n 0, 1, 0, 0, 0) ∈ kX2_init := List.mem_of_getElem? (i := 5) rfl
theorem eX2_init_10 : (10, Instr.iload_n 2, 1, 0, 0, 0) ∈ kX2_init := List.mem_of_getElem? (i := 6) rfl
theorem eX2_init_11 : (11, Instr.putfield 13, 3, 2, 1, 167) ∈ kX2_init := List.mem_of_getElem? (i := 7) rfl
theorem eX2_init_14 : (14, Instr.aload_n 0, 1, 0, 0, 0) ∈ kX2_init := List.mem_of_getElem? (i := 8) rfl
theorem eX2_init_15 : (15, Instr.iload_n 3, 1, 0, 0, 0) ∈ kX2_init := List.mem_of_getElem? (i := 9) rfl
theorem eX2_init_16 : (16, Instr.putfield 16, 3, 2, 2, 169) ∈ kX2_init := List.mem_of_getElem? (i := 10) rfl
theorem eX2_init_19 : (19, Instr.aload_n 0, 1, 0, 0, 0) ∈ kX2_init := List.mem_of_getElem? (i := 11) rfl
theorem eX2_init_20 : (20, Instr.iload 4, 2, 0, 0, 0) ∈ kX2_init := List.mem_of_getElem? (i := 12) rfl
theorem eX2_init_22 : (22, Instr.putfield 19, 3, 2, 3, 170) ∈ kX2_init := List.mem_of_getElem? (i := 13) rfl
theorem eX2_init_25 : (25, Instr.aload_n 0, 1, 0, 0, 0) ∈ kX2_init := List.mem_of_getElem? (i := 14) rfl
theorem eX2_init_26 : (26, Instr.iload 5, 2, 0, 0, 0) ∈ kX2_init := List.mem_of_getElem? (i := 15) rfl
theorem eX2_init_28 : (28, Instr.putfield 22, 3, 2, 4, 171) ∈ kX2_init := List.mem_of_getElem? (i := 16) rfl
theorem eX2_init_31 : (31, Instr.return_, 1, 0, 0, 0) ∈ kX2_init := List.mem_of_getElem? (i := 17) rfl
theorem aX2_dayPrice : am_m nX2_dayPrice = mX2_dayPrice := rfl
theorem eX2_dayPrice_0 : (0, Instr.aload_n 0, 1, 0, 0, 0) ∈ kX2_dayPrice := List.mem_of_getElem? (i := 0) rfl
theorem eX2_dayPrice_1 : (1, Instr.getfield 16, 3, 2, 2, 169) ∈ kX2_dayPrice := List.mem_of_getElem? (i := 1) rfl
theorem eX2_dayPrice_4 : (4, Instr.aload_n 0, 1, 0, 0, 0) ∈ kX2_dayPrice := List.mem_of_getElem? (i := 2) rfl
theorem eX2_dayPrice_5 : (5, Instr.getfield 19, 3, 2, 3, 170) ∈ kX2_dayPrice := List.mem_of_getElem? (i := 3) rfl
theorem eX2_dayPrice_8 : (8, Instr.aload_n 1, 1, 0, 0, 0) ∈ kX2_dayPrice := List.mem_of_getElem? (i := 4) rfl
theorem eX2_dayPrice_9 : (9, Instr.getfield 25, 3, 4, 0, 243) ∈ kX2_dayPrice := List.mem_of_getElem? (i := 5) rfl
theorem eX2_dayPrice_12 : (12, Instr.imul, 1, 0, 0, 0) ∈ kX2_dayPrice := List.mem_of_getElem? (i := 6) rfl
theorem eX2_dayPrice_13 : (13, Instr.iadd, 1, 0, 0, 0) ∈ kX2_dayPrice := List.mem_of_getElem? (i := 7) rfl
theorem eX2_dayPrice_14 : (14, Instr.istore_n 2, 1, 0, 0, 0) ∈ kX2_dayPrice := List.mem_of_getElem? (i := 8) rfl
theorem eX2_dayPrice_15 : (15, Instr.aload_n 1, 1, 0, 0, 0) ∈ kX2_dayPrice := List.mem_of_getElem? (i := 9) rfl
theorem eX2_dayPrice_16 : (16, Instr.getfield 30, 3, 4, 2, 252) ∈ kX2_dayPrice := List.mem_of_getElem? (i := 10) rfl
theorem eX2_dayPrice_19 : (19, Instr.ifCond .eq 12, 3, 31, 0, 0) ∈ kX2_dayPrice := List.mem_of_getElem? (i := 11) rfl
theorem eX2_dayPrice_22 : (22, Instr.iload_n 2, 1, 0, 0, 0) ∈ kX2_dayPrice := List.mem_of_getElem? (i := 12) rfl
theorem eX2_dayPrice_23 : (23, Instr.aload_n 0, 1, 0, 0, 0) ∈ kX2_dayPrice := List.mem_of_getElem? (i := 13) rfl
theorem eX2_dayPrice_24 : (24, Instr.getfield 22, 3, 2, 4, 171) ∈ kX2_dayPrice := List.mem_of_getElem? (i := 14) rfl
theorem eX2_dayPrice_27 : (27, Instr.iadd, 1, 0, 0, 0) ∈ kX2_dayPrice := List.mem_of_getElem? (i := 15) rfl
theorem eX2_dayPrice_28 : (28, Instr.goto 4, 3, 32, 0, 0) ∈ kX2_dayPrice := List.mem_of_getElem? (i := 16) rfl
theorem eX2_dayPrice_31 : (31, Instr.iload_n 2, 1, 0, 0, 0) ∈ kX2_dayPrice := List.mem_of_getElem? (i := 17) rfl
theorem eX2_dayPrice_32 : (32, Instr.ireturn, 1, 0, 0, 0) ∈ kX2_dayPrice := List.mem_of_getElem? (i := 18) rfl
theorem aX3_init : am_m nX3_init = mX3_init := rfl
theorem eX3_init_0 : (0, Instr.aload_n 0, 1, 0, 0, 0) ∈ kX3_init := List.mem_of_getElem? (i := 0) rfl
theorem eX3_init_1 : (1, Instr.invokespecial 1, 3, 999, 0, 191) ∈ kX3_init := List.mem_of_getElem? (i := 1) rfl
theorem eX3_init_4 : (4, Instr.aload_n 0, 1, 0, 0, 0) ∈ kX3_init := List.mem_of_getElem? (i := 2) rfl
theorem eX3_init_5 : (5, Instr.iload_n 1, 1, 0, 0, 0) ∈ kX3_init := List.mem_of_getElem? (i := 3) rfl
theorem eX3_init_6 : (6, Instr.putfield 7, 3, 3, 0, 192) ∈ kX3_init := List.mem_of_getElem? (i := 4) rfl
theorem eX3_init_9 : (9, Instr.aload_n 0, 1, 0, 0, 0) ∈ kX3_init := List.mem_of_getElem? (i := 5) rfl
theorem eX3_init_10 : (10, Instr.iload_n 2, 1, 0, 0, 0) ∈ kX3_init := List.mem_of_getElem? (i := 6) rfl
theorem eX3_init_11 : (11, Instr.putfield 13, 3, 3, 1, 194) ∈ kX3_init := List.mem_of_getElem? (i := 7) rfl
theorem eX3_init_14 : (14, Instr.aload_n 0, 1, 0, 0, 0) ∈ kX3_init := List.mem_of_getElem? (i := 8) rfl
theorem eX3_init_15 : (15, Instr.iload_n 3, 1, 0, 0, 0) ∈ kX3_init := List.mem_of_getElem? (i := 9) rfl
theorem eX3_init_16 : (16, Instr.putfield 16, 3, 3, 2, 197) ∈ kX3_init := List.mem_of_getElem? (i := 10) rfl
theorem eX3_init_19 : (19, Instr.aload_n 0, 1, 0, 0, 0) ∈ kX3_init := List.mem_of_getElem? (i := 11) rfl
theorem eX3_init_20 : (20, Instr.iload 4, 2, 0, 0, 0) ∈ kX3_init := List.mem_of_getElem? (i := 12) rfl
theorem eX3_init_22 : (22, Instr.putfield 19, 3, 3, 3, 199) ∈ kX3_init := List.mem_of_getElem? (i := 13) rfl
theorem eX3_init_25 : (25, Instr.aload_n 0, 1, 0, 0, 0) ∈ kX3_init := List.mem_of_getElem? (i := 14) rfl
theorem eX3_init_26 : (26, Instr.iload 5, 2, 0, 0, 0) ∈ kX3_init := List.mem_of_getElem? (i := 15) rfl
theorem eX3_init_28 : (28, Instr.putfield 23, 3, 3, 4, 201) ∈ kX3_init := List.mem_of_getElem? (i := 16) rfl
theorem eX3_init_31 : (31, Instr.aload_n 0, 1, 0, 0, 0) ∈ kX3_init := List.mem_of_getElem? (i := 17) rfl
theorem eX3_init_32 : (32, Instr.iload_n 2, 1, 0, 0, 0) ∈ kX3_init := List.mem_of_getElem? (i := 18) rfl
theorem eX3_init_33 : (33, Instr.putfield 26, 3, 3, 5, 204) ∈ kX3_init := List.mem_of_getElem? (i := 19) rfl
theorem eX3_init_36 : (36, Instr.return_, 1, 0, 0, 0) ∈ kX3_init := List.mem_of_getElem? (i := 20) rfl
theorem aX3_suits : am_m nX3_suits = mX3_suits := rfl
theorem eX3_suits_0 : (0, Instr.aload_n 0, 1, 0, 0, 0) ∈ kX3_suits := List.mem_of_getElem? (i := 0) rfl
theorem eX3_suits_1 : (1, Instr.getfield 16, 3, 3, 2, 197) ∈ kX3_suits := List.mem_of_getElem? (i := 1) rfl
theorem eX3_suits_4 : (4, Instr.aload_n 1, 1, 0, 0, 0) ∈ kX3_suits := List.mem_of_getElem? (i := 2) rfl
theorem eX3_suits_5 : (5, Instr.getfield 29, 3, 4, 1, 248) ∈ kX3_suits := List.mem_of_getElem? (i := 3) rfl
theorem eX3_suits_8 : (8, Instr.if_icmp .lt 18, 3, 26, 0, 0) ∈ kX3_suits := List.mem_of_getElem? (i := 4) rfl
theorem eX3_suits_11 : (11, Instr.aload_n 0, 1, 0, 0, 0) ∈ kX3_suits := List.mem_of_getElem? (i := 5) rfl
theorem eX3_suits_12 : (12, Instr.getfield 19, 3, 3, 3, 199) ∈ kX3_suits := List.mem_of_getElem? (i := 6) rfl
theorem eX3_suits_15 : (15, Instr.aload_n 1, 1, 0, 0, 0) ∈ kX3_suits := List.mem_of_getElem? (i := 7) rfl
theorem eX3_suits_16 : (16, Instr.getfield 32, 3, 4, 2, 251) ∈ kX3_suits := List.mem_of_getElem? (i := 8) rfl
theorem eX3_suits_19 : (19, Instr.if_icmp .ne 7, 3, 26, 0, 0) ∈ kX3_suits := List.mem_of_getElem? (i := 9) rfl
theorem eX3_suits_22 : (22, Instr.iconst 1, 1, 0, 0, 0) ∈ kX3_suits := List.mem_of_getElem? (i := 10) rfl
theorem eX3_suits_23 : (23, Instr.goto 4, 3, 27, 0, 0) ∈ kX3_suits := List.mem_of_getElem? (i := 11) rfl
theorem eX3_suits_26 : (26, Instr.iconst 0, 1, 0, 0, 0) ∈ kX3_suits := List.mem_of_getElem? (i := 12) rfl
theorem eX3_suits_27 : (27, Instr.ireturn, 1, 1, 0, 0) ∈ kX3_suits := List.mem_of_getElem? (i := 13) rfl
theorem aX3_fits : am_m nX3_fits = mX3_fits := rfl
theorem eX3_fits_0 : (0, Instr.aload_n 0, 1, 0, 0, 0) ∈ kX3_fits := List.mem_of_getElem? (i := 0) rfl
theorem eX3_fits_1 : (1, Instr.getfield 33, 3, 3, 7, 208) ∈ kX3_fits := List.mem_of_getElem? (i := 1) rfl
theorem eX3_fits_4 : (4, Instr.ifCond .ne 26, 3, 30, 0, 0) ∈ kX3_fits := List.mem_of_getElem? (i := 2) rfl
theorem eX3_fits_7 : (7, Instr.aload_n 0, 1, 0, 0, 0) ∈ kX3_fits := List.mem_of_getElem? (i := 3) rfl
theorem eX3_fits_8 : (8, Instr.aload_n 1, 1, 0, 0, 0) ∈ kX3_fits := List.mem_of_getElem? (i := 4) rfl
theorem eX3_fits_9 : (9, Instr.invokevirtual 36, 3, 13, 1, 302) ∈ kX3_fits := List.mem_of_getElem? (i := 5) rfl
theorem eX3_fits_12 : (12, Instr.ifCond .eq 18, 3, 30, 0, 0) ∈ kX3_fits := List.mem_of_getElem? (i := 6) rfl
theorem eX3_fits_15 : (15, Instr.aload_n 0, 1, 0, 0, 0) ∈ kX3_fits := List.mem_of_getElem? (i := 7) rfl
theorem eX3_fits_16 : (16, Instr.getfield 26, 3, 3, 5, 204) ∈ kX3_fits := List.mem_of_getElem? (i := 8) rfl
theorem eX3_fits_19 : (19, Instr.aload_n 1, 1, 0, 0, 0) ∈ kX3_fits := List.mem_of_getElem? (i := 9) rfl
theorem eX3_fits_20 : (20, Instr.getfield 40, 3, 4, 0, 244) ∈ kX3_fits := List.mem_of_getElem? (i := 10) rfl
theorem eX3_fits_23 : (23, Instr.if_icmp .lt 7, 3, 30, 0, 0) ∈ kX3_fits := List.mem_of_getElem? (i := 11) rfl
theorem eX3_fits_26 : (26, Instr.iconst 1, 1, 0, 0, 0) ∈ kX3_fits := List.mem_of_getElem? (i := 12) rfl
theorem eX3_fits_27 : (27, Instr.goto 4, 3, 31, 0, 0) ∈ kX3_fits := List.mem_of_getElem? (i := 13) rfl
theorem eX3_fits_30 : (30, Instr.iconst 0, 1, 0, 0, 0) ∈ kX3_fits := List.mem_of_getElem? (i := 14) rfl
theorem eX3_fits_31 : (31, Instr.ireturn, 1, 1, 0, 0) ∈ kX3_fits := List.mem_of_getElem? (i := 15) rfl
theorem aX3_take : am_m nX3_take = mX3_take := rfl
theorem eX3_take_0 : (0, Instr.aload_n 0, 1, 0, 0, 0) ∈ kX3_take := List.mem_of_getElem? (i := 0) rfl
theorem eX3_take_1 : (1, Instr.dup, 1, 0, 0, 0) ∈ kX3_take := List.mem_of_getElem? (i := 1) rfl
theorem eX3_take_2 : (2, Instr.getfield 26, 3, 3, 5, 204) ∈ kX3_take := List.mem_of_getElem? (i := 2) rfl
theorem eX3_take_5 : (5, Instr.aload_n 1, 1, 0, 0, 0) ∈ kX3_take := List.mem_of_getElem? (i := 3) rfl
theorem eX3_take_6 : (6, Instr.getfield 40, 3, 4, 0, 244) ∈ kX3_take := List.mem_of_getElem? (i := 4) rfl
theorem eX3_take_9 : (9, Instr.isub, 1, 0, 0, 0) ∈ kX3_take := List.mem_of_getElem? (i := 5) rfl
theorem eX3_take_10 : (10, Instr.putfield 26, 3, 3, 5, 204) ∈ kX3_take := List.mem_of_getElem? (i := 6) rfl
theorem eX3_take_13 : (13, Instr.aload_n 0, 1, 0, 0, 0) ∈ kX3_take := List.mem_of_getElem? (i := 7) rfl
theorem eX3_take_14 : (14, Instr.dup, 1, 0, 0, 0) ∈ kX3_take := List.mem_of_getElem? (i := 8) rfl
theorem eX3_take_15 : (15, Instr.getfield 43, 3, 3, 6, 206) ∈ kX3_take := List.mem_of_getElem? (i := 9) rfl
theorem eX3_take_18 : (18, Instr.iconst 1, 1, 0, 0, 0) ∈ kX3_take := List.mem_of_getElem? (i := 10) rfl
theorem eX3_take_19 : (19, Instr.iadd, 1, 0, 0, 0) ∈ kX3_take := List.mem_of_getElem? (i := 11) rfl
theorem eX3_take_20 : (20, Instr.putfield 43, 3, 3, 6, 206) ∈ kX3_take := List.mem_of_getElem? (i := 12) rfl
theorem eX3_take_23 : (23, Instr.aload_n 1, 1, 0, 0, 0) ∈ kX3_take := List.mem_of_getElem? (i := 13) rfl
theorem eX3_take_24 : (24, Instr.aload_n 0, 1, 0, 0, 0) ∈ kX3_take := List.mem_of_getElem? (i := 14) rfl
theorem eX3_take_25 : (25, Instr.putfield 46, 3, 4, 8, 265) ∈ kX3_take := List.mem_of_getElem? (i := 15) rfl
theorem eX3_take_28 : (28, Instr.return_, 1, 0, 0, 0) ∈ kX3_take := List.mem_of_getElem? (i := 16) rfl
theorem aX3_release : am_m nX3_release = mX3_release := rfl
theorem eX3_release_0 : (0, Instr.aload_n 0, 1, 0, 0, 0) ∈ kX3_release := List.mem_of_getElem? (i := 0) rfl
theorem eX3_release_1 : (1, Instr.dup, 1, 0, 0, 0) ∈ kX3_release := List.mem_of_getElem? (i := 1) rfl
theorem eX3_release_2 : (2, Instr.getfield 26, 3, 3, 5, 204) ∈ kX3_release := List.mem_of_getElem? (i := 2) rfl
theorem eX3_release_5 : (5, Instr.aload_n 1, 1, 0, 0, 0) ∈ kX3_release := List.mem_of_getElem? (i := 3) rfl
theorem eX3_release_6 : (6, Instr.getfield 40, 3, 4, 0, 244) ∈ kX3_release := List.mem_of_getElem? (i := 4) rfl
theorem eX3_release_9 : (9, Instr.iadd, 1, 0, 0, 0) ∈ kX3_release := List.mem_of_getElem? (i := 5) rfl
theorem eX3_release_10 : (10, Instr.putfield 26, 3, 3, 5, 204) ∈ kX3_release := List.mem_of_getElem? (i := 6) rfl
theorem eX3_release_13 : (13, Instr.aload_n 0, 1, 0, 0, 0) ∈ kX3_release := List.mem_of_getElem? (i := 7) rfl
theorem eX3_release_14 : (14, Instr.dup, 1, 0, 0, 0) ∈ kX3_release := List.mem_of_getElem? (i := 8) rfl
theorem eX3_release_15 : (15, Instr.getfield 43, 3, 3, 6, 206) ∈ kX3_release := List.mem_of_getElem? (i := 9) rfl
theorem eX3_release_18 : (18, Instr.iconst 1, 1, 0, 0, 0) ∈ kX3_release := List.mem_of_getElem? (i := 10) rfl
theorem eX3_release_19 : (19, Instr.isub, 1, 0, 0, 0) ∈ kX3_release := List.mem_of_getElem? (i := 11) rfl
theorem eX3_release_20 : (20, Instr.putfield 43, 3, 3, 6, 206) ∈ kX3_release := List.mem_of_getElem? (i := 12) rfl
theorem eX3_release_23 : (23, Instr.aload_n 1, 1, 0, 0, 0) ∈ kX3_release := List.mem_of_getElem? (i := 13) rfl
theorem eX3_release_24 : (24, Instr.aconst_null, 1, 0, 0, 0) ∈ kX3_release := List.mem_of_getElem? (i := 14) rfl
theorem eX3_release_25 : (25, Instr.putfield 46, 3, 4, 8, 265) ∈ kX3_release := List.mem_of_getElem? (i := 15) rfl
theorem eX3_release_28 : (28, Instr.return_, 1, 0, 0, 0) ∈ kX3_release := List.mem_of_getElem? (i := 16) rfl
theorem aX4_init : am_m nX4_init = mX4_init := rfl
theorem eX4_init_0 : (0, Instr.aload_n 0, 1, 0, 0, 0) ∈ kX4_init := List.mem_of_getElem? (i := 0) rfl
theorem eX4_init_1 : (1, Instr.invokespecial 3, 3, 999, 0, 241) ∈ kX4_init := List.mem_of_getElem? (i := 1) rfl
theorem eX4_init_4 : (4, Instr.aload_n 0, 1, 0, 0, 0) ∈ kX4_init := List.mem_of_getElem? (i := 2) rfl
theorem eX4_init_5 : (5, Instr.iload_n 1, 1, 0, 0, 0) ∈ kX4_init := List.mem_of_getElem? (i := 3) rfl
theorem eX4_init_6 : (6, Instr.putfield 9, 3, 4, 0, 242) ∈ kX4_init := List.mem_of_getElem? (i := 4) rfl
theorem eX4_init_9 : (9, Instr.aload_n 0, 1, 0, 0, 0) ∈ kX4_init := List.mem_of_getElem? (i := 5) rfl
theorem eX4_init_10 : (10, Instr.iload_n 2, 1, 0, 0, 0) ∈ kX4_init := List.mem_of_getElem? (i := 6) rfl
theorem eX4_init_11 : (11, Instr.putfield 15, 3, 4, 1, 247) ∈ kX4_init := List.mem_of_getElem? (i := 7) rfl
theorem eX4_init_14 : (14, Instr.aload_n 0, 1, 0, 0, 0) ∈ kX4_init := List.mem_of_getElem? (i := 8) rfl
theorem eX4_init_15 : (15, Instr.iload_n 3, 1, 0, 0, 0) ∈ kX4_init := List.mem_of_getElem? (i := 9) rfl
theorem eX4_init_16 : (16, Instr.putfield 18, 3, 4, 2, 250) ∈ kX4_init := List.mem_of_getElem? (i := 10) rfl
theorem eX4_init_19 : (19, Instr.aload_n 0, 1, 0, 0, 0) ∈ kX4_init := List.mem_of_getElem? (i := 11) rfl
theorem eX4_init_20 : (20, Instr.iload 4, 2, 0, 0, 0) ∈ kX4_init := List.mem_of_getElem? (i := 12) rfl
theorem eX4_init_22 : (22, Instr.putfield 22, 3, 4, 3, 254) ∈ kX4_init := List.mem_of_getElem? (i := 13) rfl
theorem eX4_init_25 : (25, Instr.aload_n 0, 1, 0, 0, 0) ∈ kX4_init := List.mem_of_getElem? (i := 14) rfl
theorem eX4_init_26 : (26, Instr.iload 5, 2, 0, 0, 0) ∈ kX4_init := List.mem_of_getElem? (i := 15) rfl
theorem eX4_init_28 : (28, Instr.putfield 25, 3, 4, 4, 256) ∈ kX4_init := List.mem_of_getElem? (i := 16) rfl
theorem eX4_init_31 : (31, Instr.aload_n 0, 1, 0, 0, 0) ∈ kX4_init := List.mem_of_getElem? (i := 17) rfl
theorem eX4_init_32 : (32, Instr.iload 6, 2, 0, 0, 0) ∈ kX4_init := List.mem_of_getElem? (i := 18) rfl
theorem eX4_init_34 : (34, Instr.putfield 28, 3, 4, 5, 258) ∈ kX4_init := List.mem_of_getElem? (i := 19) rfl
theorem eX4_init_37 : (37, Instr.aload_n 0, 1, 0, 0, 0) ∈ kX4_init := List.mem_of_getElem? (i := 20) rfl
theorem eX4_init_38 : (38, Instr.iload 7, 2, 0, 0, 0) ∈ kX4_init := List.mem_of_getElem? (i := 21) rfl
theorem eX4_init_40 : (40, Instr.putfield 31, 3, 4, 6, 260) ∈ kX4_init := List.mem_of_getElem? (i := 22) rfl
theorem eX4_init_43 : (43, Instr.aload_n 0, 1, 0, 0, 0) ∈ kX4_init := List.mem_of_getElem? (i := 23) rfl
theorem eX4_init_44 : (44, Instr.iconst 0, 1, 0, 0, 0) ∈ kX4_init := List.mem_of_getElem? (i := 24) rfl
theorem eX4_init_45 : (45, Instr.putfield 34, 3, 4, 7, 262) ∈ kX4_init := List.mem_of_getElem? (i := 25) rfl
theorem eX4_init_48 : (48, Instr.aload_n 0, 1, 0, 0, 0) ∈ kX4_init := List.mem_of_getElem? (i := 26) rfl
theorem eX4_init_49 : (49, Instr.iconst (-1), 1, 0, 0, 0) ∈ kX4_init := List.mem_of_getElem? (i := 27) rfl
theorem eX4_init_50 : (50, Instr.putfield 37, 3, 4, 10, 269) ∈ kX4_init := List.mem_of_getElem? (i := 28) rfl
theorem eX4_init_53 : (53, Instr.return_, 1, 0, 0, 0) ∈ kX4_init := List.mem_of_getElem? (i := 29) rfl
theorem aX4_dueDay : am_m nX4_dueDay = mX4_dueDay := rfl
theorem eX4_dueDay_0 : (0, Instr.aload_n 0, 1, 0, 0, 0) ∈ kX4_dueDay := List.mem_of_getElem? (i := 0) rfl
theorem eX4_dueDay_1 : (1, Instr.getfield 28, 3, 4, 5, 258) ∈ kX4_dueDay := List.mem_of_getElem? (i := 1) rfl
theorem eX4_dueDay_4 : (4, Instr.invokestatic 40, 3, 52, 1, 9999) ∈ kX4_dueDay := List.mem_of_getElem? (i := 2) rfl
theorem eX4_dueDay_7 : (7, Instr.ireturn, 1, 0, 0, 0) ∈ kX4_dueDay := List.mem_of_getElem? (i := 3) rfl
theorem aX4_markAt : am_m nX4_markAt = mX4_markAt := rfl
theorem eX4_markAt_0 : (0, Instr.aload_n 0, 1, 0, 0, 0) ∈ kX4_markAt := List.mem_of_getElem? (i := 0) rfl
theorem eX4_markAt_1 : (1, Instr.getfield 25, 3, 4, 4, 256) ∈ kX4_markAt := List.mem_of_getElem? (i := 1) rfl
theorem eX4_markAt_4 : (4, Instr.iconst 4, 1, 0, 0, 0) ∈ kX4_markAt := List.mem_of_getElem? (i := 2) rfl
theorem eX4_markAt_5 : (5, Instr.iload_n 1, 1, 0, 0, 0) ∈ kX4_markAt := List.mem_of_getElem? (i := 3) rfl
theorem eX4_markAt_6 : (6, Instr.imul, 1, 0, 0, 0) ∈ kX4_markAt := List.mem_of_getElem? (i := 4) rfl
theorem eX4_markAt_7 : (7, Instr.ishr, 1, 0, 0, 0) ∈ kX4_markAt := List.mem_of_getElem? (i := 5) rfl
theorem eX4_markAt_8 : (8, Instr.bipush 15, 2, 0, 0, 0) ∈ kX4_markAt := List.mem_of_getElem? (i := 6) rfl
theorem eX4_markAt_10 : (10, Instr.iand, 1, 0, 0, 0) ∈ kX4_markAt := List.mem_of_getElem? (i := 7) rfl
theorem eX4_markAt_11 : (11, Instr.ireturn, 1, 0, 0, 0) ∈ kX4_markAt := List.mem_of_getElem? (i := 8) rfl
theorem aX4_wanted : am_m nX4_wanted = mX4_wanted := rfl
theorem eX4_wanted_0 : (0, Instr.aload_n 0, 1, 0, 0, 0) ∈ kX4_wanted := List.mem_of_getElem? (i := 0) rfl
theorem eX4_wanted_1 : (1, Instr.getfield 28, 3, 4, 5, 258) ∈ kX4_wanted := List.mem_of_getElem? (i := 1) rfl
theorem eX4_wanted_4 : (4, Instr.iload_n 1, 1, 0, 0, 0) ∈ kX4_wanted := List.mem_of_getElem? (i := 2) rfl
theorem eX4_wanted_5 : (5, Instr.isub, 1, 0, 0, 0) ∈ kX4_wanted := List.mem_of_getElem? (i := 3) rfl
theorem eX4_wanted_6 : (6, Instr.iconst 0, 1, 0, 0, 0) ∈ kX4_wanted := List.mem_of_getElem? (i := 4) rfl
theorem eX4_wanted_7 : (7, Instr.invokestatic 44, 3, 120, 2, 318) ∈ kX4_wanted := List.mem_of_getElem? (i := 5) rfl
theorem eX4_wanted_10 : (10, Instr.bipush 60, 2, 0, 0, 0) ∈ kX4_wanted := List.mem_of_getElem? (i := 6) rfl
theorem eX4_wanted_12 : (12, Instr.idiv, 1, 0, 0, 0) ∈ kX4_wanted := List.mem_of_getElem? (i := 7) rfl
theorem eX4_wanted_13 : (13, Instr.istore_n 2, 1, 0, 0, 0) ∈ kX4_wanted := List.mem_of_getElem? (i := 8) rfl
theorem eX4_wanted_14 : (14, Instr.iconst 1, 1, 0, 0, 0) ∈ kX4_wanted := List.mem_of_getElem? (i := 9) rfl
theorem eX4_wanted_15 : (15, Instr.iload_n 2, 1, 0, 0, 0) ∈ kX4_wanted := List.mem_of_getElem? (i := 10) rfl
theorem eX4_wanted_16 : (16, Instr.iadd, 1, 0, 0, 0) ∈ kX4_wanted := List.mem_of_getElem? (i := 11) rfl
theorem eX4_wanted_17 : (17, Instr.bipush 99, 2, 0, 0, 0) ∈ kX4_wanted := List.mem_of_getElem? (i := 12) rfl
theorem eX4_wanted_19 : (19, Instr.invokestatic 50, 3, 121, 2, 321) ∈ kX4_wanted := List.mem_of_getElem? (i := 13) rfl
theorem eX4_wanted_22 : (22, Instr.ireturn, 1, 0, 0, 0) ∈ kX4_wanted := List.mem_of_getElem? (i := 14) rfl
theorem aX4_misfitOn : am_m nX4_misfitOn = mX4_misfitOn := rfl
theorem eX4_misfitOn_0 : (0, Instr.aload_n 1, 1, 0, 0, 0) ∈ kX4_misfitOn := List.mem_of_getElem? (i := 0) rfl
theorem eX4_misfitOn_1 : (1, Instr.getfield 53, 3, 3, 4, 202) ∈ kX4_misfitOn := List.mem_of_getElem? (i := 1) rfl
theorem eX4_misfitOn_4 : (4, Instr.aload_n 0, 1, 0, 0, 0) ∈ kX4_misfitOn := List.mem_of_getElem? (i := 2) rfl
theorem eX4_misfitOn_5 : (5, Instr.iload_n 2, 1, 0, 0, 0) ∈ kX4_misfitOn := List.mem_of_getElem? (i := 3) rfl
theorem eX4_misfitOn_6 : (6, Instr.invokevirtual 58, 3, 20, 1, 314) ∈ kX4_misfitOn := List.mem_of_getElem? (i := 4) rfl
theorem eX4_misfitOn_9 : (9, Instr.isub, 1, 0, 0, 0) ∈ kX4_misfitOn := List.mem_of_getElem? (i := 5) rfl
theorem eX4_misfitOn_10 : (10, Instr.invokestatic 61, 3, 119, 1, 324) ∈ kX4_misfitOn := List.mem_of_getElem? (i := 6) rfl
theorem eX4_misfitOn_13 : (13, Instr.ireturn, 1, 0, 0, 0) ∈ kX4_misfitOn := List.mem_of_getElem? (i := 7) rfl
theorem aX4_misfitHere : am_m nX4_misfitHere = mX4_misfitHere := rfl
theorem eX4_misfitHere_0 : (0, Instr.aload_n 0, 1, 0, 0, 0) ∈ kX4_misfitHere := List.mem_of_getElem? (i := 0) rfl
theorem eX4_misfitHere_1 : (1, Instr.getfield 64, 3, 4, 8, 266) ∈ kX4_misfitHere := List.mem_of_getElem? (i := 1) rfl
theorem eX4_misfitHere_4 : (4, Instr.ifnonnull 7, 3, 11, 0, 0) ∈ kX4_misfitHere := List.mem_of_getElem? (i := 2) rfl
theorem eX4_misfitHere_7 : (7, Instr.iconst (-1), 1, 0, 0, 0) ∈ kX4_misfitHere := List.mem_of_getElem? (i := 3) rfl
theorem eX4_misfitHere_8 : (8, Instr.goto 12, 3, 20, 0, 0) ∈ kX4_misfitHere := List.mem_of_getElem? (i := 4) rfl
theorem eX4_misfitHere_11 : (11, Instr.aload_n 0, 1, 0, 0, 0) ∈ kX4_misfitHere := List.mem_of_getElem? (i := 5) rfl
theorem eX4_misfitHere_12 : (12, Instr.aload_n 0, 1, 0, 0, 0) ∈ kX4_misfitHere := List.mem_of_getElem? (i := 6) rfl
theorem eX4_misfitHere_13 : (13, Instr.getfield 64, 3, 4, 8, 266) ∈ kX4_misfitHere := List.mem_of_getElem? (i := 7) rfl
theorem eX4_misfitHere_16 : (16, Instr.iload_n 1, 1, 0, 0, 0) ∈ kX4_misfitHere := List.mem_of_getElem? (i := 8) rfl
theorem eX4_misfitHere_17 : (17, Instr.invokevirtual 68, 3, 21, 2, 461) ∈ kX4_misfitHere := List.mem_of_getElem? (i := 9) rfl
theorem eX4_misfitHere_20 : (20, Instr.ireturn, 1, 0, 0, 0) ∈ kX4_misfitHere := List.mem_of_getElem? (i := 10) rfl
theorem aX4_placeNumber : am_m nX4_placeNumber = mX4_placeNumber := rfl
theorem eX4_placeNumber_0 : (0, Instr.aload_n 0, 1, 0, 0, 0) ∈ kX4_placeNumber := List.mem_of_getElem? (i := 0) rfl
theorem eX4_placeNumber_1 : (1, Instr.getfield 64, 3, 4, 8, 266) ∈ kX4_placeNumber := List.mem_of_getElem? (i := 1) rfl
theorem eX4_placeNumber_4 : (4, Instr.ifnonnull 7, 3, 11, 0, 0) ∈ kX4_placeNumber := List.mem_of_getElem? (i := 2) rfl
theorem eX4_placeNumber_7 : (7, Instr.iconst (-1), 1, 0, 0, 0) ∈ kX4_placeNumber := List.mem_of_getElem? (i := 3) rfl
theorem eX4_placeNumber_8 : (8, Instr.goto 10, 3, 18, 0, 0) ∈ kX4_placeNumber := List.mem_of_getElem? (i := 4) rfl
theorem eX4_placeNumber_11 : (11, Instr.aload_n 0, 1, 0, 0, 0) ∈ kX4_placeNumber := List.mem_of_getElem? (i := 5) rfl
theorem eX4_placeNumber_12 : (12, Instr.getfield 64, 3, 4, 8, 266) ∈ kX4_placeNumber := List.mem_of_getElem? (i := 6) rfl
theorem eX4_placeNumber_15 : (15, Instr.getfield 72, 3, 3, 0, 193) ∈ kX4_placeNumber := List.mem_of_getElem? (i := 7) rfl
theorem eX4_placeNumber_18 : (18, Instr.ireturn, 1, 0, 0, 0) ∈ kX4_placeNumber := List.mem_of_getElem? (i := 8) rfl
theorem aX4_isStuck : am_m nX4_isStuck = mX4_isStuck := rfl
theorem eX4_isStuck_0 : (0, Instr.aload_n 0, 1, 0, 0, 0) ∈ kX4_isStuck := List.mem_of_getElem? (i := 0) rfl
theorem eX4_isStuck_1 : (1, Instr.getfield 64, 3, 4, 8, 266) ∈ kX4_isStuck := List.mem_of_getElem? (i := 1) rfl
theorem eX4_isStuck_4 : (4, Instr.ifnull 17, 3, 21, 0, 0) ∈ kX4_isStuck := List.mem_of_getElem? (i := 2) rfl
theorem eX4_isStuck_7 : (7, Instr.aload_n 0, 1, 0, 0, 0) ∈ kX4_isStuck := List.mem_of_getElem? (i := 3) rfl
theorem eX4_isStuck_8 : (8, Instr.getfield 64, 3, 4, 8, 266) ∈ kX4_isStuck := List.mem_of_getElem? (i := 4) rfl
theorem eX4_isStuck_11 : (11, Instr.getfield 75, 3, 3, 7, 209) ∈ kX4_isStuck := List.mem_of_getElem? (i := 5) rfl
theorem eX4_isStuck_14 : (14, Instr.ifCond .eq 7, 3, 21, 0, 0) ∈ kX4_isStuck := List.mem_of_getElem? (i := 6) rfl
theorem eX4_isStuck_17 : (17, Instr.iconst 1, 1, 0, 0, 0) ∈ kX4_isStuck := List.mem_of_getElem? (i := 7) rfl
theorem eX4_isStuck_18 : (18, Instr.goto 4, 3, 22, 0, 0) ∈ kX4_isStuck := List.mem_of_getElem? (i := 8) rfl
theorem eX4_isStuck_21 : (21, Instr.iconst 0, 1, 0, 0, 0) ∈ kX4_isStuck := List.mem_of_getElem? (i := 9) rfl
theorem eX4_isStuck_22 : (22, Instr.ireturn, 1, 1, 0, 0) ∈ kX4_isStuck := List.mem_of_getElem? (i := 10) rfl
theorem aX5_init : am_m nX5_init = mX5_init := rfl
theorem eX5_init_0 : (0, Instr.aload_n 0, 1, 0, 0, 0) ∈ kX5_init := List.mem_of_getElem? (i := 0) rfl
theorem eX5_init_1 : (1, Instr.invokespecial 1, 3, 999, 0, 51) ∈ kX5_init := List.mem_of_getElem? (i := 1) rfl
theorem eX5_init_4 : (4, Instr.aload_n 0, 1, 0, 0, 0) ∈ kX5_init := List.mem_of_getElem? (i := 2) rfl
theorem eX5_init_5 : (5, Instr.bipush 16, 2, 0, 0, 0) ∈ kX5_init := List.mem_of_getElem? (i := 3) rfl
theorem eX5_init_7 : (7, Instr.anewarray 9, 3, 9, 0, 54) ∈ kX5_init := List.mem_of_getElem? (i := 4) rfl
theorem eX5_init_10 : (10, Instr.putfield 11, 3, 5, 0, 80) ∈ kX5_init := List.mem_of_getElem? (i := 5) rfl
theorem eX5_init_13 : (13, Instr.aload_n 0, 1, 0, 0, 0) ∈ kX5_init := List.mem_of_getElem? (i := 6) rfl
theorem eX5_init_14 : (14, Instr.bipush 120, 2, 0, 0, 0) ∈ kX5_init := List.mem_of_getElem? (i := 7) rfl
theorem eX5_init_16 : (16, Instr.anewarray 15, 3, 10, 0, 56) ∈ kX5_init := List.mem_of_getElem? (i := 8) rfl
theorem eX5_init_19 : (19, Instr.putfield 17, 3, 5, 2, 82) ∈ kX5_init := List.mem_of_getElem? (i := 9) rfl
theorem eX5_init_22 : (22, Instr.aload_n 0, 1, 0, 0, 0) ∈ kX5_init := List.mem_of_getElem? (i := 10) rfl
theorem eX5_init_23 : (23, Instr.bipush 40, 2, 0, 0, 0) ∈ kX5_init := List.mem_of_getElem? (i := 11) rfl
theorem eX5_init_25 : (25, Instr.anewarray 21, 3, 11, 0, 58) ∈ kX5_init := List.mem_of_getElem? (i := 12) rfl
theorem eX5_init_28 : (28, Instr.putfield 23, 3, 5, 4, 84) ∈ kX5_init := List.mem_of_getElem? (i := 13) rfl
theorem eX5_init_31 : (31, Instr.aload_n 0, 1, 0, 0, 0) ∈ kX5_init := List.mem_of_getElem? (i := 14) rfl
theorem eX5_init_32 : (32, Instr.bipush 12, 2, 0, 0, 0) ∈ kX5_init := List.mem_of_getElem? (i := 15) rfl
theorem eX5_init_34 : (34, Instr.anewarray 27, 3, 12, 0, 60) ∈ kX5_init := List.mem_of_getElem? (i := 16) rfl
theorem eX5_init_37 : (37, Instr.putfield 29, 3, 5, 6, 86) ∈ kX5_init := List.mem_of_getElem? (i := 17) rfl
theorem eX5_init_40 : (40, Instr.aload_n 0, 1, 0, 0, 0) ∈ kX5_init := List.mem_of_getElem? (i := 18) rfl
theorem eX5_init_41 : (41, Instr.bipush 16, 2, 0, 0, 0) ∈ kX5_init := List.mem_of_getElem? (i := 19) rfl
theorem eX5_init_43 : (43, Instr.newarray .int, 2, 7, 0, 0) ∈ kX5_init := List.mem_of_getElem? (i := 20) rfl
theorem eX5_init_45 : (45, Instr.putfield 33, 3, 5, 8, 88) ∈ kX5_init := List.mem_of_getElem? (i := 21) rfl
theorem eX5_init_48 : (48, Instr.aload_n 0, 1, 0, 0, 0) ∈ kX5_init := List.mem_of_getElem? (i := 22) rfl
theorem eX5_init_49 : (49, Instr.new 37, 3, 0, 0, 62) ∈ kX5_init := List.mem_of_getElem? (i := 23) rfl
theorem eX5_init_52 : (52, Instr.dup, 1, 0, 0, 0) ∈ kX5_init := List.mem_of_getElem? (i := 24) rfl
theorem eX5_init_53 : (53, Instr.invokespecial 39, 3, 0, 0, 64) ∈ kX5_init := List.mem_of_getElem? (i := 25) rfl
theorem eX5_init_56 : (56, Instr.putfield 40, 3, 5, 9, 89) ∈ kX5_init := List.mem_of_getElem? (i := 26) rfl
theorem eX5_init_59 : (59, Instr.aload_n 0, 1, 0, 0, 0) ∈ kX5_init := List.mem_of_getElem? (i := 27) rfl
theorem eX5_init_60 : (60, Instr.sipush 1440, 3, 0, 0, 0) ∈ kX5_init := List.mem_of_getElem? (i := 28) rfl
theorem eX5_init_63 : (63, Instr.putfield 44, 3, 5, 12, 92) ∈ kX5_init := List.mem_of_getElem? (i := 29) rfl
theorem eX5_init_66 : (66, Instr.return_, 1, 0, 0, 0) ∈ kX5_init := List.mem_of_getElem? (i := 30) rfl
theorem aX5_clock : am_m nX5_clock = mX5_clock := rfl
theorem eX5_clock_0 : (0, Instr.iload_n 1, 1, 0, 0, 0) ∈ kX5_clock := List.mem_of_getElem? (i := 0) rfl
theorem eX5_clock_1 : (1, Instr.iconst 1, 1, 0, 0, 0) ∈ kX5_clock := List.mem_of_getElem? (i := 1) rfl
theorem eX5_clock_2 : (2, Instr.if_icmp .lt 14, 3, 16, 0, 0) ∈ kX5_clock := List.mem_of_getElem? (i := 2) rfl
theorem eX5_clock_5 : (5, Instr.iload_n 1, 1, 0, 0, 0) ∈ kX5_clock := List.mem_of_getElem? (i := 3) rfl
theorem eX5_clock_6 : (6, Instr.ldc 48, 2, 100000, 0, 130) ∈ kX5_clock := List.mem_of_getElem? (i := 4) rfl
theorem eX5_clock_8 : (8, Instr.aload_n 0, 1, 0, 0, 0) ∈ kX5_clock := List.mem_of_getElem? (i := 5) rfl
theorem eX5_clock_9 : (9, Instr.getfield 49, 3, 5, 10, 90) ∈ kX5_clock := List.mem_of_getElem? (i := 6) rfl
theorem eX5_clock_12 : (12, Instr.isub, 1, 0, 0, 0) ∈ kX5_clock := List.mem_of_getElem? (i := 7) rfl
theorem eX5_clock_13 : (13, Instr.if_icmp .le 5, 3, 18, 0, 0) ∈ kX5_clock := List.mem_of_getElem? (i := 8) rfl
theorem eX5_clock_16 : (16, Instr.iconst (-1), 1, 0, 0, 0) ∈ kX5_clock := List.mem_of_getElem? (i := 9) rfl
theorem eX5_clock_17 : (17, Instr.ireturn, 1, 0, 0, 0) ∈ kX5_clock := List.mem_of_getElem? (i := 10) rfl
theorem eX5_clock_18 : (18, Instr.aload_n 0, 1, 0, 0, 0) ∈ kX5_clock := List.mem_of_getElem? (i := 11) rfl
theorem eX5_clock_19 : (19, Instr.dup, 1, 0, 0, 0) ∈ kX5_clock := List.mem_of_getElem? (i := 12) rfl
theorem eX5_clock_20 : (20, Instr.getfield 49, 3, 5, 10, 90) ∈ kX5_clock := List.mem_of_getElem? (i := 13) rfl
theorem eX5_clock_23 : (23, Instr.iload_n 1, 1, 0, 0, 0) ∈ kX5_clock := List.mem_of_getElem? (i := 14) rfl
theorem eX5_clock_24 : (24, Instr.iadd, 1, 0, 0, 0) ∈ kX5_clock := List.mem_of_getElem? (i := 15) rfl
theorem eX5_clock_25 : (25, Instr.putfield 49, 3, 5, 10, 90) ∈ kX5_clock := List.mem_of_getElem? (i := 16) rfl
theorem eX5_clock_28 : (28, Instr.aload_n 0, 1, 0, 0, 0) ∈ kX5_clock := List.mem_of_getElem? (i := 17) rfl
theorem eX5_clock_29 : (29, Instr.invokevirtual 52, 3, 64, 0, 131) ∈ kX5_clock := List.mem_of_getElem? (i := 18) rfl
theorem eX5_clock_32 : (32, Instr.aload_n 0, 1, 0, 0, 0) ∈ kX5_clock := List.mem_of_getElem? (i := 19) rfl
theorem eX5_clock_33 : (33, Instr.getfield 49, 3, 5, 10, 90) ∈ kX5_clock := List.mem_of_getElem? (i := 20) rfl
theorem eX5_clock_36 : (36, Instr.ireturn, 1, 0, 0, 0) ∈ kX5_clock := List.mem_of_getElem? (i := 21) rfl
theorem aX5_hours : am_m nX5_hours = mX5_hours := rfl
theorem eX5_hours_0 : (0, Instr.iload_n 1, 1, 0, 0, 0) ∈ kX5_hours := List.mem_of_getElem? (i := 0) rfl
theorem eX5_hours_1 : (1, Instr.ifCond .lt 15, 3, 16, 0, 0) ∈ kX5_hours := List.mem_of_getElem? (i := 1) rfl
theorem eX5_hours_4 : (4, Instr.iload_n 2, 1, 0, 0, 0) ∈ kX5_hours := List.mem_of_getElem? (i := 2) rfl
theorem eX5_hours_5 : (5, Instr.sipush 1440, 3, 0, 0, 0) ∈ kX5_hours := List.mem_of_getElem? (i := 3) rfl
theorem eX5_hours_8 : (8, Instr.if_icmp .gt 8, 3, 16, 0, 0) ∈ kX5_hours := List.mem_of_getElem? (i := 4) rfl
theorem eX5_hours_11 : (11, Instr.iload_n 1, 1, 0, 0, 0) ∈ kX5_hours := List.mem_of_getElem? (i := 5) rfl
theorem eX5_hours_12 : (12, Instr.iload_n 2, 1, 0, 0, 0) ∈ kX5_hours := List.mem_of_getElem? (i := 6) rfl
theorem eX5_hours_13 : (13, Instr.if_icmp .lt 5, 3, 18, 0, 0) ∈ kX5_hours := List.mem_of_getElem? (i := 7) rfl
theorem eX5_hours_16 : (16, Instr.iconst 0, 1, 0, 0, 0) ∈ kX5_hours := List.mem_of_getElem? (i := 8) rfl
theorem eX5_hours_17 : (17, Instr.ireturn, 1, 1, 0, 0) ∈ kX5_hours := List.mem_of_getElem? (i := 9) rfl
theorem eX5_hours_18 : (18, Instr.aload_n 0, 1, 0, 0, 0) ∈ kX5_hours := List.mem_of_getElem? (i := 10) rfl
theorem eX5_hours_19 : (19, Instr.iload_n 1, 1, 0, 0, 0) ∈ kX5_hours := List.mem_of_getElem? (i := 11) rfl
theorem eX5_hours_20 : (20, Instr.putfield 55, 3, 5, 11, 91) ∈ kX5_hours := List.mem_of_getElem? (i := 12) rfl
theorem eX5_hours_23 : (23, Instr.aload_n 0, 1, 0, 0, 0) ∈ kX5_hours := List.mem_of_getElem? (i := 13) rfl
theorem eX5_hours_24 : (24, Instr.iload_n 2, 1, 0, 0, 0) ∈ kX5_hours := List.mem_of_getElem? (i := 14) rfl
theorem eX5_hours_25 : (25, Instr.putfield 44, 3, 5, 12, 92) ∈ kX5_hours := List.mem_of_getElem? (i := 15) rfl
theorem eX5_hours_28 : (28, Instr.iconst 1, 1, 0, 0, 0) ∈ kX5_hours := List.mem_of_getElem? (i := 16) rfl
theorem eX5_hours_29 : (29, Instr.ireturn, 1, 1, 0, 0) ∈ kX5_hours := List.mem_of_getElem? (i := 17) rfl
theorem aX5_prices : am_m nX5_prices = mX5_prices := rfl
theorem eX5_prices_0 : (0, Instr.iload_n 2, 1, 0, 0, 0) ∈ kX5_prices := List.mem_of_getElem? (i := 0) rfl
theorem eX5_prices_1 : (1, Instr.invokestatic 58, 3, 50, 1, 150) ∈ kX5_prices := List.mem_of_getElem? (i := 1) rfl
theorem eX5_prices_4 : (4, Instr.ifCond .eq 26, 3, 30, 0, 0) ∈ kX5_prices := List.mem_of_getElem? (i := 2) rfl
theorem eX5_prices_7 : (7, Instr.iload_n 3, 1, 0, 0, 0) ∈ kX5_prices := List.mem_of_getElem? (i := 3) rfl
theorem eX5_prices_8 : (8, Instr.invokestatic 58, 3, 50, 1, 150) ∈ kX5_prices := List.mem_of_getElem? (i := 4) rfl
theorem eX5_prices_11 : (11, Instr.ifCond .eq 19, 3, 30, 0, 0) ∈ kX5_prices := List.mem_of_getElem? (i := 5) rfl
theorem eX5_prices_14 : (14, Instr.iload 4, 2, 0, 0, 0) ∈ kX5_prices := List.mem_of_getElem? (i := 6) rfl
theorem eX5_prices_16 : (16, Instr.invokestatic 58, 3, 50, 1, 150) ∈ kX5_prices := List.mem_of_getElem? (i := 7) rfl
theorem eX5_prices_19 : (19, Instr.ifCond .eq 11, 3, 30, 0, 0) ∈ kX5_prices := List.mem_of_getElem? (i := 8) rfl
theorem eX5_prices_22 : (22, Instr.iload 5, 2, 0, 0, 0) ∈ kX5_prices := List.mem_of_getElem? (i := 9) rfl
theorem eX5_prices_24 : (24, Instr.invokestatic 58, 3, 50, 1, 150) ∈ kX5_prices := List.mem_of_getElem? (i := 10) rfl
theorem eX5_prices_27 : (27, Instr.ifCond .ne 5, 3, 32, 0, 0) ∈ kX5_prices := List.mem_of_getElem? (i := 11) rfl
theorem eX5_prices_30 : (30, Instr.iconst 0, 1, 0, 0, 0) ∈ kX5_prices := List.mem_of_getElem? (i := 12) rfl
theorem eX5_prices_31 : (31, Instr.ireturn, 1, 1, 0, 0) ∈ kX5_prices := List.mem_of_getElem? (i := 13) rfl
theorem eX5_prices_32 : (32, Instr.aload_n 0, 1, 0, 0, 0) ∈ kX5_prices := List.mem_of_getElem? (i := 14) rfl
theorem eX5_prices_33 : (33, Instr.getfield 62, 3, 5, 7, 87) ∈ kX5_prices := List.mem_of_getElem? (i := 15) rfl
theorem eX5_prices_36 : (36, Instr.bipush 12, 2, 0, 0, 0) ∈ kX5_prices := List.mem_of_getElem? (i := 16) rfl
theorem eX5_prices_38 : (38, Instr.if_icmp .ge 11, 3, 49, 0, 0) ∈ kX5_prices := List.mem_of_getElem? (i := 17) rfl
theorem eX5_prices_41 : (41, Instr.iload_n 1, 1, 0, 0, 0) ∈ kX5_prices := List.mem_of_getElem? (i := 18) rfl
theorem eX5_prices_42 : (42, Instr.aload_n 0, 1, 0, 0, 0) ∈ kX5_prices := List.mem_of_getElem? (i := 19) rfl
theorem eX5_prices_43 : (43, Instr.invokevirtual 65, 3, 61, 0, 156) ∈ kX5_prices := List.mem_of_getElem? (i := 20) rfl
theorem eX5_prices_46 : (46, Instr.if_icmp .gt 5, 3, 51, 0, 0) ∈ kX5_prices := List.mem_of_getElem? (i := 21) rfl
theorem eX5_prices_49 : (49, Instr.iconst 0, 1, 0, 0, 0) ∈ kX5_prices := List.mem_of_getElem? (i := 22) rfl
theorem eX5_prices_50 : (50, Instr.ireturn, 1, 1, 0, 0) ∈ kX5_prices := List.mem_of_getElem? (i := 23) rfl
theorem eX5_prices_51 : (51, Instr.aload_n 0, 1, 0, 0, 0) ∈ kX5_prices := List.mem_of_getElem? (i := 24) rfl
theorem eX5_prices_52 : (52, Instr.getfield 29, 3, 5, 6, 86) ∈ kX5_prices := List.mem_of_getElem? (i := 25) rfl
theorem eX5_prices_55 : (55, Instr.aload_n 0, 1, 0, 0, 0) ∈ kX5_prices := List.mem_of_getElem? (i := 26) rfl
theorem eX5_prices_56 : (56, Instr.getfield 62, 3, 5, 7, 87) ∈ kX5_prices := List.mem_of_getElem? (i := 27) rfl
theorem eX5_prices_59 : (59, Instr.new 27, 3, 2, 0, 60) ∈ kX5_prices := List.mem_of_getElem? (i := 28) rfl
theorem eX5_prices_62 : (62, Instr.dup, 1, 0, 0, 0) ∈ kX5_prices := List.mem_of_getElem? (i := 29) rfl
theorem eX5_prices_63 : (63, Instr.iload_n 1, 1, 0, 0, 0) ∈ kX5_prices := List.mem_of_getElem? (i := 30) rfl
theorem eX5_prices_64 : (64, Instr.iload_n 2, 1, 0, 0, 0) ∈ kX5_prices := List.mem_of_getElem? (i := 31) rfl
theorem eX5_prices_65 : (65, Instr.iload_n 3, 1, 0, 0, 0) ∈ kX5_prices := List.mem_of_getElem? (i := 32) rfl
theorem eX5_prices_66 : (66, Instr.iload 4, 2, 0, 0, 0) ∈ kX5_prices := List.mem_of_getElem? (i := 33) rfl
theorem eX5_prices_68 : (68, Instr.iload 5, 2, 0, 0, 0) ∈ kX5_prices := List.mem_of_getElem? (i := 34) rfl
theorem eX5_prices_70 : (70, Instr.invokespecial 69, 3, 10, 5, 161) ∈ kX5_prices := List.mem_of_getElem? (i := 35) rfl
theorem eX5_prices_73 : (73, Instr.aastore, 1, 0, 0, 0) ∈ kX5_prices := List.mem_of_getElem? (i := 36) rfl
theorem eX5_prices_74 : (74, Instr.aload_n 0, 1, 0, 0, 0) ∈ kX5_prices := List.mem_of_getElem? (i := 37) rfl
theorem eX5_prices_75 : (75, Instr.dup, 1, 0, 0, 0) ∈ kX5_prices := List.mem_of_getElem? (i := 38) rfl
theorem eX5_prices_76 : (76, Instr.getfield 62, 3, 5, 7, 87) ∈ kX5_prices := List.mem_of_getElem? (i := 39) rfl
theorem eX5_prices_79 : (79, Instr.iconst 1, 1, 0, 0, 0) ∈ kX5_prices := List.mem_of_getElem? (i := 40) rfl
theorem eX5_prices_80 : (80, Instr.iadd, 1, 0, 0, 0) ∈ kX5_prices := List.mem_of_getElem? (i := 41) rfl
theorem eX5_prices_81 : (81, Instr.putfield 62, 3, 5, 7, 87) ∈ kX5_prices := List.mem_of_getElem? (i := 42) rfl
theorem eX5_prices_84 : (84, Instr.iconst 1, 1, 0, 0, 0) ∈ kX5_prices := List.mem_of_getElem? (i := 43) rfl
theorem eX5_prices_85 : (85, Instr.ireturn, 1, 1, 0, 0) ∈ kX5_prices := List.mem_of_getElem? (i := 44) rfl
theorem aX5_shelf : am_m nX5_shelf = mX5_shelf := rfl
theorem eX5_shelf_0 : (0, Instr.iload_n 1, 1, 0, 0, 0) ∈ kX5_shelf := List.mem_of_getElem? (i := 0) rfl
theorem eX5_shelf_1 : (1, Instr.iconst 1, 1, 0, 0, 0) ∈ kX5_shelf := List.mem_of_getElem? (i := 1) rfl
theorem eX5_shelf_2 : (2, Instr.bipush 60, 2, 0, 0, 0) ∈ kX5_shelf := List.mem_of_getElem? (i := 2) rfl
theorem eX5_shelf_4 : (4, Instr.invokestatic 72, 3, 49, 3, 153) ∈ kX5_shelf := List.mem_of_getElem? (i := 3) rfl
theorem eX5_shelf_7 : (7, Instr.ifCond .eq 32, 3, 39, 0, 0) ∈ kX5_shelf := List.mem_of_getElem? (i := 4) rfl
theorem eX5_shelf_10 : (10, Instr.iload_n 2, 1, 0, 0, 0) ∈ kX5_shelf := List.mem_of_getElem? (i := 5) rfl
theorem eX5_shelf_11 : (11, Instr.iconst 0, 1, 0, 0, 0) ∈ kX5_shelf := List.mem_of_getElem? (i := 6) rfl
theorem eX5_shelf_12 : (12, Instr.iconst 2, 1, 0, 0, 0) ∈ kX5_shelf := List.mem_of_getElem? (i := 7) rfl
theorem eX5_shelf_13 : (13, Instr.invokestatic 72, 3, 49, 3, 153) ∈ kX5_shelf := List.mem_of_getElem? (i := 8) rfl
theorem eX5_shelf_16 : (16, Instr.ifCond .eq 23, 3, 39, 0, 0) ∈ kX5_shelf := List.mem_of_getElem? (i := 9) rfl
theorem eX5_shelf_19 : (19, Instr.iload 4, 2, 0, 0, 0) ∈ kX5_shelf := List.mem_of_getElem? (i := 10) rfl
theorem eX5_shelf_21 : (21, Instr.iconst 1, 1, 0, 0, 0) ∈ kX5_shelf := List.mem_of_getElem? (i := 11) rfl
theorem eX5_shelf_22 : (22, Instr.bipush 99, 2, 0, 0, 0) ∈ kX5_shelf := List.mem_of_getElem? (i := 12) rfl
theorem eX5_shelf_24 : (24, Instr.invokestatic 72, 3, 49, 3, 153) ∈ kX5_shelf := List.mem_of_getElem? (i := 13) rfl
theorem eX5_shelf_27 : (27, Instr.ifCond .eq 12, 3, 39, 0, 0) ∈ kX5_shelf := List.mem_of_getElem? (i := 14) rfl
theorem eX5_shelf_30 : (30, Instr.aload_n 0, 1, 0, 0, 0) ∈ kX5_shelf := List.mem_of_getElem? (i := 15) rfl
theorem eX5_shelf_31 : (31, Instr.getfield 76, 3, 5, 1, 81) ∈ kX5_shelf := List.mem_of_getElem? (i := 16) rfl
theorem eX5_shelf_34 : (34, Instr.bipush 16, 2, 0, 0, 0) ∈ kX5_shelf := List.mem_of_getElem? (i := 17) rfl
theorem eX5_shelf_36 : (36, Instr.if_icmp .lt 5, 3, 41, 0, 0) ∈ kX5_shelf := List.mem_of_getElem? (i := 18) rfl
theorem eX5_shelf_39 : (39, Instr.iconst (-1), 1, 0, 0, 0) ∈ kX5_shelf := List.mem_of_getElem? (i := 19) rfl
theorem eX5_shelf_40 : (40, Instr.ireturn, 1, 0, 0, 0) ∈ kX5_shelf := List.mem_of_getElem? (i := 20) rfl
theorem eX5_shelf_41 : (41, Instr.aload_n 0, 1, 0, 0, 0) ∈ kX5_shelf := List.mem_of_getElem? (i := 21) rfl
theorem eX5_shelf_42 : (42, Instr.getfield 76, 3, 5, 1, 81) ∈ kX5_shelf := List.mem_of_getElem? (i := 22) rfl
theorem eX5_shelf_45 : (45, Instr.istore 5, 2, 0, 0, 0) ∈ kX5_shelf := List.mem_of_getElem? (i := 23) rfl
theorem eX5_shelf_47 : (47, Instr.aload_n 0, 1, 0, 0, 0) ∈ kX5_shelf := List.mem_of_getElem? (i := 24) rfl
theorem eX5_shelf_48 : (48, Instr.getfield 11, 3, 5, 0, 80) ∈ kX5_shelf := List.mem_of_getElem? (i := 25) rfl
theorem eX5_shelf_51 : (51, Instr.iload 5, 2, 0, 0, 0) ∈ kX5_shelf := List.mem_of_getElem? (i := 26) rfl
theorem eX5_shelf_53 : (53, Instr.new 9, 3, 3, 0, 54) ∈ kX5_shelf := List.mem_of_getElem? (i := 27) rfl
theorem eX5_shelf_56 : (56, Instr.dup, 1, 0, 0, 0) ∈ kX5_shelf := List.mem_of_getElem? (i := 28) rfl
theorem eX5_shelf_57 : (57, Instr.iload 5, 2, 0, 0, 0) ∈ kX5_shelf := List.mem_of_getElem? (i := 29) rfl
theorem eX5_shelf_59 : (59, Instr.iload_n 1, 1, 0, 0, 0) ∈ kX5_shelf := List.mem_of_getElem? (i := 30) rfl
theorem eX5_shelf_60 : (60, Instr.iload_n 2, 1, 0, 0, 0) ∈ kX5_shelf := List.mem_of_getElem? (i := 31) rfl
theorem eX5_shelf_61 : (61, Instr.iload_n 3, 1, 0, 0, 0) ∈ kX5_shelf := List.mem_of_getElem? (i := 32) rfl
theorem eX5_shelf_62 : (62, Instr.iload 4, 2, 0, 0, 0) ∈ kX5_shelf := List.mem_of_getElem? (i := 33) rfl
theorem eX5_shelf_64 : (64, Instr.invokespecial 79, 3, 12, 5, 188) ∈ kX5_shelf := List.mem_of_getElem? (i := 34) rfl
theorem eX5_shelf_67 : (67, Instr.aastore, 1, 0, 0, 0) ∈ kX5_shelf := List.mem_of_getElem? (i := 35) rfl
theorem eX5_shelf_68 : (68, Instr.aload_n 0, 1, 0, 0, 0) ∈ kX5_shelf := List.mem_of_getElem? (i := 36) rfl
theorem eX5_shelf_69 : (69, Instr.dup, 1, 0, 0, 0) ∈ kX5_shelf := List.mem_of_getElem? (i := 37) rfl
theorem eX5_shelf_70 : (70, Instr.getfield 76, 3, 5, 1, 81) ∈ kX5_shelf := List.mem_of_getElem? (i := 38) rfl
theorem eX5_shelf_73 : (73, Instr.iconst 1, 1, 0, 0, 0) ∈ kX5_shelf := List.mem_of_getElem? (i := 39) rfl
theorem eX5_shelf_74 : (74, Instr.iadd, 1, 0, 0, 0) ∈ kX5_shelf := List.mem_of_getElem? (i := 40) rfl
theorem eX5_shelf_75 : (75, Instr.putfield 76, 3, 5, 1, 81) ∈ kX5_shelf := List.mem_of_getElem? (i := 41) rfl
theorem eX5_shelf_78 : (78, Instr.iload 5, 2, 0, 0, 0) ∈ kX5_shelf := List.mem_of_getElem? (i := 42) rfl
theorem eX5_shelf_80 : (80, Instr.ireturn, 1, 0, 0, 0) ∈ kX5_shelf := List.mem_of_getElem? (i := 43) rfl
theorem aX5_put : am_m nX5_put = mX5_put := rfl
theorem eX5_put_0 : (0, Instr.iload_n 1, 1, 0, 0, 0) ∈ kX5_put := List.mem_of_getElem? (i := 0) rfl
theorem eX5_put_1 : (1, Instr.iconst 1, 1, 0, 0, 0) ∈ kX5_put := List.mem_of_getElem? (i := 1) rfl
theorem eX5_put_2 : (2, Instr.bipush 20, 2, 0, 0, 0) ∈ kX5_put := List.mem_of_getElem? (i := 2) rfl
theorem eX5_put_4 : (4, Instr.invokestatic 72, 3, 49, 3, 153) ∈ kX5_put := List.mem_of_getElem? (i := 3) rfl
theorem eX5_put_7 : (7, Instr.ifCond .eq 34, 3, 41, 0, 0) ∈ kX5_put := List.mem_of_getElem? (i := 4) rfl
theorem eX5_put_10 : (10, Instr.iload_n 2, 1, 0, 0, 0) ∈ kX5_put := List.mem_of_getElem? (i := 5) rfl
theorem eX5_put_11 : (11, Instr.iconst 0, 1, 0, 0, 0) ∈ kX5_put := List.mem_of_getElem? (i := 6) rfl
theorem eX5_put_12 : (12, Instr.iconst 2, 1, 0, 0, 0) ∈ kX5_put := List.mem_of_getElem? (i := 7) rfl
theorem eX5_put_13 : (13, Instr.invokestatic 72, 3, 49, 3, 153) ∈ kX5_put := List.mem_of_getElem? (i := 8) rfl
theorem eX5_put_16 : (16, Instr.ifCond .eq 25, 3, 41, 0, 0) ∈ kX5_put := List.mem_of_getElem? (i := 9) rfl
theorem eX5_put_19 : (19, Instr.iload 5, 2, 0, 0, 0) ∈ kX5_put := List.mem_of_getElem? (i := 10) rfl
theorem eX5_put_21 : (21, Instr.iconst 0, 1, 0, 0, 0) ∈ kX5_put := List.mem_of_getElem? (i := 11) rfl
theorem eX5_put_22 : (22, Instr.ldc 82, 2, 65535, 0, 232) ∈ kX5_put := List.mem_of_getElem? (i := 12) rfl
theorem eX5_put_24 : (24, Instr.invokestatic 72, 3, 49, 3, 153) ∈ kX5_put := List.mem_of_getElem? (i := 13) rfl
theorem eX5_put_27 : (27, Instr.ifCond .eq 14, 3, 41, 0, 0) ∈ kX5_put := List.mem_of_getElem? (i := 14) rfl
theorem eX5_put_30 : (30, Instr.iload 6, 2, 0, 0, 0) ∈ kX5_put := List.mem_of_getElem? (i := 15) rfl
theorem eX5_put_32 : (32, Instr.iconst 0, 1, 0, 0, 0) ∈ kX5_put := List.mem_of_getElem? (i := 16) rfl
theorem eX5_put_33 : (33, Instr.ldc 48, 2, 100000, 0, 130) ∈ kX5_put := List.mem_of_getElem? (i := 17) rfl
theorem eX5_put_35 : (35, Instr.invokestatic 72, 3, 49, 3, 153) ∈ kX5_put := List.mem_of_getElem? (i := 18) rfl
theorem eX5_put_38 : (38, Instr.ifCond .ne 6, 3, 44, 0, 0) ∈ kX5_put := List.mem_of_getElem? (i := 19) rfl
theorem eX5_put_41 : (41, Instr.bipush (-2), 2, 0, 0, 0) ∈ kX5_put := List.mem_of_getElem? (i := 20) rfl
theorem eX5_put_43 : (43, Instr.ireturn, 1, 0, 0, 0) ∈ kX5_put := List.mem_of_getElem? (i := 21) rfl
theorem eX5_put_44 : (44, Instr.aload_n 0, 1, 0, 0, 0) ∈ kX5_put := List.mem_of_getElem? (i := 22) rfl
theorem eX5_put_45 : (45, Instr.invokevirtual 83, 3, 54, 0, 233) ∈ kX5_put := List.mem_of_getElem? (i := 23) rfl
theorem eX5_put_48 : (48, Instr.ifCond .ne 6, 3, 54, 0, 0) ∈ kX5_put := List.mem_of_getElem? (i := 24) rfl
theorem eX5_put_51 : (51, Instr.bipush (-3), 2, 0, 0, 0) ∈ kX5_put := List.mem_of_getElem? (i := 25) rfl
theorem eX5_put_53 : (53, Instr.ireturn, 1, 0, 0, 0) ∈ kX5_put := List.mem_of_getElem? (i := 26) rfl
theorem eX5_put_54 : (54, Instr.aload_n 0, 1, 0, 0, 0) ∈ kX5_put := List.mem_of_getElem? (i := 27) rfl
theorem eX5_put_55 : (55, Instr.getfield 87, 3, 5, 3, 83) ∈ kX5_put := List.mem_of_getElem? (i := 28) rfl
theorem eX5_put_58 : (58, Instr.bipush 120, 2, 0, 0, 0) ∈ kX5_put := List.mem_of_getElem? (i := 29) rfl
theorem eX5_put_60 : (60, Instr.if_icmp .lt 6, 3, 66, 0, 0) ∈ kX5_put := List.mem_of_getElem? (i := 30) rfl
theorem eX5_put_63 : (63, Instr.bipush (-4), 2, 0, 0, 0) ∈ kX5_put := List.mem_of_getElem? (i := 31) rfl
theorem eX5_put_65 : (65, Instr.ireturn, 1, 0, 0, 0) ∈ kX5_put := List.mem_of_getElem? (i := 32) rfl
theorem eX5_put_66 : (66, Instr.new 15, 3, 4, 0, 56) ∈ kX5_put := List.mem_of_getElem? (i := 33) rfl
theorem eX5_put_69 : (69, Instr.dup, 1, 0, 0, 0) ∈ kX5_put := List.mem_of_getElem? (i := 34) rfl
theorem eX5_put_70 : (70, Instr.iload_n 1, 1, 0, 0, 0) ∈ kX5_put := List.mem_of_getElem? (i := 35) rfl
theorem eX5_put_71 : (71, Instr.iload_n 2, 1, 0, 0, 0) ∈ kX5_put := List.mem_of_getElem? (i := 36) rfl
theorem eX5_put_72 : (72, Instr.iload_n 3, 1, 0, 0, 0) ∈ kX5_put := List.mem_of_getElem? (i := 37) rfl
theorem eX5_put_73 : (73, Instr.iload 4, 2, 0, 0, 0) ∈ kX5_put := List.mem_of_getElem? (i := 38) rfl
theorem eX5_put_75 : (75, Instr.iload 5, 2, 0, 0, 0) ∈ kX5_put := List.mem_of_getElem? (i := 39) rfl
theorem eX5_put_77 : (77, Instr.iload 6, 2, 0, 0, 0) ∈ kX5_put := List.mem_of_getElem? (i := 40) rfl
theorem eX5_put_79 : (79, Instr.aload_n 0, 1, 0, 0, 0) ∈ kX5_put := List.mem_of_getElem? (i := 41) rfl
theorem eX5_put_80 : (80, Instr.getfield 49, 3, 5, 10, 90) ∈ kX5_put := List.mem_of_getElem? (i := 42) rfl
theorem eX5_put_83 : (83, Instr.invokespecial 90, 3, 17, 7, 238) ∈ kX5_put := List.mem_of_getElem? (i := 43) rfl
theorem eX5_put_86 : (86, Instr.astore 7, 2, 0, 0, 0) ∈ kX5_put := List.mem_of_getElem? (i := 44) rfl
theorem eX5_put_88 : (88, Instr.aload_n 0, 1, 0, 0, 0) ∈ kX5_put := List.mem_of_getElem? (i := 45) rfl
theorem eX5_put_89 : (89, Instr.aload 7, 2, 0, 0, 0) ∈ kX5_put := List.mem_of_getElem? (i := 46) rfl
theorem eX5_put_91 : (91, Instr.invokevirtual 93, 3, 65, 1, 294) ∈ kX5_put := List.mem_of_getElem? (i := 47) rfl
theorem eX5_put_94 : (94, Instr.astore 8, 2, 0, 0, 0) ∈ kX5_put := List.mem_of_getElem? (i := 48) rfl
theorem eX5_put_96 : (96, Instr.aload 8, 2, 0, 0, 0) ∈ kX5_put := List.mem_of_getElem? (i := 49) rfl
theorem eX5_put_98 : (98, Instr.ifnonnull 6, 3, 104, 0, 0) ∈ kX5_put := List.mem_of_getElem? (i := 50) rfl
theorem eX5_put_101 : (101, Instr.bipush (-5), 2, 0, 0, 0) ∈ kX5_put := List.mem_of_getElem? (i := 51) rfl
theorem eX5_put_103 : (103, Instr.ireturn, 1, 0, 0, 0) ∈ kX5_put := List.mem_of_getElem? (i := 52) rfl
theorem eX5_put_104 : (104, Instr.aload_n 0, 1, 0, 0, 0) ∈ kX5_put := List.mem_of_getElem? (i := 53) rfl
theorem eX5_put_105 : (105, Instr.getfield 87, 3, 5, 3, 83) ∈ kX5_put := List.mem_of_getElem? (i := 54) rfl
theorem eX5_put_108 : (108, Instr.istore 9, 2, 0, 0, 0) ∈ kX5_put := List.mem_of_getElem? (i := 55) rfl
theorem eX5_put_110 : (110, Instr.aload_n 0, 1, 0, 0, 0) ∈ kX5_put := List.mem_of_getElem? (i := 56) rfl
theorem eX5_put_111 : (111, Instr.getfield 17, 3, 5, 2, 82) ∈ kX5_put := List.mem_of_getElem? (i := 57) rfl
theorem eX5_put_114 : (114, Instr.iload 9, 2, 0, 0, 0) ∈ kX5_put := List.mem_of_getElem? (i := 58) rfl
theorem eX5_put_116 : (116, Instr.aload 7, 2, 0, 0, 0) ∈ kX5_put := List.mem_of_getElem? (i := 59) rfl
theorem eX5_put_118 : (118, Instr.aastore, 1, 0, 0, 0) ∈ kX5_put := List.mem_of_getElem? (i := 60) rfl
theorem eX5_put_119 : (119, Instr.aload_n 0, 1, 0, 0, 0) ∈ kX5_put := List.mem_of_getElem? (i := 61) rfl
theorem eX5_put_120 : (120, Instr.dup, 1, 0, 0, 0) ∈ kX5_put := List.mem_of_getElem? (i := 62) rfl
theorem eX5_put_121 : (121, Instr.getfield 87, 3, 5, 3, 83) ∈ kX5_put := List.mem_of_getElem? (i := 63) rfl
theorem eX5_put_124 : (124, Instr.iconst 1, 1, 0, 0, 0) ∈ kX5_put := List.mem_of_getElem? (i := 64) rfl
theorem eX5_put_125 : (125, Instr.iadd, 1, 0, 0, 0) ∈ kX5_put := List.mem_of_getElem? (i := 65) rfl
theorem eX5_put_126 : (126, Instr.putfield 87, 3, 5, 3, 83) ∈ kX5_put := List.mem_of_getElem? (i := 66) rfl
theorem eX5_put_129 : (129, Instr.aload 8, 2, 0, 0, 0) ∈ kX5_put := List.mem_of_getElem? (i := 67) rfl
theorem eX5_put_131 : (131, Instr.aload 7, 2, 0, 0, 0) ∈ kX5_put := List.mem_of_getElem? (i := 68) rfl
theorem eX5_put_133 : (133, Instr.invokevirtual 97, 3, 15, 1, 327) ∈ kX5_put := List.mem_of_getElem? (i := 69) rfl
theorem eX5_put_136 : (136, Instr.aload_n 0, 1, 0, 0, 0) ∈ kX5_put := List.mem_of_getElem? (i := 70) rfl
theorem eX5_put_137 : (137, Instr.dup, 1, 0, 0, 0) ∈ kX5_put := List.mem_of_getElem? (i := 71) rfl
theorem eX5_put_138 : (138, Instr.getfield 101, 3, 5, 14, 94) ∈ kX5_put := List.mem_of_getElem? (i := 72) rfl
theorem eX5_put_141 : (141, Instr.iconst 2, 1, 0, 0, 0) ∈ kX5_put := List.mem_of_getElem? (i := 73) rfl
theorem eX5_put_142 : (142, Instr.aload 8, 2, 0, 0, 0) ∈ kX5_put := List.mem_of_getElem? (i := 74) rfl
theorem eX5_put_144 : (144, Instr.getfield 104, 3, 3, 4, 203) ∈ kX5_put := List.mem_of_getElem? (i := 75) rfl
theorem eX5_put_147 : (147, Instr.imul, 1, 0, 0, 0) ∈ kX5_put := List.mem_of_getElem? (i := 76) rfl
theorem eX5_put_148 : (148, Instr.iadd, 1, 0, 0, 0) ∈ kX5_put := List.mem_of_getElem? (i := 77) rfl
theorem eX5_put_149 : (149, Instr.putfield 101, 3, 5, 14, 94) ∈ kX5_put := List.mem_of_getElem? (i := 78) rfl
theorem eX5_put_152 : (152, Instr.iload 9, 2, 0, 0, 0) ∈ kX5_put := List.mem_of_getElem? (i := 79) rfl
theorem eX5_put_154 : (154, Instr.invokestatic 107, 3, 58, 1, 331) ∈ kX5_put := List.mem_of_getElem? (i := 80) rfl
theorem eX5_put_157 : (157, Instr.ireturn, 1, 0, 0, 0) ∈ kX5_put := List.mem_of_getElem? (i := 81) rfl
theorem aX5_fee : am_m nX5_fee = mX5_fee := rfl
theorem eX5_fee_0 : (0, Instr.iload_n 1, 1, 0, 0, 0) ∈ kX5_fee := List.mem_of_getElem? (i := 0) rfl
theorem eX5_fee_1 : (1, Instr.invokestatic 111, 3, 60, 1, 341) ∈ kX5_fee := List.mem_of_getElem? (i := 1) rfl
theorem eX5_fee_4 : (4, Instr.ifCond .ne 6, 3, 10, 0, 0) ∈ kX5_fee := List.mem_of_getElem? (i := 2) rfl
theorem eX5_fee_7 : (7, Instr.bipush (-2), 2, 0, 0, 0) ∈ kX5_fee := List.mem_of_getElem? (i := 3) rfl
theorem eX5_fee_9 : (9, Instr.ireturn, 1, 0, 0, 0) ∈ kX5_fee := List.mem_of_getElem? (i := 4) rfl
theorem eX5_fee_10 : (10, Instr.aload_n 0, 1, 0, 0, 0) ∈ kX5_fee := List.mem_of_getElem? (i := 5) rfl
theorem eX5_fee_11 : (11, Instr.iload_n 1, 1, 0, 0, 0) ∈ kX5_fee := List.mem_of_getElem? (i := 6) rfl
theorem eX5_fee_12 : (12, Instr.bipush 100, 2, 0, 0, 0) ∈ kX5_fee := List.mem_of_getElem? (i := 7) rfl
theorem eX5_fee_14 : (14, Instr.idiv, 1, 0, 0, 0) ∈ kX5_fee := List.mem_of_getElem? (i := 8) rfl
theorem eX5_fee_15 : (15, Instr.invokevirtual 114, 3, 56, 1, 344) ∈ kX5_fee := List.mem_of_getElem? (i := 9) rfl
theorem eX5_fee_18 : (18, Instr.astore_n 2, 1, 0, 0, 0) ∈ kX5_fee := List.mem_of_getElem? (i := 10) rfl
theorem eX5_fee_19 : (19, Instr.aload_n 2, 1, 0, 0, 0) ∈ kX5_fee := List.mem_of_getElem? (i := 11) rfl
theorem eX5_fee_20 : (20, Instr.ifnonnull 6, 3, 26, 0, 0) ∈ kX5_fee := List.mem_of_getElem? (i := 12) rfl
theorem eX5_fee_23 : (23, Instr.bipush (-3), 2, 0, 0, 0) ∈ kX5_fee := List.mem_of_getElem? (i := 13) rfl
theorem eX5_fee_25 : (25, Instr.ireturn, 1, 0, 0, 0) ∈ kX5_fee := List.mem_of_getElem? (i := 14) rfl
theorem eX5_fee_26 : (26, Instr.aload_n 2, 1, 0, 0, 0) ∈ kX5_fee := List.mem_of_getElem? (i := 15) rfl
theorem eX5_fee_27 : (27, Instr.getfield 118, 3, 4, 7, 264) ∈ kX5_fee := List.mem_of_getElem? (i := 16) rfl
theorem eX5_fee_30 : (30, Instr.ifCond .eq 14, 3, 44, 0, 0) ∈ kX5_fee := List.mem_of_getElem? (i := 17) rfl
theorem eX5_fee_33 : (33, Instr.aload_n 2, 1, 0, 0, 0) ∈ kX5_fee := List.mem_of_getElem? (i := 18) rfl
theorem eX5_fee_34 : (34, Instr.getfield 118, 3, 4, 7, 264) ∈ kX5_fee := List.mem_of_getElem? (i := 19) rfl
theorem eX5_fee_37 : (37, Instr.iconst 2, 1, 0, 0, 0) ∈ kX5_fee := List.mem_of_getElem? (i := 20) rfl
theorem eX5_fee_38 : (38, Instr.if_icmp .eq 6, 3, 44, 0, 0) ∈ kX5_fee := List.mem_of_getElem? (i := 21) rfl
theorem eX5_fee_41 : (41, Instr.bipush (-4), 2, 0, 0, 0) ∈ kX5_fee := List.mem_of_getElem? (i := 22) rfl
theorem eX5_fee_43 : (43, Instr.ireturn, 1, 0, 0, 0) ∈ kX5_fee := List.mem_of_getElem? (i := 23) rfl
theorem eX5_fee_44 : (44, Instr.aload_n 0, 1, 0, 0, 0) ∈ kX5_fee := List.mem_of_getElem? (i := 24) rfl
theorem eX5_fee_45 : (45, Instr.aload_n 2, 1, 0, 0, 0) ∈ kX5_fee := List.mem_of_getElem? (i := 25) rfl
theorem eX5_fee_46 : (46, Instr.invokevirtual 121, 3, 63, 1, 348) ∈ kX5_fee := List.mem_of_getElem? (i := 26) rfl
theorem eX5_fee_49 : (49, Instr.ireturn, 1, 0, 0, 0) ∈ kX5_fee := List.mem_of_getElem? (i := 27) rfl
theorem aX5_give : am_m nX5_give = mX5_give := rfl
theorem eX5_give_0 : (0, Instr.aload_n 0, 1, 0, 0, 0) ∈ kX5_give := List.mem_of_getElem? (i := 0) rfl
theorem eX5_give_1 : (1, Instr.iload_n 1, 1, 0, 0, 0) ∈ kX5_give := List.mem_of_getElem? (i := 1) rfl
theorem eX5_give_2 : (2, Instr.invokevirtual 125, 3, 31, 1, 369) ∈ kX5_give := List.mem_of_getElem? (i := 2) rfl
theorem eX5_give_5 : (5, Instr.istore_n 2, 1, 0, 0, 0) ∈ kX5_give := List.mem_of_getElem? (i := 3) rfl
theorem eX5_give_6 : (6, Instr.aload_n 0, 1, 0, 0, 0) ∈ kX5_give := List.mem_of_getElem? (i := 4) rfl
theorem eX5_give_7 : (7, Instr.iload_n 1, 1, 0, 0, 0) ∈ kX5_give := List.mem_of_getElem? (i := 5) rfl
theorem eX5_give_8 : (8, Instr.bipush 100, 2, 0, 0, 0) ∈ kX5_give := List.mem_of_getElem? (i := 6) rfl
theorem eX5_give_10 : (10, Instr.idiv, 1, 0, 0, 0) ∈ kX5_give := List.mem_of_getElem? (i := 7) rfl
theorem eX5_give_11 : (11, Instr.invokevirtual 114, 3, 56, 1, 344) ∈ kX5_give := List.mem_of_getElem? (i := 8) rfl
theorem eX5_give_14 : (14, Instr.astore_n 3, 1, 0, 0, 0) ∈ kX5_give := List.mem_of_getElem? (i := 9) rfl
theorem eX5_give_15 : (15, Instr.iload_n 2, 1, 0, 0, 0) ∈ kX5_give := List.mem_of_getElem? (i := 10) rfl
theorem eX5_give_16 : (16, Instr.ifCond .lt 7, 3, 23, 0, 0) ∈ kX5_give := List.mem_of_getElem? (i := 11) rfl
theorem eX5_give_19 : (19, Instr.aload_n 3, 1, 0, 0, 0) ∈ kX5_give := List.mem_of_getElem? (i := 12) rfl
theorem eX5_give_20 : (20, Instr.ifnonnull 5, 3, 25, 0, 0) ∈ kX5_give := List.mem_of_getElem? (i := 13) rfl
theorem eX5_give_23 : (23, Instr.iload_n 2, 1, 0, 0, 0) ∈ kX5_give := List.mem_of_getElem? (i := 14) rfl
theorem eX5_give_24 : (24, Instr.ireturn, 1, 0, 0, 0) ∈ kX5_give := List.mem_of_getElem? (i := 15) rfl
theorem eX5_give_25 : (25, Instr.aload_n 3, 1, 0, 0, 0) ∈ kX5_give := List.mem_of_getElem? (i := 16) rfl
theorem eX5_give_26 : (26, Instr.getfield 118, 3, 4, 7, 264) ∈ kX5_give := List.mem_of_getElem? (i := 17) rfl
theorem eX5_give_29 : (29, Instr.iconst 2, 1, 0, 0, 0) ∈ kX5_give := List.mem_of_getElem? (i := 18) rfl
theorem eX5_give_30 : (30, Instr.if_icmp .ne 6, 3, 36, 0, 0) ∈ kX5_give := List.mem_of_getElem? (i := 19) rfl
theorem eX5_give_33 : (33, Instr.bipush (-5), 2, 0, 0, 0) ∈ kX5_give := List.mem_of_getElem? (i := 20) rfl
theorem eX5_give_35 : (35, Instr.ireturn, 1, 0, 0, 0) ∈ kX5_give := List.mem_of_getElem? (i := 21) rfl
theorem eX5_give_36 : (36, Instr.aload_n 0, 1, 0, 0, 0) ∈ kX5_give := List.mem_of_getElem? (i := 22) rfl
theorem eX5_give_37 : (37, Instr.invokevirtual 83, 3, 54, 0, 233) ∈ kX5_give := List.mem_of_getElem? (i := 23) rfl
theorem eX5_give_40 : (40, Instr.ifCond .ne 6, 3, 46, 0, 0) ∈ kX5_give := List.mem_of_getElem? (i := 24) rfl
theorem eX5_give_43 : (43, Instr.bipush (-6), 2, 0, 0, 0) ∈ kX5_give := List.mem_of_getElem? (i := 25) rfl
theorem eX5_give_45 : (45, Instr.ireturn, 1, 0, 0, 0) ∈ kX5_give := List.mem_of_getElem? (i := 26) rfl
theorem eX5_give_46 : (46, Instr.aload_n 3, 1, 0, 0, 0) ∈ kX5_give := List.mem_of_getElem? (i := 27) rfl
theorem eX5_give_47 : (47, Instr.invokevirtual 128, 3, 24, 0, 370) ∈ kX5_give := List.mem_of_getElem? (i := 28) rfl
theorem eX5_give_50 : (50, Instr.ifCond .eq 6, 3, 56, 0, 0) ∈ kX5_give := List.mem_of_getElem? (i := 29) rfl
theorem eX5_give_53 : (53, Instr.bipush (-7), 2, 0, 0, 0) ∈ kX5_give := List.mem_of_getElem? (i := 30) rfl
theorem eX5_give_55 : (55, Instr.ireturn, 1, 0, 0, 0) ∈ kX5_give := List.mem_of_getElem? (i := 31) rfl
theorem eX5_give_56 : (56, Instr.aload_n 0, 1, 0, 0, 0) ∈ kX5_give := List.mem_of_getElem? (i := 32) rfl
theorem eX5_give_57 : (57, Instr.aload_n 3, 1, 0, 0, 0) ∈ kX5_give := List.mem_of_getElem? (i := 33) rfl
theorem eX5_give_58 : (58, Instr.iconst 1, 1, 0, 0, 0) ∈ kX5_give := List.mem_of_getElem? (i := 34) rfl
theorem eX5_give_59 : (59, Instr.invokevirtual 131, 3, 67, 2, 374) ∈ kX5_give := List.mem_of_getElem? (i := 35) rfl
theorem eX5_give_62 : (62, Instr.aload_n 0, 1, 0, 0, 0) ∈ kX5_give := List.mem_of_getElem? (i := 36) rfl
theorem eX5_give_63 : (63, Instr.dup, 1, 0, 0, 0) ∈ kX5_give := List.mem_of_getElem? (i := 37) rfl
theorem eX5_give_64 : (64, Instr.getfield 135, 3, 5, 13, 93) ∈ kX5_give := List.mem_of_getElem? (i := 38) rfl
theorem eX5_give_67 : (67, Instr.iload_n 2, 1, 0, 0, 0) ∈ kX5_give := List.mem_of_getElem? (i := 39) rfl
theorem eX5_give_68 : (68, Instr.iadd, 1, 0, 0, 0) ∈ kX5_give := List.mem_of_getElem? (i := 40) rfl
theorem eX5_give_69 : (69, Instr.putfield 135, 3, 5, 13, 93) ∈ kX5_give := List.mem_of_getElem? (i := 41) rfl
theorem eX5_give_72 : (72, Instr.iload_n 2, 1, 0, 0, 0) ∈ kX5_give := List.mem_of_getElem? (i := 42) rfl
theorem eX5_give_73 : (73, Instr.ireturn, 1, 0, 0, 0) ∈ kX5_give := List.mem_of_getElem? (i := 43) rfl
theorem aX5_claim : am_m nX5_claim = mX5_claim := rfl
theorem eX5_claim_0 : (0, Instr.aload_n 0, 1, 0, 0, 0) ∈ kX5_claim := List.mem_of_getElem? (i := 0) rfl
theorem eX5_claim_1 : (1, Instr.getfield 138, 3, 5, 5, 85) ∈ kX5_claim := List.mem_of_getElem? (i := 1) rfl
theorem eX5_claim_4 : (4, Instr.bipush 40, 2, 0, 0, 0) ∈ kX5_claim := List.mem_of_getElem? (i := 2) rfl
theorem eX5_claim_6 : (6, Instr.if_icmp .lt 5, 3, 11, 0, 0) ∈ kX5_claim := List.mem_of_getElem? (i := 3) rfl
theorem eX5_claim_9 : (9, Instr.iconst (-1), 1, 0, 0, 0) ∈ kX5_claim := List.mem_of_getElem? (i := 4) rfl
theorem eX5_claim_10 : (10, Instr.ireturn, 1, 0, 0, 0) ∈ kX5_claim := List.mem_of_getElem? (i := 5) rfl
theorem eX5_claim_11 : (11, Instr.aload_n 0, 1, 0, 0, 0) ∈ kX5_claim := List.mem_of_getElem? (i := 6) rfl
theorem eX5_claim_12 : (12, Instr.getfield 138, 3, 5, 5, 85) ∈ kX5_claim := List.mem_of_getElem? (i := 7) rfl
theorem eX5_claim_15 : (15, Instr.istore_n 1, 1, 0, 0, 0) ∈ kX5_claim := List.mem_of_getElem? (i := 8) rfl
theorem eX5_claim_16 : (16, Instr.aload_n 0, 1, 0, 0, 0) ∈ kX5_claim := List.mem_of_getElem? (i := 9) rfl
theorem eX5_claim_17 : (17, Instr.getfield 23, 3, 5, 4, 84) ∈ kX5_claim := List.mem_of_getElem? (i := 10) rfl
theorem eX5_claim_20 : (20, Instr.iload_n 1, 1, 0, 0, 0) ∈ kX5_claim := List.mem_of_getElem? (i := 11) rfl
theorem eX5_claim_21 : (21, Instr.new 21, 3, 1, 0, 58) ∈ kX5_claim := List.mem_of_getElem? (i := 12) rfl
theorem eX5_claim_24 : (24, Instr.dup, 1, 0, 0, 0) ∈ kX5_claim := List.mem_of_getElem? (i := 13) rfl
theorem eX5_claim_25 : (25, Instr.invokespecial 141, 3, 7, 0, 387) ∈ kX5_claim := List.mem_of_getElem? (i := 14) rfl
theorem eX5_claim_28 : (28, Instr.aastore, 1, 0, 0, 0) ∈ kX5_claim := List.mem_of_getElem? (i := 15) rfl
theorem eX5_claim_29 : (29, Instr.aload_n 0, 1, 0, 0, 0) ∈ kX5_claim := List.mem_of_getElem? (i := 16) rfl
theorem eX5_claim_30 : (30, Instr.dup, 1, 0, 0, 0) ∈ kX5_claim := List.mem_of_getElem? (i := 17) rfl
theorem eX5_claim_31 : (31, Instr.getfield 138, 3, 5, 5, 85) ∈ kX5_claim := List.mem_of_getElem? (i := 18) rfl
theorem eX5_claim_34 : (34, Instr.iconst 1, 1, 0, 0, 0) ∈ kX5_claim := List.mem_of_getElem? (i := 19) rfl
theorem eX5_claim_35 : (35, Instr.iadd, 1, 0, 0, 0) ∈ kX5_claim := List.mem_of_getElem? (i := 20) rfl
theorem eX5_claim_36 : (36, Instr.putfield 138, 3, 5, 5, 85) ∈ kX5_claim := List.mem_of_getElem? (i := 21) rfl
theorem eX5_claim_39 : (39, Instr.iload_n 1, 1, 0, 0, 0) ∈ kX5_claim := List.mem_of_getElem? (i := 22) rfl
theorem eX5_claim_40 : (40, Instr.ireturn, 1, 0, 0, 0) ∈ kX5_claim := List.mem_of_getElem? (i := 23) rfl
theorem aX5_mark : am_m nX5_mark = mX5_mark := rfl
theorem eX5_mark_0 : (0, Instr.aload_n 0, 1, 0, 0, 0) ∈ kX5_mark := List.mem_of_getElem? (i := 0) rfl
theorem eX5_mark_1 : (1, Instr.iload_n 1, 1, 0, 0, 0) ∈ kX5_mark := List.mem_of_getElem? (i := 1) rfl
theorem eX5_mark_2 : (2, Instr.invokevirtual 142, 3, 57, 1, 407) ∈ kX5_mark := List.mem_of_getElem? (i := 2) rfl
theorem eX5_mark_5 : (5, Instr.astore 4, 2, 0, 0, 0) ∈ kX5_mark := List.mem_of_getElem? (i := 3) rfl
theorem eX5_mark_7 : (7, Instr.aload 4, 2, 0, 0, 0) ∈ kX5_mark := List.mem_of_getElem? (i := 4) rfl
theorem eX5_mark_9 : (9, Instr.ifnull 20, 3, 29, 0, 0) ∈ kX5_mark := List.mem_of_getElem? (i := 5) rfl
theorem eX5_mark_12 : (12, Instr.aload 4, 2, 0, 0, 0) ∈ kX5_mark := List.mem_of_getElem? (i := 6) rfl
theorem eX5_mark_14 : (14, Instr.getfield 146, 3, 1, 1, 393) ∈ kX5_mark := List.mem_of_getElem? (i := 7) rfl
theorem eX5_mark_17 : (17, Instr.ifCond .ne 12, 3, 29, 0, 0) ∈ kX5_mark := List.mem_of_getElem? (i := 8) rfl
theorem eX5_mark_20 : (20, Instr.iload_n 2, 1, 0, 0, 0) ∈ kX5_mark := List.mem_of_getElem? (i := 9) rfl
theorem eX5_mark_21 : (21, Instr.iconst 0, 1, 0, 0, 0) ∈ kX5_mark := List.mem_of_getElem? (i := 10) rfl
theorem eX5_mark_22 : (22, Instr.iconst 3, 1, 0, 0, 0) ∈ kX5_mark := List.mem_of_getElem? (i := 11) rfl
theorem eX5_mark_23 : (23, Instr.invokestatic 72, 3, 49, 3, 153) ∈ kX5_mark := List.mem_of_getElem? (i := 12) rfl
theorem eX5_mark_26 : (26, Instr.ifCond .ne 5, 3, 31, 0, 0) ∈ kX5_mark := List.mem_of_getElem? (i := 13) rfl
theorem eX5_mark_29 : (29, Instr.iconst (-1), 1, 0, 0, 0) ∈ kX5_mark := List.mem_of_getElem? (i := 14) rfl
theorem eX5_mark_30 : (30, Instr.ireturn, 1, 0, 0, 0) ∈ kX5_mark := List.mem_of_getElem? (i := 15) rfl
theorem eX5_mark_31 : (31, Instr.iload_n 3, 1, 0, 0, 0) ∈ kX5_mark := List.mem_of_getElem? (i := 16) rfl
theorem eX5_mark_32 : (32, Instr.iconst (-1), 1, 0, 0, 0) ∈ kX5_mark := List.mem_of_getElem? (i := 17) rfl
theorem eX5_mark_33 : (33, Instr.if_icmp .eq 15, 3, 48, 0, 0) ∈ kX5_mark := List.mem_of_getElem? (i := 18) rfl
theorem eX5_mark_36 : (36, Instr.iload_n 3, 1, 0, 0, 0) ∈ kX5_mark := List.mem_of_getElem? (i := 19) rfl
theorem eX5_mark_37 : (37, Instr.iconst 0, 1, 0, 0, 0) ∈ kX5_mark := List.mem_of_getElem? (i := 20) rfl
theorem eX5_mark_38 : (38, Instr.bipush 15, 2, 0, 0, 0) ∈ kX5_mark := List.mem_of_getElem? (i := 21) rfl
theorem eX5_mark_40 : (40, Instr.invokestatic 72, 3, 49, 3, 153) ∈ kX5_mark := List.mem_of_getElem? (i := 22) rfl
theorem eX5_mark_43 : (43, Instr.ifCond .ne 5, 3, 48, 0, 0) ∈ kX5_mark := List.mem_of_getElem? (i := 23) rfl
theorem eX5_mark_46 : (46, Instr.iconst (-1), 1, 0, 0, 0) ∈ kX5_mark := List.mem_of_getElem? (i := 24) rfl
theorem eX5_mark_47 : (47, Instr.ireturn, 1, 0, 0, 0) ∈ kX5_mark := List.mem_of_getElem? (i := 25) rfl
theorem eX5_mark_48 : (48, Instr.aload 4, 2, 0, 0, 0) ∈ kX5_mark := List.mem_of_getElem? (i := 26) rfl
theorem eX5_mark_50 : (50, Instr.getfield 150, 3, 1, 0, 392) ∈ kX5_mark := List.mem_of_getElem? (i := 27) rfl
theorem eX5_mark_53 : (53, Instr.iload_n 2, 1, 0, 0, 0) ∈ kX5_mark := List.mem_of_getElem? (i := 28) rfl
theorem eX5_mark_54 : (54, Instr.iload_n 3, 1, 0, 0, 0) ∈ kX5_mark := List.mem_of_getElem? (i := 29) rfl
theorem eX5_mark_55 : (55, Instr.iastore, 1, 0, 0, 0) ∈ kX5_mark := List.mem_of_getElem? (i := 30) rfl
theorem eX5_mark_56 : (56, Instr.aload_n 0, 1, 0, 0, 0) ∈ kX5_mark := List.mem_of_getElem? (i := 31) rfl
theorem eX5_mark_57 : (57, Instr.aload 4, 2, 0, 0, 0) ∈ kX5_mark := List.mem_of_getElem? (i := 32) rfl
theorem eX5_mark_59 : (59, Instr.invokevirtual 153, 3, 68, 1, 411) ∈ kX5_mark := List.mem_of_getElem? (i := 33) rfl
theorem eX5_mark_62 : (62, Instr.ireturn, 1, 0, 0, 0) ∈ kX5_mark := List.mem_of_getElem? (i := 34) rfl
theorem aX5_means : am_m nX5_means = mX5_means := rfl
theorem eX5_means_0 : (0, Instr.aload_n 0, 1, 0, 0, 0) ∈ kX5_means := List.mem_of_getElem? (i := 0) rfl
theorem eX5_means_1 : (1, Instr.iload_n 1, 1, 0, 0, 0) ∈ kX5_means := List.mem_of_getElem? (i := 1) rfl
theorem eX5_means_2 : (2, Instr.invokevirtual 142, 3, 57, 1, 407) ∈ kX5_means := List.mem_of_getElem? (i := 2) rfl
theorem eX5_means_5 : (5, Instr.astore_n 2, 1, 0, 0, 0) ∈ kX5_means := List.mem_of_getElem? (i := 3) rfl
theorem eX5_means_6 : (6, Instr.aload_n 2, 1, 0, 0, 0) ∈ kX5_means := List.mem_of_getElem? (i := 4) rfl
theorem eX5_means_7 : (7, Instr.ifnonnull 7, 3, 14, 0, 0) ∈ kX5_means := List.mem_of_getElem? (i := 5) rfl
theorem eX5_means_10 : (10, Instr.iconst (-1), 1, 0, 0, 0) ∈ kX5_means := List.mem_of_getElem? (i := 6) rfl
theorem eX5_means_11 : (11, Instr.goto 8, 3, 19, 0, 0) ∈ kX5_means := List.mem_of_getElem? (i := 7) rfl
theorem eX5_means_14 : (14, Instr.aload_n 0, 1, 0, 0, 0) ∈ kX5_means := List.mem_of_getElem? (i := 8) rfl
theorem eX5_means_15 : (15, Instr.aload_n 2, 1, 0, 0, 0) ∈ kX5_means := List.mem_of_getElem? (i := 9) rfl
theorem eX5_means_16 : (16, Instr.invokevirtual 153, 3, 68, 1, 411) ∈ kX5_means := List.mem_of_getElem? (i := 10) rfl
theorem eX5_means_19 : (19, Instr.ireturn, 1, 0, 0, 0) ∈ kX5_means := List.mem_of_getElem? (i := 11) rfl
theorem aX5_ask : am_m nX5_ask = mX5_ask := rfl
theorem eX5_ask_0 : (0, Instr.aload_n 0, 1, 0, 0, 0) ∈ kX5_ask := List.mem_of_getElem? (i := 0) rfl
theorem eX5_ask_1 : (1, Instr.iload_n 1, 1, 0, 0, 0) ∈ kX5_ask := List.mem_of_getElem? (i := 1) rfl
theorem eX5_ask_2 : (2, Instr.invokevirtual 142, 3, 57, 1, 407) ∈ kX5_ask := List.mem_of_getElem? (i := 2) rfl
theorem eX5_ask_5 : (5, Instr.astore_n 2, 1, 0, 0, 0) ∈ kX5_ask := List.mem_of_getElem? (i := 3) rfl
theorem eX5_ask_6 : (6, Instr.aload_n 2, 1, 0, 0, 0) ∈ kX5_ask := List.mem_of_getElem? (i := 4) rfl
theorem eX5_ask_7 : (7, Instr.ifnull 19, 3, 26, 0, 0) ∈ kX5_ask := List.mem_of_getElem? (i := 5) rfl
theorem eX5_ask_10 : (10, Instr.aload_n 2, 1, 0, 0, 0) ∈ kX5_ask := List.mem_of_getElem? (i := 6) rfl
theorem eX5_ask_11 : (11, Instr.getfield 146, 3, 1, 1, 393) ∈ kX5_ask := List.mem_of_getElem? (i := 7) rfl
theorem eX5_ask_14 : (14, Instr.ifCond .ne 12, 3, 26, 0, 0) ∈ kX5_ask := List.mem_of_getElem? (i := 8) rfl
theorem eX5_ask_17 : (17, Instr.aload_n 0, 1, 0, 0, 0) ∈ kX5_ask := List.mem_of_getElem? (i := 9) rfl
theorem eX5_ask_18 : (18, Instr.aload_n 2, 1, 0, 0, 0) ∈ kX5_ask := List.mem_of_getElem? (i := 10) rfl
theorem eX5_ask_19 : (19, Instr.invokevirtual 153, 3, 68, 1, 411) ∈ kX5_ask := List.mem_of_getElem? (i := 11) rfl
theorem eX5_ask_22 : (22, Instr.iconst 2, 1, 0, 0, 0) ∈ kX5_ask := List.mem_of_getElem? (i := 12) rfl
theorem eX5_ask_23 : (23, Instr.if_icmp .ge 5, 3, 28, 0, 0) ∈ kX5_ask := List.mem_of_getElem? (i := 13) rfl
theorem eX5_ask_26 : (26, Instr.iconst (-1), 1, 0, 0, 0) ∈ kX5_ask := List.mem_of_getElem? (i := 14) rfl
theorem eX5_ask_27 : (27, Instr.ireturn, 1, 0, 0, 0) ∈ kX5_ask := List.mem_of_getElem? (i := 15) rfl
theorem eX5_ask_28 : (28, Instr.iconst (-1), 1, 0, 0, 0) ∈ kX5_ask := List.mem_of_getElem? (i := 16) rfl
theorem eX5_ask_29 : (29, Instr.istore_n 3, 1, 0, 0, 0) ∈ kX5_ask := List.mem_of_getElem? (i := 17) rfl
theorem eX5_ask_30 : (30, Instr.bipush 121, 2, 0, 0, 0) ∈ kX5_ask := List.mem_of_getElem? (i := 18) rfl
theorem eX5_ask_32 : (32, Instr.istore 4, 2, 0, 0, 0) ∈ kX5_ask := List.mem_of_getElem? (i := 19) rfl
theorem eX5_ask_34 : (34, Instr.iconst 0, 1, 0, 0, 0) ∈ kX5_ask := List.mem_of_getElem? (i := 20) rfl
theorem eX5_ask_35 : (35, Instr.istore 5, 2, 0, 0, 0) ∈ kX5_ask := List.mem_of_getElem? (i := 21) rfl
theorem eX5_ask_37 : (37, Instr.iload 5, 2, 0, 0, 0) ∈ kX5_ask := List.mem_of_getElem? (i := 22) rfl
theorem eX5_ask_39 : (39, Instr.iconst 4, 1, 0, 0, 0) ∈ kX5_ask := List.mem_of_getElem? (i := 23) rfl
theorem eX5_ask_40 : (40, Instr.if_icmp .ge 46, 3, 86, 0, 0) ∈ kX5_ask := List.mem_of_getElem? (i := 24) rfl
theorem eX5_ask_43 : (43, Instr.aload_n 2, 1, 0, 0, 0) ∈ kX5_ask := List.mem_of_getElem? (i := 25) rfl
theorem eX5_ask_44 : (44, Instr.getfield 150, 3, 1, 0, 392) ∈ kX5_ask := List.mem_of_getElem? (i := 26) rfl
theorem eX5_ask_47 : (47, Instr.iload 5, 2, 0, 0, 0) ∈ kX5_ask := List.mem_of_getElem? (i := 27) rfl
theorem eX5_ask_49 : (49, Instr.iaload, 1, 0, 0, 0) ∈ kX5_ask := List.mem_of_getElem? (i := 28) rfl
theorem eX5_ask_50 : (50, Instr.iconst (-1), 1, 0, 0, 0) ∈ kX5_ask := List.mem_of_getElem? (i := 29) rfl
theorem eX5_ask_51 : (51, Instr.if_icmp .eq 6, 3, 57, 0, 0) ∈ kX5_ask := List.mem_of_getElem? (i := 30) rfl
theorem eX5_ask_54 : (54, Instr.goto 26, 3, 80, 0, 0) ∈ kX5_ask := List.mem_of_getElem? (i := 31) rfl
theorem eX5_ask_57 : (57, Instr.aload_n 0, 1, 0, 0, 0) ∈ kX5_ask := List.mem_of_getElem? (i := 32) rfl
theorem eX5_ask_58 : (58, Instr.aload_n 2, 1, 0, 0, 0) ∈ kX5_ask := List.mem_of_getElem? (i := 33) rfl
theorem eX5_ask_59 : (59, Instr.iload 5, 2, 0, 0, 0) ∈ kX5_ask := List.mem_of_getElem? (i := 34) rfl
theorem eX5_ask_61 : (61, Instr.invokevirtual 157, 3, 70, 2, 431) ∈ kX5_ask := List.mem_of_getElem? (i := 35) rfl
theorem eX5_ask_64 : (64, Instr.istore 6, 2, 0, 0, 0) ∈ kX5_ask := List.mem_of_getElem? (i := 36) rfl
theorem eX5_ask_66 : (66, Instr.iload 6, 2, 0, 0, 0) ∈ kX5_ask := List.mem_of_getElem? (i := 37) rfl
theorem eX5_ask_68 : (68, Instr.iload 4, 2, 0, 0, 0) ∈ kX5_ask := List.mem_of_getElem? (i := 38) rfl
theorem eX5_ask_70 : (70, Instr.if_icmp .ge 10, 3, 80, 0, 0) ∈ kX5_ask := List.mem_of_getElem? (i := 39) rfl
theorem eX5_ask_73 : (73, Instr.iload 6, 2, 0, 0, 0) ∈ kX5_ask := List.mem_of_getElem? (i := 40) rfl
theorem eX5_ask_75 : (75, Instr.istore 4, 2, 0, 0, 0) ∈ kX5_ask := List.mem_of_getElem? (i := 41) rfl
theorem eX5_ask_77 : (77, Instr.iload 5, 2, 0, 0, 0) ∈ kX5_ask := List.mem_of_getElem? (i := 42) rfl
theorem eX5_ask_79 : (79, Instr.istore_n 3, 1, 0, 0, 0) ∈ kX5_ask := List.mem_of_getElem? (i := 43) rfl
theorem eX5_ask_80 : (80, Instr.iinc 5 1, 3, 0, 0, 0) ∈ kX5_ask := List.mem_of_getElem? (i := 44) rfl
theorem eX5_ask_83 : (83, Instr.goto (-46), 3, 37, 0, 0) ∈ kX5_ask := List.mem_of_getElem? (i := 45) rfl
theorem eX5_ask_86 : (86, Instr.iload_n 3, 1, 0, 0, 0) ∈ kX5_ask := List.mem_of_getElem? (i := 46) rfl
theorem eX5_ask_87 : (87, Instr.ireturn, 1, 0, 0, 0) ∈ kX5_ask := List.mem_of_getElem? (i := 47) rfl
theorem aX5_settle : am_m nX5_settle = mX5_settle := rfl
theorem eX5_settle_0 : (0, Instr.aload_n 0, 1, 0, 0, 0) ∈ kX5_settle := List.mem_of_getElem? (i := 0) rfl
theorem eX5_settle_1 : (1, Instr.iload_n 1, 1, 0, 0, 0) ∈ kX5_settle := List.mem_of_getElem? (i := 1) rfl
theorem eX5_settle_2 : (2, Instr.invokevirtual 142, 3, 57, 1, 407) ∈ kX5_settle := List.mem_of_getElem? (i := 2) rfl
theorem eX5_settle_5 : (5, Instr.astore_n 2, 1, 0, 0, 0) ∈ kX5_settle := List.mem_of_getElem? (i := 3) rfl
theorem eX5_settle_6 : (6, Instr.aload_n 2, 1, 0, 0, 0) ∈ kX5_settle := List.mem_of_getElem? (i := 4) rfl
theorem eX5_settle_7 : (7, Instr.ifnull 10, 3, 17, 0, 0) ∈ kX5_settle := List.mem_of_getElem? (i := 5) rfl
theorem eX5_settle_10 : (10, Instr.aload_n 2, 1, 0, 0, 0) ∈ kX5_settle := List.mem_of_getElem? (i := 6) rfl
theorem eX5_settle_11 : (11, Instr.getfield 146, 3, 1, 1, 393) ∈ kX5_settle := List.mem_of_getElem? (i := 7) rfl
theorem eX5_settle_14 : (14, Instr.ifCond .eq 6, 3, 20, 0, 0) ∈ kX5_settle := List.mem_of_getElem? (i := 8) rfl
theorem eX5_settle_17 : (17, Instr.bipush (-2), 2, 0, 0, 0) ∈ kX5_settle := List.mem_of_getElem? (i := 9) rfl
theorem eX5_settle_19 : (19, Instr.ireturn, 1, 0, 0, 0) ∈ kX5_settle := List.mem_of_getElem? (i := 10) rfl
theorem eX5_settle_20 : (20, Instr.aload_n 2, 1, 0, 0, 0) ∈ kX5_settle := List.mem_of_getElem? (i := 11) rfl
theorem eX5_settle_21 : (21, Instr.invokevirtual 161, 3, 8, 0, 441) ∈ kX5_settle := List.mem_of_getElem? (i := 12) rfl
theorem eX5_settle_24 : (24, Instr.iconst 3, 1, 0, 0, 0) ∈ kX5_settle := List.mem_of_getElem? (i := 13) rfl
theorem eX5_settle_25 : (25, Instr.if_icmp .ge 6, 3, 31, 0, 0) ∈ kX5_settle := List.mem_of_getElem? (i := 14) rfl
theorem eX5_settle_28 : (28, Instr.bipush (-3), 2, 0, 0, 0) ∈ kX5_settle := List.mem_of_getElem? (i := 15) rfl
theorem eX5_settle_30 : (30, Instr.ireturn, 1, 0, 0, 0) ∈ kX5_settle := List.mem_of_getElem? (i := 16) rfl
theorem eX5_settle_31 : (31, Instr.aload_n 0, 1, 0, 0, 0) ∈ kX5_settle := List.mem_of_getElem? (i := 17) rfl
theorem eX5_settle_32 : (32, Instr.aload_n 2, 1, 0, 0, 0) ∈ kX5_settle := List.mem_of_getElem? (i := 18) rfl
theorem eX5_settle_33 : (33, Instr.invokevirtual 164, 3, 69, 1, 445) ∈ kX5_settle := List.mem_of_getElem? (i := 19) rfl
theorem eX5_settle_36 : (36, Instr.istore_n 3, 1, 0, 0, 0) ∈ kX5_settle := List.mem_of_getElem? (i := 20) rfl
theorem eX5_settle_37 : (37, Instr.aload_n 0, 1, 0, 0, 0) ∈ kX5_settle := List.mem_of_getElem? (i := 21) rfl
theorem eX5_settle_38 : (38, Instr.iload_n 3, 1, 0, 0, 0) ∈ kX5_settle := List.mem_of_getElem? (i := 22) rfl
theorem eX5_settle_39 : (39, Instr.invokevirtual 114, 3, 56, 1, 344) ∈ kX5_settle := List.mem_of_getElem? (i := 23) rfl
theorem eX5_settle_42 : (42, Instr.astore 4, 2, 0, 0, 0) ∈ kX5_settle := List.mem_of_getElem? (i := 24) rfl
theorem eX5_settle_44 : (44, Instr.aload 4, 2, 0, 0, 0) ∈ kX5_settle := List.mem_of_getElem? (i := 25) rfl
theorem eX5_settle_46 : (46, Instr.ifnonnull 6, 3, 52, 0, 0) ∈ kX5_settle := List.mem_of_getElem? (i := 26) rfl
theorem eX5_settle_49 : (49, Instr.bipush (-4), 2, 0, 0, 0) ∈ kX5_settle := List.mem_of_getElem? (i := 27) rfl
theorem eX5_settle_51 : (51, Instr.ireturn, 1, 0, 0, 0) ∈ kX5_settle := List.mem_of_getElem? (i := 28) rfl
theorem eX5_settle_52 : (52, Instr.aload_n 0, 1, 0, 0, 0) ∈ kX5_settle := List.mem_of_getElem? (i := 29) rfl
theorem eX5_settle_53 : (53, Instr.aload_n 2, 1, 0, 0, 0) ∈ kX5_settle := List.mem_of_getElem? (i := 30) rfl
theorem eX5_settle_54 : (54, Instr.invokevirtual 153, 3, 68, 1, 411) ∈ kX5_settle := List.mem_of_getElem? (i := 31) rfl
theorem eX5_settle_57 : (57, Instr.iconst 1, 1, 0, 0, 0) ∈ kX5_settle := List.mem_of_getElem? (i := 32) rfl
theorem eX5_settle_58 : (58, Instr.if_icmp .le 6, 3, 64, 0, 0) ∈ kX5_settle := List.mem_of_getElem? (i := 33) rfl
theorem eX5_settle_61 : (61, Instr.bipush (-5), 2, 0, 0, 0) ∈ kX5_settle := List.mem_of_getElem? (i := 34) rfl
theorem eX5_settle_63 : (63, Instr.ireturn, 1, 0, 0, 0) ∈ kX5_settle := List.mem_of_getElem? (i := 35) rfl
theorem eX5_settle_64 : (64, Instr.aload_n 0, 1, 0, 0, 0) ∈ kX5_settle := List.mem_of_getElem? (i := 36) rfl
theorem eX5_settle_65 : (65, Instr.aload_n 2, 1, 0, 0, 0) ∈ kX5_settle := List.mem_of_getElem? (i := 37) rfl
theorem eX5_settle_66 : (66, Instr.aload 4, 2, 0, 0, 0) ∈ kX5_settle := List.mem_of_getElem? (i := 38) rfl
theorem eX5_settle_68 : (68, Instr.invokevirtual 167, 3, 71, 2, 449) ∈ kX5_settle := List.mem_of_getElem? (i := 39) rfl
theorem eX5_settle_71 : (71, Instr.ifCond .eq 6, 3, 77, 0, 0) ∈ kX5_settle := List.mem_of_getElem? (i := 40) rfl
theorem eX5_settle_74 : (74, Instr.bipush (-6), 2, 0, 0, 0) ∈ kX5_settle := List.mem_of_getElem? (i := 41) rfl
theorem eX5_settle_76 : (76, Instr.ireturn, 1, 0, 0, 0) ∈ kX5_settle := List.mem_of_getElem? (i := 42) rfl
theorem eX5_settle_77 : (77, Instr.aload_n 0, 1, 0, 0, 0) ∈ kX5_settle := List.mem_of_getElem? (i := 43) rfl
theorem eX5_settle_78 : (78, Instr.invokevirtual 83, 3, 54, 0, 233) ∈ kX5_settle := List.mem_of_getElem? (i := 44) rfl
theorem eX5_settle_81 : (81, Instr.ifCond .ne 6, 3, 87, 0, 0) ∈ kX5_settle := List.mem_of_getElem? (i := 45) rfl
theorem eX5_settle_84 : (84, Instr.bipush (-7), 2, 0, 0, 0) ∈ kX5_settle := List.mem_of_getElem? (i := 46) rfl
theorem eX5_settle_86 : (86, Instr.ireturn, 1, 0, 0, 0) ∈ kX5_settle := List.mem_of_getElem? (i := 47) rfl
theorem eX5_settle_87 : (87, Instr.aload 4, 2, 0, 0, 0) ∈ kX5_settle := List.mem_of_getElem? (i := 48) rfl
theorem eX5_settle_89 : (89, Instr.invokevirtual 128, 3, 24, 0, 370) ∈ kX5_settle := List.mem_of_getElem? (i := 49) rfl
theorem eX5_settle_92 : (92, Instr.ifCond .eq 6, 3, 98, 0, 0) ∈ kX5_settle := List.mem_of_getElem? (i := 50) rfl
theorem eX5_settle_95 : (95, Instr.bipush (-8), 2, 0, 0, 0) ∈ kX5_settle := List.mem_of_getElem? (i := 51) rfl
theorem eX5_settle_97 : (97, Instr.ireturn, 1, 0, 0, 0) ∈ kX5_settle := List.mem_of_getElem? (i := 52) rfl
theorem eX5_settle_98 : (98, Instr.aload_n 0, 1, 0, 0, 0) ∈ kX5_settle := List.mem_of_getElem? (i := 53) rfl
theorem eX5_settle_99 : (99, Instr.aload 4, 2, 0, 0, 0) ∈ kX5_settle := List.mem_of_getElem? (i := 54) rfl
theorem eX5_settle_101 : (101, Instr.invokevirtual 121, 3, 63, 1, 348) ∈ kX5_settle := List.mem_of_getElem? (i := 55) rfl
theorem eX5_settle_104 : (104, Instr.sipush 500, 3, 0, 0, 0) ∈ kX5_settle := List.mem_of_getElem? (i := 56) rfl
theorem eX5_settle_107 : (107, Instr.iadd, 1, 0, 0, 0) ∈ kX5_settle := List.mem_of_getElem? (i := 57) rfl
theorem eX5_settle_108 : (108, Instr.istore 5, 2, 0, 0, 0) ∈ kX5_settle := List.mem_of_getElem? (i := 58) rfl
theorem eX5_settle_110 : (110, Instr.aload_n 0, 1, 0, 0, 0) ∈ kX5_settle := List.mem_of_getElem? (i := 59) rfl
theorem eX5_settle_111 : (111, Instr.aload 4, 2, 0, 0, 0) ∈ kX5_settle := List.mem_of_getElem? (i := 60) rfl
theorem eX5_settle_113 : (113, Instr.iconst 1, 1, 0, 0, 0) ∈ kX5_settle := List.mem_of_getElem? (i := 61) rfl
theorem eX5_settle_114 : (114, Instr.invokevirtual 131, 3, 67, 2, 374) ∈ kX5_settle := List.mem_of_getElem? (i := 62) rfl
theorem eX5_settle_117 : (117, Instr.aload_n 0, 1, 0, 0, 0) ∈ kX5_settle := List.mem_of_getElem? (i := 63) rfl
theorem eX5_settle_118 : (118, Instr.dup, 1, 0, 0, 0) ∈ kX5_settle := List.mem_of_getElem? (i := 64) rfl
theorem eX5_settle_119 : (119, Instr.getfield 135, 3, 5, 13, 93) ∈ kX5_settle := List.mem_of_getElem? (i := 65) rfl
theorem eX5_settle_122 : (122, Instr.iload 5, 2, 0, 0, 0) ∈ kX5_settle := List.mem_of_getElem? (i := 66) rfl
theorem eX5_settle_124 : (124, Instr.iadd, 1, 0, 0, 0) ∈ kX5_settle := List.mem_of_getElem? (i := 67) rfl
theorem eX5_settle_125 : (125, Instr.putfield 135, 3, 5, 13, 93) ∈ kX5_settle := List.mem_of_getElem? (i := 68) rfl
theorem eX5_settle_128 : (128, Instr.aload_n 2, 1, 0, 0, 0) ∈ kX5_settle := List.mem_of_getElem? (i := 69) rfl
theorem eX5_settle_129 : (129, Instr.iconst 1, 1, 0, 0, 0) ∈ kX5_settle := List.mem_of_getElem? (i := 70) rfl
theorem eX5_settle_130 : (130, Instr.putfield 146, 3, 1, 1, 393) ∈ kX5_settle := List.mem_of_getElem? (i := 71) rfl
theorem eX5_settle_133 : (133, Instr.aload_n 2, 1, 0, 0, 0) ∈ kX5_settle := List.mem_of_getElem? (i := 72) rfl
theorem eX5_settle_134 : (134, Instr.iload_n 3, 1, 0, 0, 0) ∈ kX5_settle := List.mem_of_getElem? (i := 73) rfl
theorem eX5_settle_135 : (135, Instr.putfield 171, 3, 1, 2, 395) ∈ kX5_settle := List.mem_of_getElem? (i := 74) rfl
theorem eX5_settle_138 : (138, Instr.iload 5, 2, 0, 0, 0) ∈ kX5_settle := List.mem_of_getElem? (i := 75) rfl
theorem eX5_settle_140 : (140, Instr.ireturn, 1, 0, 0, 0) ∈ kX5_settle := List.mem_of_getElem? (i := 76) rfl
theorem aX5_misfit : am_m nX5_misfit = mX5_misfit := rfl
theorem eX5_misfit_0 : (0, Instr.iconst 0, 1, 0, 0, 0) ∈ kX5_misfit := List.mem_of_getElem? (i := 0) rfl
theorem eX5_misfit_1 : (1, Instr.istore_n 1, 1, 0, 0, 0) ∈ kX5_misfit := List.mem_of_getElem? (i := 1) rfl
theorem eX5_misfit_2 : (2, Instr.iconst 0, 1, 0, 0, 0) ∈ kX5_misfit := List.mem_of_getElem? (i := 2) rfl
theorem eX5_misfit_3 : (3, Instr.istore_n 2, 1, 0, 0, 0) ∈ kX5_misfit := List.mem_of_getElem? (i := 3) rfl
theorem eX5_misfit_4 : (4, Instr.iload_n 2, 1, 0, 0, 0) ∈ kX5_misfit := List.mem_of_getElem? (i := 4) rfl
theorem eX5_misfit_5 : (5, Instr.aload_n 0, 1, 0, 0, 0) ∈ kX5_misfit := List.mem_of_getElem? (i := 5) rfl
theorem eX5_misfit_6 : (6, Instr.getfield 87, 3, 5, 3, 83) ∈ kX5_misfit := List.mem_of_getElem? (i := 6) rfl
theorem eX5_misfit_9 : (9, Instr.if_icmp .ge 38, 3, 47, 0, 0) ∈ kX5_misfit := List.mem_of_getElem? (i := 7) rfl
theorem eX5_misfit_12 : (12, Instr.aload_n 0, 1, 0, 0, 0) ∈ kX5_misfit := List.mem_of_getElem? (i := 8) rfl
theorem eX5_misfit_13 : (13, Instr.getfield 17, 3, 5, 2, 82) ∈ kX5_misfit := List.mem_of_getElem? (i := 9) rfl
theorem eX5_misfit_16 : (16, Instr.iload_n 2, 1, 0, 0, 0) ∈ kX5_misfit := List.mem_of_getElem? (i := 10) rfl
theorem eX5_misfit_17 : (17, Instr.aaload, 1, 0, 0, 0) ∈ kX5_misfit := List.mem_of_getElem? (i := 11) rfl
theorem eX5_misfit_18 : (18, Instr.astore_n 3, 1, 0, 0, 0) ∈ kX5_misfit := List.mem_of_getElem? (i := 12) rfl
theorem eX5_misfit_19 : (19, Instr.aload_n 3, 1, 0, 0, 0) ∈ kX5_misfit := List.mem_of_getElem? (i := 13) rfl
theorem eX5_misfit_20 : (20, Instr.ifnull 21, 3, 41, 0, 0) ∈ kX5_misfit := List.mem_of_getElem? (i := 14) rfl
theorem eX5_misfit_23 : (23, Instr.aload_n 3, 1, 0, 0, 0) ∈ kX5_misfit := List.mem_of_getElem? (i := 15) rfl
theorem eX5_misfit_24 : (24, Instr.getfield 118, 3, 4, 7, 264) ∈ kX5_misfit := List.mem_of_getElem? (i := 16) rfl
theorem eX5_misfit_27 : (27, Instr.ifCond .ne 14, 3, 41, 0, 0) ∈ kX5_misfit := List.mem_of_getElem? (i := 17) rfl
theorem eX5_misfit_30 : (30, Instr.iload_n 1, 1, 0, 0, 0) ∈ kX5_misfit := List.mem_of_getElem? (i := 18) rfl
theorem eX5_misfit_31 : (31, Instr.aload_n 3, 1, 0, 0, 0) ∈ kX5_misfit := List.mem_of_getElem? (i := 19) rfl
theorem eX5_misfit_32 : (32, Instr.aload_n 0, 1, 0, 0, 0) ∈ kX5_misfit := List.mem_of_getElem? (i := 20) rfl
theorem eX5_misfit_33 : (33, Instr.getfield 49, 3, 5, 10, 90) ∈ kX5_misfit := List.mem_of_getElem? (i := 21) rfl
theorem eX5_misfit_36 : (36, Instr.invokevirtual 174, 3, 22, 1, 457) ∈ kX5_misfit := List.mem_of_getElem? (i := 22) rfl
theorem eX5_misfit_39 : (39, Instr.iadd, 1, 0, 0, 0) ∈ kX5_misfit := List.mem_of_getElem? (i := 23) rfl
theorem eX5_misfit_40 : (40, Instr.istore_n 1, 1, 0, 0, 0) ∈ kX5_misfit := List.mem_of_getElem? (i := 24) rfl
theorem eX5_misfit_41 : (41, Instr.iinc 2 1, 3, 0, 0, 0) ∈ kX5_misfit := List.mem_of_getElem? (i := 25) rfl
theorem eX5_misfit_44 : (44, Instr.goto (-40), 3, 4, 0, 0) ∈ kX5_misfit := List.mem_of_getElem? (i := 26) rfl
theorem eX5_misfit_47 : (47, Instr.iload_n 1, 1, 0, 0, 0) ∈ kX5_misfit := List.mem_of_getElem? (i := 27) rfl
theorem eX5_misfit_48 : (48, Instr.ireturn, 1, 0, 0, 0) ∈ kX5_misfit := List.mem_of_getElem? (i := 28) rfl
theorem aX5_tidy : am_m nX5_tidy = mX5_tidy := rfl
theorem eX5_tidy_0 : (0, Instr.iload_n 1, 1, 0, 0, 0) ∈ kX5_tidy := List.mem_of_getElem? (i := 0) rfl
theorem eX5_tidy_1 : (1, Instr.iconst 0, 1, 0, 0, 0) ∈ kX5_tidy := List.mem_of_getElem? (i := 1) rfl
theorem eX5_tidy_2 : (2, Instr.bipush 50, 2, 0, 0, 0) ∈ kX5_tidy := List.mem_of_getElem? (i := 2) rfl
theorem eX5_tidy_4 : (4, Instr.invokestatic 72, 3, 49, 3, 153) ∈ kX5_tidy := List.mem_of_getElem? (i := 3) rfl
theorem eX5_tidy_7 : (7, Instr.ifCond .eq 10, 3, 17, 0, 0) ∈ kX5_tidy := List.mem_of_getElem? (i := 4) rfl
theorem eX5_tidy_10 : (10, Instr.aload_n 0, 1, 0, 0, 0) ∈ kX5_tidy := List.mem_of_getElem? (i := 5) rfl
theorem eX5_tidy_11 : (11, Instr.invokevirtual 83, 3, 54, 0, 233) ∈ kX5_tidy := List.mem_of_getElem? (i := 6) rfl
theorem eX5_tidy_14 : (14, Instr.ifCond .eq 5, 3, 19, 0, 0) ∈ kX5_tidy := List.mem_of_getElem? (i := 7) rfl
theorem eX5_tidy_17 : (17, Instr.iconst (-1), 1, 0, 0, 0) ∈ kX5_tidy := List.mem_of_getElem? (i := 8) rfl
theorem eX5_tidy_18 : (18, Instr.ireturn, 1, 0, 0, 0) ∈ kX5_tidy := List.mem_of_getElem? (i := 9) rfl
theorem eX5_tidy_19 : (19, Instr.iconst 0, 1, 0, 0, 0) ∈ kX5_tidy := List.mem_of_getElem? (i := 10) rfl
theorem eX5_tidy_20 : (20, Instr.istore_n 2, 1, 0, 0, 0) ∈ kX5_tidy := List.mem_of_getElem? (i := 11) rfl
theorem eX5_tidy_21 : (21, Instr.iload_n 2, 1, 0, 0, 0) ∈ kX5_tidy := List.mem_of_getElem? (i := 12) rfl
theorem eX5_tidy_22 : (22, Instr.iload_n 1, 1, 0, 0, 0) ∈ kX5_tidy := List.mem_of_getElem? (i := 13) rfl
theorem eX5_tidy_23 : (23, Instr.if_icmp .ge 16, 3, 39, 0, 0) ∈ kX5_tidy := List.mem_of_getElem? (i := 14) rfl
theorem eX5_tidy_26 : (26, Instr.aload_n 0, 1, 0, 0, 0) ∈ kX5_tidy := List.mem_of_getElem? (i := 15) rfl
theorem eX5_tidy_27 : (27, Instr.invokevirtual 177, 3, 72, 0, 466) ∈ kX5_tidy := List.mem_of_getElem? (i := 16) rfl
theorem eX5_tidy_30 : (30, Instr.ifCond .eq 9, 3, 39, 0, 0) ∈ kX5_tidy := List.mem_of_getElem? (i := 17) rfl
theorem eX5_tidy_33 : (33, Instr.iinc 2 1, 3, 0, 0, 0) ∈ kX5_tidy := List.mem_of_getElem? (i := 18) rfl
theorem eX5_tidy_36 : (36, Instr.goto (-15), 3, 21, 0, 0) ∈ kX5_tidy := List.mem_of_getElem? (i := 19) rfl
theorem eX5_tidy_39 : (39, Instr.iload_n 2, 1, 0, 0, 0) ∈ kX5_tidy := List.mem_of_getElem? (i := 20) rfl
theorem eX5_tidy_40 : (40, Instr.ireturn, 1, 0, 0, 0) ∈ kX5_tidy := List.mem_of_getElem? (i := 21) rfl
theorem aX5_least : am_m nX5_least = mX5_least := rfl
theorem eX5_least_0 : (0, Instr.aload_n 0, 1, 0, 0, 0) ∈ kX5_least := List.mem_of_getElem? (i := 0) rfl
theorem eX5_least_1 : (1, Instr.getfield 40, 3, 5, 9, 89) ∈ kX5_least := List.mem_of_getElem? (i := 1) rfl
theorem eX5_least_4 : (4, Instr.invokevirtual 180, 3, 1, 0, 482) ∈ kX5_least := List.mem_of_getElem? (i := 2) rfl
theorem eX5_least_7 : (7, Instr.iconst 0, 1, 0, 0, 0) ∈ kX5_least := List.mem_of_getElem? (i := 3) rfl
theorem eX5_least_8 : (8, Instr.istore_n 1, 1, 0, 0, 0) ∈ kX5_least := List.mem_of_getElem? (i := 4) rfl
theorem eX5_least_9 : (9, Instr.iconst 0, 1, 0, 0, 0) ∈ kX5_least := List.mem_of_getElem? (i := 5) rfl
theorem eX5_least_10 : (10, Instr.istore_n 2, 1, 0, 0, 0) ∈ kX5_least := List.mem_of_getElem? (i := 6) rfl
theorem eX5_least_11 : (11, Instr.iload_n 2, 1, 0, 0, 0) ∈ kX5_least := List.mem_of_getElem? (i := 7) rfl
theorem eX5_least_12 : (12, Instr.aload_n 0, 1, 0, 0, 0) ∈ kX5_least := List.mem_of_getElem? (i := 8) rfl
theorem eX5_least_13 : (13, Instr.getfield 87, 3, 5, 3, 83) ∈ kX5_least := List.mem_of_getElem? (i := 9) rfl
theorem eX5_least_16 : (16, Instr.if_icmp .ge 64, 3, 80, 0, 0) ∈ kX5_least := List.mem_of_getElem? (i := 10) rfl
theorem eX5_least_19 : (19, Instr.aload_n 0, 1, 0, 0, 0) ∈ kX5_least := List.mem_of_getElem? (i := 11) rfl
theorem eX5_least_20 : (20, Instr.getfield 17, 3, 5, 2, 82) ∈ kX5_least := List.mem_of_getElem? (i := 12) rfl
theorem eX5_least_23 : (23, Instr.iload_n 2, 1, 0, 0, 0) ∈ kX5_least := List.mem_of_getElem? (i := 13) rfl
theorem eX5_least_24 : (24, Instr.aaload, 1, 0, 0, 0) ∈ kX5_least := List.mem_of_getElem? (i := 14) rfl
theorem eX5_least_25 : (25, Instr.astore_n 3, 1, 0, 0, 0) ∈ kX5_least := List.mem_of_getElem? (i := 15) rfl
theorem eX5_least_26 : (26, Instr.aload_n 3, 1, 0, 0, 0) ∈ kX5_least := List.mem_of_getElem? (i := 16) rfl
theorem eX5_least_27 : (27, Instr.ifnull 47, 3, 74, 0, 0) ∈ kX5_least := List.mem_of_getElem? (i := 17) rfl
theorem eX5_least_30 : (30, Instr.aload_n 3, 1, 0, 0, 0) ∈ kX5_least := List.mem_of_getElem? (i := 18) rfl
theorem eX5_least_31 : (31, Instr.getfield 118, 3, 4, 7, 264) ∈ kX5_least := List.mem_of_getElem? (i := 19) rfl
theorem eX5_least_34 : (34, Instr.ifCond .eq 6, 3, 40, 0, 0) ∈ kX5_least := List.mem_of_getElem? (i := 20) rfl
theorem eX5_least_37 : (37, Instr.goto 37, 3, 74, 0, 0) ∈ kX5_least := List.mem_of_getElem? (i := 21) rfl
theorem eX5_least_40 : (40, Instr.aload_n 3, 1, 0, 0, 0) ∈ kX5_least := List.mem_of_getElem? (i := 22) rfl
theorem eX5_least_41 : (41, Instr.invokevirtual 128, 3, 24, 0, 370) ∈ kX5_least := List.mem_of_getElem? (i := 23) rfl
theorem eX5_least_44 : (44, Instr.ifCond .eq 17, 3, 61, 0, 0) ∈ kX5_least := List.mem_of_getElem? (i := 24) rfl
theorem eX5_least_47 : (47, Instr.iload_n 1, 1, 0, 0, 0) ∈ kX5_least := List.mem_of_getElem? (i := 25) rfl
theorem eX5_least_48 : (48, Instr.aload_n 3, 1, 0, 0, 0) ∈ kX5_least := List.mem_of_getElem? (i := 26) rfl
theorem eX5_least_49 : (49, Instr.aload_n 0, 1, 0, 0, 0) ∈ kX5_least := List.mem_of_getElem? (i := 27) rfl
theorem eX5_least_50 : (50, Instr.getfield 49, 3, 5, 10, 90) ∈ kX5_least := List.mem_of_getElem? (i := 28) rfl
theorem eX5_least_53 : (53, Instr.invokevirtual 174, 3, 22, 1, 457) ∈ kX5_least := List.mem_of_getElem? (i := 29) rfl
theorem eX5_least_56 : (56, Instr.iadd, 1, 0, 0, 0) ∈ kX5_least := List.mem_of_getElem? (i := 30) rfl
theorem eX5_least_57 : (57, Instr.istore_n 1, 1, 0, 0, 0) ∈ kX5_least := List.mem_of_getElem? (i := 31) rfl
theorem eX5_least_58 : (58, Instr.goto 16, 3, 74, 0, 0) ∈ kX5_least := List.mem_of_getElem? (i := 32) rfl
theorem eX5_least_61 : (61, Instr.aload_n 0, 1, 0, 0, 0) ∈ kX5_least := List.mem_of_getElem? (i := 33) rfl
theorem eX5_least_62 : (62, Instr.getfield 40, 3, 5, 9, 89) ∈ kX5_least := List.mem_of_getElem? (i := 34) rfl
theorem eX5_least_65 : (65, Instr.aload_n 3, 1, 0, 0, 0) ∈ kX5_least := List.mem_of_getElem? (i := 35) rfl
theorem eX5_least_66 : (66, Instr.invokevirtual 183, 3, 2, 1, 487) ∈ kX5_least := List.mem_of_getElem? (i := 36) rfl
theorem eX5_least_69 : (69, Instr.ifCond .ne 5, 3, 74, 0, 0) ∈ kX5_least := List.mem_of_getElem? (i := 37) rfl
theorem eX5_least_72 : (72, Instr.iconst (-1), 1, 0, 0, 0) ∈ kX5_least := List.mem_of_getElem? (i := 38) rfl
theorem eX5_least_73 : (73, Instr.ireturn, 1, 0, 0, 0) ∈ kX5_least := List.mem_of_getElem? (i := 39) rfl
theorem eX5_least_74 : (74, Instr.iinc 2 1, 3, 0, 0, 0) ∈ kX5_least := List.mem_of_getElem? (i := 40) rfl
theorem eX5_least_77 : (77, Instr.goto (-66), 3, 11, 0, 0) ∈ kX5_least := List.mem_of_getElem? (i := 41) rfl
theorem eX5_least_80 : (80, Instr.iconst 0, 1, 0, 0, 0) ∈ kX5_least := List.mem_of_getElem? (i := 42) rfl
theorem eX5_least_81 : (81, Instr.istore_n 2, 1, 0, 0, 0) ∈ kX5_least := List.mem_of_getElem? (i := 43) rfl
theorem eX5_least_82 : (82, Instr.iload_n 2, 1, 0, 0, 0) ∈ kX5_least := List.mem_of_getElem? (i := 44) rfl
theorem eX5_least_83 : (83, Instr.aload_n 0, 1, 0, 0, 0) ∈ kX5_least := List.mem_of_getElem? (i := 45) rfl
theorem eX5_least_84 : (84, Instr.getfield 76, 3, 5, 1, 81) ∈ kX5_least := List.mem_of_getElem? (i := 46) rfl
theorem eX5_least_87 : (87, Instr.if_icmp .ge 39, 3, 126, 0, 0) ∈ kX5_least := List.mem_of_getElem? (i := 47) rfl
theorem eX5_least_90 : (90, Instr.aload_n 0, 1, 0, 0, 0) ∈ kX5_least := List.mem_of_getElem? (i := 48) rfl
theorem eX5_least_91 : (91, Instr.getfield 11, 3, 5, 0, 80) ∈ kX5_least := List.mem_of_getElem? (i := 49) rfl
theorem eX5_least_94 : (94, Instr.iload_n 2, 1, 0, 0, 0) ∈ kX5_least := List.mem_of_getElem? (i := 50) rfl
theorem eX5_least_95 : (95, Instr.aaload, 1, 0, 0, 0) ∈ kX5_least := List.mem_of_getElem? (i := 51) rfl
theorem eX5_least_96 : (96, Instr.astore_n 3, 1, 0, 0, 0) ∈ kX5_least := List.mem_of_getElem? (i := 52) rfl
theorem eX5_least_97 : (97, Instr.aload_n 3, 1, 0, 0, 0) ∈ kX5_least := List.mem_of_getElem? (i := 53) rfl
theorem eX5_least_98 : (98, Instr.ifnull 22, 3, 120, 0, 0) ∈ kX5_least := List.mem_of_getElem? (i := 54) rfl
theorem eX5_least_101 : (101, Instr.aload_n 3, 1, 0, 0, 0) ∈ kX5_least := List.mem_of_getElem? (i := 55) rfl
theorem eX5_least_102 : (102, Instr.getfield 187, 3, 3, 7, 210) ∈ kX5_least := List.mem_of_getElem? (i := 56) rfl
theorem eX5_least_105 : (105, Instr.ifCond .ne 15, 3, 120, 0, 0) ∈ kX5_least := List.mem_of_getElem? (i := 57) rfl
theorem eX5_least_108 : (108, Instr.aload_n 0, 1, 0, 0, 0) ∈ kX5_least := List.mem_of_getElem? (i := 58) rfl
theorem eX5_least_109 : (109, Instr.getfield 40, 3, 5, 9, 89) ∈ kX5_least := List.mem_of_getElem? (i := 59) rfl
theorem eX5_least_112 : (112, Instr.aload_n 3, 1, 0, 0, 0) ∈ kX5_least := List.mem_of_getElem? (i := 60) rfl
theorem eX5_least_113 : (113, Instr.aload_n 0, 1, 0, 0, 0) ∈ kX5_least := List.mem_of_getElem? (i := 61) rfl
theorem eX5_least_114 : (114, Instr.getfield 49, 3, 5, 10, 90) ∈ kX5_least := List.mem_of_getElem? (i := 62) rfl
theorem eX5_least_117 : (117, Instr.invokevirtual 190, 3, 3, 2, 491) ∈ kX5_least := List.mem_of_getElem? (i := 63) rfl
theorem eX5_least_120 : (120, Instr.iinc 2 1, 3, 0, 0, 0) ∈ kX5_least := List.mem_of_getElem? (i := 64) rfl
theorem eX5_least_123 : (123, Instr.goto (-41), 3, 82, 0, 0) ∈ kX5_least := List.mem_of_getElem? (i := 65) rfl
theorem eX5_least_126 : (126, Instr.iload_n 1, 1, 0, 0, 0) ∈ kX5_least := List.mem_of_getElem? (i := 66) rfl
theorem eX5_least_127 : (127, Instr.aload_n 0, 1, 0, 0, 0) ∈ kX5_least := List.mem_of_getElem? (i := 67) rfl
theorem eX5_least_128 : (128, Instr.getfield 40, 3, 5, 9, 89) ∈ kX5_least := List.mem_of_getElem? (i := 68) rfl
theorem eX5_least_131 : (131, Instr.invokevirtual 194, 3, 4, 0, 506) ∈ kX5_least := List.mem_of_getElem? (i := 69) rfl
theorem eX5_least_134 : (134, Instr.iadd, 1, 0, 0, 0) ∈ kX5_least := List.mem_of_getElem? (i := 70) rfl
theorem eX5_least_135 : (135, Instr.ireturn, 1, 0, 0, 0) ∈ kX5_least := List.mem_of_getElem? (i := 71) rfl
theorem aX5_sell : am_m nX5_sell = mX5_sell := rfl
theorem eX5_sell_0 : (0, Instr.aload_n 0, 1, 0, 0, 0) ∈ kX5_sell := List.mem_of_getElem? (i := 0) rfl
theorem eX5_sell_1 : (1, Instr.iload_n 1, 1, 0, 0, 0) ∈ kX5_sell := List.mem_of_getElem? (i := 1) rfl
theorem eX5_sell_2 : (2, Instr.invokevirtual 114, 3, 56, 1, 344) ∈ kX5_sell := List.mem_of_getElem? (i := 2) rfl
theorem eX5_sell_5 : (5, Instr.astore_n 3, 1, 0, 0, 0) ∈ kX5_sell := List.mem_of_getElem? (i := 3) rfl
theorem eX5_sell_6 : (6, Instr.aload_n 3, 1, 0, 0, 0) ∈ kX5_sell := List.mem_of_getElem? (i := 4) rfl
theorem eX5_sell_7 : (7, Instr.ifnull 13, 3, 20, 0, 0) ∈ kX5_sell := List.mem_of_getElem? (i := 5) rfl
theorem eX5_sell_10 : (10, Instr.iload_n 2, 1, 0, 0, 0) ∈ kX5_sell := List.mem_of_getElem? (i := 6) rfl
theorem eX5_sell_11 : (11, Instr.iconst 0, 1, 0, 0, 0) ∈ kX5_sell := List.mem_of_getElem? (i := 7) rfl
theorem eX5_sell_12 : (12, Instr.ldc 48, 2, 100000, 0, 130) ∈ kX5_sell := List.mem_of_getElem? (i := 8) rfl
theorem eX5_sell_14 : (14, Instr.invokestatic 72, 3, 49, 3, 153) ∈ kX5_sell := List.mem_of_getElem? (i := 9) rfl
theorem eX5_sell_17 : (17, Instr.ifCond .ne 6, 3, 23, 0, 0) ∈ kX5_sell := List.mem_of_getElem? (i := 10) rfl
theorem eX5_sell_20 : (20, Instr.bipush (-2), 2, 0, 0, 0) ∈ kX5_sell := List.mem_of_getElem? (i := 11) rfl
theorem eX5_sell_22 : (22, Instr.ireturn, 1, 0, 0, 0) ∈ kX5_sell := List.mem_of_getElem? (i := 12) rfl
theorem eX5_sell_23 : (23, Instr.aload_n 3, 1, 0, 0, 0) ∈ kX5_sell := List.mem_of_getElem? (i := 13) rfl
theorem eX5_sell_24 : (24, Instr.getfield 118, 3, 4, 7, 264) ∈ kX5_sell := List.mem_of_getElem? (i := 14) rfl
theorem eX5_sell_27 : (27, Instr.ifCond .eq 6, 3, 33, 0, 0) ∈ kX5_sell := List.mem_of_getElem? (i := 15) rfl
theorem eX5_sell_30 : (30, Instr.bipush (-3), 2, 0, 0, 0) ∈ kX5_sell := List.mem_of_getElem? (i := 16) rfl
theorem eX5_sell_32 : (32, Instr.ireturn, 1, 0, 0, 0) ∈ kX5_sell := List.mem_of_getElem? (i := 17) rfl
theorem eX5_sell_33 : (33, Instr.aload_n 0, 1, 0, 0, 0) ∈ kX5_sell := List.mem_of_getElem? (i := 18) rfl
theorem eX5_sell_34 : (34, Instr.invokevirtual 197, 3, 53, 0, 135) ∈ kX5_sell := List.mem_of_getElem? (i := 19) rfl
theorem eX5_sell_37 : (37, Instr.aload_n 3, 1, 0, 0, 0) ∈ kX5_sell := List.mem_of_getElem? (i := 20) rfl
theorem eX5_sell_38 : (38, Instr.invokevirtual 200, 3, 18, 0, 356) ∈ kX5_sell := List.mem_of_getElem? (i := 21) rfl
theorem eX5_sell_41 : (41, Instr.isub, 1, 0, 0, 0) ∈ kX5_sell := List.mem_of_getElem? (i := 22) rfl
theorem eX5_sell_42 : (42, Instr.bipush 7, 2, 0, 0, 0) ∈ kX5_sell := List.mem_of_getElem? (i := 23) rfl
theorem eX5_sell_44 : (44, Instr.if_icmp .ge 6, 3, 50, 0, 0) ∈ kX5_sell := List.mem_of_getElem? (i := 24) rfl
theorem eX5_sell_47 : (47, Instr.bipush (-4), 2, 0, 0, 0) ∈ kX5_sell := List.mem_of_getElem? (i := 25) rfl
theorem eX5_sell_49 : (49, Instr.ireturn, 1, 0, 0, 0) ∈ kX5_sell := List.mem_of_getElem? (i := 26) rfl
theorem eX5_sell_50 : (50, Instr.aload_n 3, 1, 0, 0, 0) ∈ kX5_sell := List.mem_of_getElem? (i := 27) rfl
theorem eX5_sell_51 : (51, Instr.invokevirtual 128, 3, 24, 0, 370) ∈ kX5_sell := List.mem_of_getElem? (i := 28) rfl
theorem eX5_sell_54 : (54, Instr.ifCond .eq 6, 3, 60, 0, 0) ∈ kX5_sell := List.mem_of_getElem? (i := 29) rfl
theorem eX5_sell_57 : (57, Instr.bipush (-5), 2, 0, 0, 0) ∈ kX5_sell := List.mem_of_getElem? (i := 30) rfl
theorem eX5_sell_59 : (59, Instr.ireturn, 1, 0, 0, 0) ∈ kX5_sell := List.mem_of_getElem? (i := 31) rfl
theorem eX5_sell_60 : (60, Instr.aload_n 3, 1, 0, 0, 0) ∈ kX5_sell := List.mem_of_getElem? (i := 32) rfl
theorem eX5_sell_61 : (61, Instr.aload_n 0, 1, 0, 0, 0) ∈ kX5_sell := List.mem_of_getElem? (i := 33) rfl
theorem eX5_sell_62 : (62, Instr.invokevirtual 197, 3, 53, 0, 135) ∈ kX5_sell := List.mem_of_getElem? (i := 34) rfl
theorem eX5_sell_65 : (65, Instr.putfield 203, 3, 4, 10, 270) ∈ kX5_sell := List.mem_of_getElem? (i := 35) rfl
theorem eX5_sell_68 : (68, Instr.aload_n 3, 1, 0, 0, 0) ∈ kX5_sell := List.mem_of_getElem? (i := 36) rfl
theorem eX5_sell_69 : (69, Instr.getfield 206, 3, 4, 3, 255) ∈ kX5_sell := List.mem_of_getElem? (i := 37) rfl
theorem eX5_sell_72 : (72, Instr.ifCond .eq 11, 3, 83, 0, 0) ∈ kX5_sell := List.mem_of_getElem? (i := 38) rfl
theorem eX5_sell_75 : (75, Instr.aload_n 0, 1, 0, 0, 0) ∈ kX5_sell := List.mem_of_getElem? (i := 39) rfl
theorem eX5_sell_76 : (76, Instr.aload_n 3, 1, 0, 0, 0) ∈ kX5_sell := List.mem_of_getElem? (i := 40) rfl
theorem eX5_sell_77 : (77, Instr.iconst 5, 1, 0, 0, 0) ∈ kX5_sell := List.mem_of_getElem? (i := 41) rfl
theorem eX5_sell_78 : (78, Instr.invokevirtual 131, 3, 67, 2, 374) ∈ kX5_sell := List.mem_of_getElem? (i := 42) rfl
theorem eX5_sell_81 : (81, Instr.iconst 1, 1, 0, 0, 0) ∈ kX5_sell := List.mem_of_getElem? (i := 43) rfl
theorem eX5_sell_82 : (82, Instr.ireturn, 1, 0, 0, 0) ∈ kX5_sell := List.mem_of_getElem? (i := 44) rfl
theorem eX5_sell_83 : (83, Instr.aload_n 0, 1, 0, 0, 0) ∈ kX5_sell := List.mem_of_getElem? (i := 45) rfl
theorem eX5_sell_84 : (84, Instr.aload_n 3, 1, 0, 0, 0) ∈ kX5_sell := List.mem_of_getElem? (i := 46) rfl
theorem eX5_sell_85 : (85, Instr.iconst 2, 1, 0, 0, 0) ∈ kX5_sell := List.mem_of_getElem? (i := 47) rfl
theorem eX5_sell_86 : (86, Instr.invokevirtual 131, 3, 67, 2, 374) ∈ kX5_sell := List.mem_of_getElem? (i := 48) rfl
theorem eX5_sell_89 : (89, Instr.aload_n 3, 1, 0, 0, 0) ∈ kX5_sell := List.mem_of_getElem? (i := 49) rfl
theorem eX5_sell_90 : (90, Instr.iload_n 2, 1, 0, 0, 0) ∈ kX5_sell := List.mem_of_getElem? (i := 50) rfl
theorem eX5_sell_91 : (91, Instr.putfield 209, 3, 4, 9, 268) ∈ kX5_sell := List.mem_of_getElem? (i := 51) rfl
theorem eX5_sell_94 : (94, Instr.iconst 0, 1, 0, 0, 0) ∈ kX5_sell := List.mem_of_getElem? (i := 52) rfl
theorem eX5_sell_95 : (95, Instr.ireturn, 1, 0, 0, 0) ∈ kX5_sell := List.mem_of_getElem? (i := 53) rfl
theorem aX5_pay : am_m nX5_pay = mX5_pay := rfl
theorem eX5_pay_0 : (0, Instr.iload_n 1, 1, 0, 0, 0) ∈ kX5_pay := List.mem_of_getElem? (i := 0) rfl
theorem eX5_pay_1 : (1, Instr.invokestatic 111, 3, 60, 1, 341) ∈ kX5_pay := List.mem_of_getElem? (i := 1) rfl
theorem eX5_pay_4 : (4, Instr.ifCond .ne 6, 3, 10, 0, 0) ∈ kX5_pay := List.mem_of_getElem? (i := 2) rfl
theorem eX5_pay_7 : (7, Instr.bipush (-2), 2, 0, 0, 0) ∈ kX5_pay := List.mem_of_getElem? (i := 3) rfl
theorem eX5_pay_9 : (9, Instr.ireturn, 1, 0, 0, 0) ∈ kX5_pay := List.mem_of_getElem? (i := 4) rfl
theorem eX5_pay_10 : (10, Instr.aload_n 0, 1, 0, 0, 0) ∈ kX5_pay := List.mem_of_getElem? (i := 5) rfl
theorem eX5_pay_11 : (11, Instr.iload_n 1, 1, 0, 0, 0) ∈ kX5_pay := List.mem_of_getElem? (i := 6) rfl
theorem eX5_pay_12 : (12, Instr.bipush 100, 2, 0, 0, 0) ∈ kX5_pay := List.mem_of_getElem? (i := 7) rfl
theorem eX5_pay_14 : (14, Instr.idiv, 1, 0, 0, 0) ∈ kX5_pay := List.mem_of_getElem? (i := 8) rfl
theorem eX5_pay_15 : (15, Instr.invokevirtual 114, 3, 56, 1, 344) ∈ kX5_pay := List.mem_of_getElem? (i := 9) rfl
theorem eX5_pay_18 : (18, Instr.astore_n 2, 1, 0, 0, 0) ∈ kX5_pay := List.mem_of_getElem? (i := 10) rfl
theorem eX5_pay_19 : (19, Instr.aload_n 2, 1, 0, 0, 0) ∈ kX5_pay := List.mem_of_getElem? (i := 11) rfl
theorem eX5_pay_20 : (20, Instr.ifnonnull 6, 3, 26, 0, 0) ∈ kX5_pay := List.mem_of_getElem? (i := 12) rfl
theorem eX5_pay_23 : (23, Instr.bipush (-3), 2, 0, 0, 0) ∈ kX5_pay := List.mem_of_getElem? (i := 13) rfl
theorem eX5_pay_25 : (25, Instr.ireturn, 1, 0, 0, 0) ∈ kX5_pay := List.mem_of_getElem? (i := 14) rfl
theorem eX5_pay_26 : (26, Instr.aload_n 2, 1, 0, 0, 0) ∈ kX5_pay := List.mem_of_getElem? (i := 15) rfl
theorem eX5_pay_27 : (27, Instr.getfield 118, 3, 4, 7, 264) ∈ kX5_pay := List.mem_of_getElem? (i := 16) rfl
theorem eX5_pay_30 : (30, Instr.iconst 2, 1, 0, 0, 0) ∈ kX5_pay := List.mem_of_getElem? (i := 17) rfl
theorem eX5_pay_31 : (31, Instr.if_icmp .eq 6, 3, 37, 0, 0) ∈ kX5_pay := List.mem_of_getElem? (i := 18) rfl
theorem eX5_pay_34 : (34, Instr.bipush (-4), 2, 0, 0, 0) ∈ kX5_pay := List.mem_of_getElem? (i := 19) rfl
theorem eX5_pay_36 : (36, Instr.ireturn, 1, 0, 0, 0) ∈ kX5_pay := List.mem_of_getElem? (i := 20) rfl
theorem eX5_pay_37 : (37, Instr.aload_n 0, 1, 0, 0, 0) ∈ kX5_pay := List.mem_of_getElem? (i := 21) rfl
theorem eX5_pay_38 : (38, Instr.invokevirtual 83, 3, 54, 0, 233) ∈ kX5_pay := List.mem_of_getElem? (i := 22) rfl
theorem eX5_pay_41 : (41, Instr.ifCond .ne 6, 3, 47, 0, 0) ∈ kX5_pay := List.mem_of_getElem? (i := 23) rfl
theorem eX5_pay_44 : (44, Instr.bipush (-6), 2, 0, 0, 0) ∈ kX5_pay := List.mem_of_getElem? (i := 24) rfl
theorem eX5_pay_46 : (46, Instr.ireturn, 1, 0, 0, 0) ∈ kX5_pay := List.mem_of_getElem? (i := 25) rfl
theorem eX5_pay_47 : (47, Instr.aload_n 0, 1, 0, 0, 0) ∈ kX5_pay := List.mem_of_getElem? (i := 26) rfl
theorem eX5_pay_48 : (48, Instr.aload_n 2, 1, 0, 0, 0) ∈ kX5_pay := List.mem_of_getElem? (i := 27) rfl
theorem eX5_pay_49 : (49, Instr.invokevirtual 121, 3, 63, 1, 348) ∈ kX5_pay := List.mem_of_getElem? (i := 28) rfl
theorem eX5_pay_52 : (52, Instr.aload_n 2, 1, 0, 0, 0) ∈ kX5_pay := List.mem_of_getElem? (i := 29) rfl
theorem eX5_pay_53 : (53, Instr.getfield 209, 3, 4, 9, 268) ∈ kX5_pay := List.mem_of_getElem? (i := 30) rfl
theorem eX5_pay_56 : (56, Instr.invokestatic 212, 3, 121, 2, 518) ∈ kX5_pay := List.mem_of_getElem? (i := 31) rfl
theorem eX5_pay_59 : (59, Instr.istore_n 3, 1, 0, 0, 0) ∈ kX5_pay := List.mem_of_getElem? (i := 32) rfl
theorem eX5_pay_60 : (60, Instr.aload_n 2, 1, 0, 0, 0) ∈ kX5_pay := List.mem_of_getElem? (i := 33) rfl
theorem eX5_pay_61 : (61, Instr.getfield 209, 3, 4, 9, 268) ∈ kX5_pay := List.mem_of_getElem? (i := 34) rfl
theorem eX5_pay_64 : (64, Instr.iload_n 3, 1, 0, 0, 0) ∈ kX5_pay := List.mem_of_getElem? (i := 35) rfl
theorem eX5_pay_65 : (65, Instr.isub, 1, 0, 0, 0) ∈ kX5_pay := List.mem_of_getElem? (i := 36) rfl
theorem eX5_pay_66 : (66, Instr.istore 4, 2, 0, 0, 0) ∈ kX5_pay := List.mem_of_getElem? (i := 37) rfl
theorem eX5_pay_68 : (68, Instr.aload_n 0, 1, 0, 0, 0) ∈ kX5_pay := List.mem_of_getElem? (i := 38) rfl
theorem eX5_pay_69 : (69, Instr.dup, 1, 0, 0, 0) ∈ kX5_pay := List.mem_of_getElem? (i := 39) rfl
theorem eX5_pay_70 : (70, Instr.getfield 135, 3, 5, 13, 93) ∈ kX5_pay := List.mem_of_getElem? (i := 40) rfl
theorem eX5_pay_73 : (73, Instr.iload_n 3, 1, 0, 0, 0) ∈ kX5_pay := List.mem_of_getElem? (i := 41) rfl
theorem eX5_pay_74 : (74, Instr.iadd, 1, 0, 0, 0) ∈ kX5_pay := List.mem_of_getElem? (i := 42) rfl
theorem eX5_pay_75 : (75, Instr.putfield 135, 3, 5, 13, 93) ∈ kX5_pay := List.mem_of_getElem? (i := 43) rfl
theorem eX5_pay_78 : (78, Instr.aload_n 2, 1, 0, 0, 0) ∈ kX5_pay := List.mem_of_getElem? (i := 44) rfl
theorem eX5_pay_79 : (79, Instr.iconst 0, 1, 0, 0, 0) ∈ kX5_pay := List.mem_of_getElem? (i := 45) rfl
theorem eX5_pay_80 : (80, Instr.putfield 209, 3, 4, 9, 268) ∈ kX5_pay := List.mem_of_getElem? (i := 46) rfl
theorem eX5_pay_83 : (83, Instr.aload_n 2, 1, 0, 0, 0) ∈ kX5_pay := List.mem_of_getElem? (i := 47) rfl
theorem eX5_pay_84 : (84, Instr.iconst 3, 1, 0, 0, 0) ∈ kX5_pay := List.mem_of_getElem? (i := 48) rfl
theorem eX5_pay_85 : (85, Instr.putfield 118, 3, 4, 7, 264) ∈ kX5_pay := List.mem_of_getElem? (i := 49) rfl
theorem eX5_pay_88 : (88, Instr.iload 4, 2, 0, 0, 0) ∈ kX5_pay := List.mem_of_getElem? (i := 50) rfl
theorem eX5_pay_90 : (90, Instr.ireturn, 1, 0, 0, 0) ∈ kX5_pay := List.mem_of_getElem? (i := 51) rfl
theorem aX5_tear : am_m nX5_tear = mX5_tear := rfl
theorem eX5_tear_0 : (0, Instr.aload_n 0, 1, 0, 0, 0) ∈ kX5_tear := List.mem_of_getElem? (i := 0) rfl
theorem eX5_tear_1 : (1, Instr.iload_n 1, 1, 0, 0, 0) ∈ kX5_tear := List.mem_of_getElem? (i := 1) rfl
theorem eX5_tear_2 : (2, Instr.invokevirtual 218, 3, 55, 1, 523) ∈ kX5_tear := List.mem_of_getElem? (i := 2) rfl
theorem eX5_tear_5 : (5, Instr.astore_n 2, 1, 0, 0, 0) ∈ kX5_tear := List.mem_of_getElem? (i := 3) rfl
theorem eX5_tear_6 : (6, Instr.aload_n 2, 1, 0, 0, 0) ∈ kX5_tear := List.mem_of_getElem? (i := 4) rfl
theorem eX5_tear_7 : (7, Instr.ifnull 10, 3, 17, 0, 0) ∈ kX5_tear := List.mem_of_getElem? (i := 5) rfl
theorem eX5_tear_10 : (10, Instr.aload_n 2, 1, 0, 0, 0) ∈ kX5_tear := List.mem_of_getElem? (i := 6) rfl
theorem eX5_tear_11 : (11, Instr.getfield 187, 3, 3, 7, 210) ∈ kX5_tear := List.mem_of_getElem? (i := 7) rfl
theorem eX5_tear_14 : (14, Instr.ifCond .eq 5, 3, 19, 0, 0) ∈ kX5_tear := List.mem_of_getElem? (i := 8) rfl
theorem eX5_tear_17 : (17, Instr.iconst 0, 1, 0, 0, 0) ∈ kX5_tear := List.mem_of_getElem? (i := 9) rfl
theorem eX5_tear_18 : (18, Instr.ireturn, 1, 1, 0, 0) ∈ kX5_tear := List.mem_of_getElem? (i := 10) rfl
theorem eX5_tear_19 : (19, Instr.aload_n 2, 1, 0, 0, 0) ∈ kX5_tear := List.mem_of_getElem? (i := 11) rfl
theorem eX5_tear_20 : (20, Instr.iconst 1, 1, 0, 0, 0) ∈ kX5_tear := List.mem_of_getElem? (i := 12) rfl
theorem eX5_tear_21 : (21, Instr.putfield 187, 3, 3, 7, 210) ∈ kX5_tear := List.mem_of_getElem? (i := 13) rfl
theorem eX5_tear_24 : (24, Instr.iconst 1, 1, 0, 0, 0) ∈ kX5_tear := List.mem_of_getElem? (i := 14) rfl
theorem eX5_tear_25 : (25, Instr.ireturn, 1, 1, 0, 0) ∈ kX5_tear := List.mem_of_getElem? (i := 15) rfl
theorem aX5_mend : am_m nX5_mend = mX5_mend := rfl
theorem eX5_mend_0 : (0, Instr.aload_n 0, 1, 0, 0, 0) ∈ kX5_mend := List.mem_of_getElem? (i := 0) rfl
theorem eX5_mend_1 : (1, Instr.iload_n 1, 1, 0, 0, 0) ∈ kX5_mend := List.mem_of_getElem? (i := 1) rfl
theorem eX5_mend_2 : (2, Instr.invokevirtual 218, 3, 55, 1, 523) ∈ kX5_mend := List.mem_of_getElem? (i := 2) rfl
theorem eX5_mend_5 : (5, Instr.astore_n 2, 1, 0, 0, 0) ∈ kX5_mend := List.mem_of_getElem? (i := 3) rfl
theorem eX5_mend_6 : (6, Instr.aload_n 2, 1, 0, 0, 0) ∈ kX5_mend := List.mem_of_getElem? (i := 4) rfl
theorem eX5_mend_7 : (7, Instr.ifnull 10, 3, 17, 0, 0) ∈ kX5_mend := List.mem_of_getElem? (i := 5) rfl
theorem eX5_mend_10 : (10, Instr.aload_n 2, 1, 0, 0, 0) ∈ kX5_mend := List.mem_of_getElem? (i := 6) rfl
theorem eX5_mend_11 : (11, Instr.getfield 187, 3, 3, 7, 210) ∈ kX5_mend := List.mem_of_getElem? (i := 7) rfl
theorem eX5_mend_14 : (14, Instr.ifCond .ne 5, 3, 19, 0, 0) ∈ kX5_mend := List.mem_of_getElem? (i := 8) rfl
theorem eX5_mend_17 : (17, Instr.iconst 0, 1, 0, 0, 0) ∈ kX5_mend := List.mem_of_getElem? (i := 9) rfl
theorem eX5_mend_18 : (18, Instr.ireturn, 1, 1, 0, 0) ∈ kX5_mend := List.mem_of_getElem? (i := 10) rfl
theorem eX5_mend_19 : (19, Instr.aload_n 2, 1, 0, 0, 0) ∈ kX5_mend := List.mem_of_getElem? (i := 11) rfl
theorem eX5_mend_20 : (20, Instr.iconst 0, 1, 0, 0, 0) ∈ kX5_mend := List.mem_of_getElem? (i := 12) rfl
theorem eX5_mend_21 : (21, Instr.putfield 187, 3, 3, 7, 210) ∈ kX5_mend := List.mem_of_getElem? (i := 13) rfl
theorem eX5_mend_24 : (24, Instr.iconst 1, 1, 0, 0, 0) ∈ kX5_mend := List.mem_of_getElem? (i := 14) rfl
theorem eX5_mend_25 : (25, Instr.ireturn, 1, 1, 0, 0) ∈ kX5_mend := List.mem_of_getElem? (i := 15) rfl
theorem aX5_shelfOf : am_m nX5_shelfOf = mX5_shelfOf := rfl
theorem eX5_shelfOf_0 : (0, Instr.aload_n 0, 1, 0, 0, 0) ∈ kX5_shelfOf := List.mem_of_getElem? (i := 0) rfl
theorem eX5_shelfOf_1 : (1, Instr.iload_n 1, 1, 0, 0, 0) ∈ kX5_shelfOf := List.mem_of_getElem? (i := 1) rfl
theorem eX5_shelfOf_2 : (2, Instr.invokevirtual 218, 3, 55, 1, 523) ∈ kX5_shelfOf := List.mem_of_getElem? (i := 2) rfl
theorem eX5_shelfOf_5 : (5, Instr.astore_n 3, 1, 0, 0, 0) ∈ kX5_shelfOf := List.mem_of_getElem? (i := 3) rfl
theorem eX5_shelfOf_6 : (6, Instr.aload_n 3, 1, 0, 0, 0) ∈ kX5_shelfOf := List.mem_of_getElem? (i := 4) rfl
theorem eX5_shelfOf_7 : (7, Instr.ifnonnull 5, 3, 12, 0, 0) ∈ kX5_shelfOf := List.mem_of_getElem? (i := 5) rfl
theorem eX5_shelfOf_10 : (10, Instr.iconst (-1), 1, 0, 0, 0) ∈ kX5_shelfOf := List.mem_of_getElem? (i := 6) rfl
theorem eX5_shelfOf_11 : (11, Instr.ireturn, 1, 0, 0, 0) ∈ kX5_shelfOf := List.mem_of_getElem? (i := 7) rfl
theorem eX5_shelfOf_12 : (12, Instr.iload_n 2, 1, 0, 0, 0) ∈ kX5_shelfOf := List.mem_of_getElem? (i := 8) rfl
theorem eX5_shelfOf_13 : (13, Instr.tableswitch 84 0 6 #[43, 48, 53, 61, 66, 71, 76], 43, 0, 0, 0) ∈ kX5_shelfOf := List.mem_of_getElem? (i := 9) rfl
theorem eX5_shelfOf_56 : (56, Instr.aload_n 3, 1, 0, 0, 0) ∈ kX5_shelfOf := List.mem_of_getElem? (i := 10) rfl
theorem eX5_shelfOf_57 : (57, Instr.getfield 222, 3, 3, 1, 196) ∈ kX5_shelfOf := List.mem_of_getElem? (i := 11) rfl
theorem eX5_shelfOf_60 : (60, Instr.ireturn, 1, 0, 0, 0) ∈ kX5_shelfOf := List.mem_of_getElem? (i := 12) rfl
theorem eX5_shelfOf_61 : (61, Instr.aload_n 3, 1, 0, 0, 0) ∈ kX5_shelfOf := List.mem_of_getElem? (i := 13) rfl
theorem eX5_shelfOf_62 : (62, Instr.getfield 225, 3, 3, 2, 198) ∈ kX5_shelfOf := List.mem_of_getElem? (i := 14) rfl
theorem eX5_shelfOf_65 : (65, Instr.ireturn, 1, 0, 0, 0) ∈ kX5_shelfOf := List.mem_of_getElem? (i := 15) rfl
theorem eX5_shelfOf_66 : (66, Instr.aload_n 3, 1, 0, 0, 0) ∈ kX5_shelfOf := List.mem_of_getElem? (i := 16) rfl
theorem eX5_shelfOf_67 : (67, Instr.getfield 228, 3, 3, 3, 200) ∈ kX5_shelfOf := List.mem_of_getElem? (i := 17) rfl
theorem eX5_shelfOf_70 : (70, Instr.invokestatic 231, 3, 51, 1, 535) ∈ kX5_shelfOf := List.mem_of_getElem? (i := 18) rfl
theorem eX5_shelfOf_73 : (73, Instr.ireturn, 1, 0, 0, 0) ∈ kX5_shelfOf := List.mem_of_getElem? (i := 19) rfl
theorem eX5_shelfOf_74 : (74, Instr.aload_n 3, 1, 0, 0, 0) ∈ kX5_shelfOf := List.mem_of_getElem? (i := 20) rfl
theorem eX5_shelfOf_75 : (75, Instr.getfield 104, 3, 3, 4, 203) ∈ kX5_shelfOf := List.mem_of_getElem? (i := 21) rfl
theorem eX5_shelfOf_78 : (78, Instr.ireturn, 1, 0, 0, 0) ∈ kX5_shelfOf := List.mem_of_getElem? (i := 22) rfl
theorem eX5_shelfOf_79 : (79, Instr.aload_n 3, 1, 0, 0, 0) ∈ kX5_shelfOf := List.mem_of_getElem? (i := 23) rfl
theorem eX5_shelfOf_80 : (80, Instr.getfield 235, 3, 3, 5, 205) ∈ kX5_shelfOf := List.mem_of_getElem? (i := 24) rfl
theorem eX5_shelfOf_83 : (83, Instr.ireturn, 1, 0, 0, 0) ∈ kX5_shelfOf := List.mem_of_getElem? (i := 25) rfl
theorem eX5_shelfOf_84 : (84, Instr.aload_n 3, 1, 0, 0, 0) ∈ kX5_shelfOf := List.mem_of_getElem? (i := 26) rfl
theorem eX5_shelfOf_85 : (85, Instr.getfield 238, 3, 3, 6, 207) ∈ kX5_shelfOf := List.mem_of_getElem? (i := 27) rfl
theorem eX5_shelfOf_88 : (88, Instr.ireturn, 1, 0, 0, 0) ∈ kX5_shelfOf := List.mem_of_getElem? (i := 28) rfl
theorem eX5_shelfOf_89 : (89, Instr.aload_n 3, 1, 0, 0, 0) ∈ kX5_shelfOf := List.mem_of_getElem? (i := 29) rfl
theorem eX5_shelfOf_90 : (90, Instr.getfield 187, 3, 3, 7, 210) ∈ kX5_shelfOf := List.mem_of_getElem? (i := 30) rfl
theorem eX5_shelfOf_93 : (93, Instr.invokestatic 231, 3, 51, 1, 535) ∈ kX5_shelfOf := List.mem_of_getElem? (i := 31) rfl
theorem eX5_shelfOf_96 : (96, Instr.ireturn, 1, 0, 0, 0) ∈ kX5_shelfOf := List.mem_of_getElem? (i := 32) rfl
theorem eX5_shelfOf_97 : (97, Instr.iconst (-1), 1, 0, 0, 0) ∈ kX5_shelfOf := List.mem_of_getElem? (i := 33) rfl
theorem eX5_shelfOf_98 : (98, Instr.ireturn, 1, 0, 0, 0) ∈ kX5_shelfOf := List.mem_of_getElem? (i := 34) rfl
theorem aX5_thing : am_m nX5_thing = mX5_thing := rfl
theorem eX5_thing_0 : (0, Instr.aload_n 0, 1, 0, 0, 0) ∈ kX5_thing := List.mem_of_getElem? (i := 0) rfl
theorem eX5_thing_1 : (1, Instr.iload_n 1, 1, 0, 0, 0) ∈ kX5_thing := List.mem_of_getElem? (i := 1) rfl
theorem eX5_thing_2 : (2, Instr.invokevirtual 114, 3, 56, 1, 344) ∈ kX5_thing := List.mem_of_getElem? (i := 2) rfl
theorem eX5_thing_5 : (5, Instr.astore_n 3, 1, 0, 0, 0) ∈ kX5_thing := List.mem_of_getElem? (i := 3) rfl
theorem eX5_thing_6 : (6, Instr.aload_n 3, 1, 0, 0, 0) ∈ kX5_thing := List.mem_of_getElem? (i := 4) rfl
theorem eX5_thing_7 : (7, Instr.ifnonnull 5, 3, 12, 0, 0) ∈ kX5_thing := List.mem_of_getElem? (i := 5) rfl
theorem eX5_thing_10 : (10, Instr.iconst (-1), 1, 0, 0, 0) ∈ kX5_thing := List.mem_of_getElem? (i := 6) rfl
theorem eX5_thing_11 : (11, Instr.ireturn, 1, 0, 0, 0) ∈ kX5_thing := List.mem_of_getElem? (i := 7) rfl
theorem eX5_thing_12 : (12, Instr.iload_n 2, 1, 0, 0, 0) ∈ kX5_thing := List.mem_of_getElem? (i := 8) rfl
theorem eX5_thing_13 : (13, Instr.tableswitch 146 0 12 #[67, 72, 77, 85, 93, 98, 103, 108, 113, 118, 127, 136, 141], 67, 0, 0, 0) ∈ kX5_thing := List.mem_of_getElem? (i := 9) rfl
theorem eX5_thing_80 : (80, Instr.aload_n 3, 1, 0, 0, 0) ∈ kX5_thing := List.mem_of_getElem? (i := 10) rfl
theorem eX5_thing_81 : (81, Instr.getfield 241, 3, 4, 0, 246) ∈ kX5_thing := List.mem_of_getElem? (i := 11) rfl
theorem eX5_thing_84 : (84, Instr.ireturn, 1, 0, 0, 0) ∈ kX5_thing := List.mem_of_getElem? (i := 12) rfl
theorem eX5_thing_85 : (85, Instr.aload_n 3, 1, 0, 0, 0) ∈ kX5_thing := List.mem_of_getElem? (i := 13) rfl
theorem eX5_thing_86 : (86, Instr.getfield 244, 3, 4, 1, 249) ∈ kX5_thing := List.mem_of_getElem? (i := 14) rfl
theorem eX5_thing_89 : (89, Instr.ireturn, 1, 0, 0, 0) ∈ kX5_thing := List.mem_of_getElem? (i := 15) rfl
theorem eX5_thing_90 : (90, Instr.aload_n 3, 1, 0, 0, 0) ∈ kX5_thing := List.mem_of_getElem? (i := 16) rfl
theorem eX5_thing_91 : (91, Instr.getfield 245, 3, 4, 2, 253) ∈ kX5_thing := List.mem_of_getElem? (i := 17) rfl
theorem eX5_thing_94 : (94, Instr.invokestatic 231, 3, 51, 1, 535) ∈ kX5_thing := List.mem_of_getElem? (i := 18) rfl
theorem eX5_thing_97 : (97, Instr.ireturn, 1, 0, 0, 0) ∈ kX5_thing := List.mem_of_getElem? (i := 19) rfl
theorem eX5_thing_98 : (98, Instr.aload_n 3, 1, 0, 0, 0) ∈ kX5_thing := List.mem_of_getElem? (i := 20) rfl
theorem eX5_thing_99 : (99, Instr.getfield 206, 3, 4, 3, 255) ∈ kX5_thing := List.mem_of_getElem? (i := 21) rfl
theorem eX5_thing_102 : (102, Instr.invokestatic 231, 3, 51, 1, 535) ∈ kX5_thing := List.mem_of_getElem? (i := 22) rfl
theorem eX5_thing_105 : (105, Instr.ireturn, 1, 0, 0, 0) ∈ kX5_thing := List.mem_of_getElem? (i := 23) rfl
theorem eX5_thing_106 : (106, Instr.aload_n 3, 1, 0, 0, 0) ∈ kX5_thing := List.mem_of_getElem? (i := 24) rfl
theorem eX5_thing_107 : (107, Instr.getfield 246, 3, 4, 4, 257) ∈ kX5_thing := List.mem_of_getElem? (i := 25) rfl
theorem eX5_thing_110 : (110, Instr.ireturn, 1, 0, 0, 0) ∈ kX5_thing := List.mem_of_getElem? (i := 26) rfl
theorem eX5_thing_111 : (111, Instr.aload_n 3, 1, 0, 0, 0) ∈ kX5_thing := List.mem_of_getElem? (i := 27) rfl
theorem eX5_thing_112 : (112, Instr.getfield 249, 3, 4, 5, 259) ∈ kX5_thing := List.mem_of_getElem? (i := 28) rfl
theorem eX5_thing_115 : (115, Instr.ireturn, 1, 0, 0, 0) ∈ kX5_thing := List.mem_of_getElem? (i := 29) rfl
theorem eX5_thing_116 : (116, Instr.aload_n 3, 1, 0, 0, 0) ∈ kX5_thing := List.mem_of_getElem? (i := 30) rfl
theorem eX5_thing_117 : (117, Instr.getfield 252, 3, 4, 6, 261) ∈ kX5_thing := List.mem_of_getElem? (i := 31) rfl
theorem eX5_thing_120 : (120, Instr.ireturn, 1, 0, 0, 0) ∈ kX5_thing := List.mem_of_getElem? (i := 32) rfl
theorem eX5_thing_121 : (121, Instr.aload_n 3, 1, 0, 0, 0) ∈ kX5_thing := List.mem_of_getElem? (i := 33) rfl
theorem eX5_thing_122 : (122, Instr.getfield 118, 3, 4, 7, 264) ∈ kX5_thing := List.mem_of_getElem? (i := 34) rfl
theorem eX5_thing_125 : (125, Instr.ireturn, 1, 0, 0, 0) ∈ kX5_thing := List.mem_of_getElem? (i := 35) rfl
theorem eX5_thing_126 : (126, Instr.aload_n 3, 1, 0, 0, 0) ∈ kX5_thing := List.mem_of_getElem? (i := 36) rfl
theorem eX5_thing_127 : (127, Instr.invokevirtual 255, 3, 23, 0, 542) ∈ kX5_thing := List.mem_of_getElem? (i := 37) rfl
theorem eX5_thing_130 : (130, Instr.ireturn, 1, 0, 0, 0) ∈ kX5_thing := List.mem_of_getElem? (i := 38) rfl
theorem eX5_thing_131 : (131, Instr.aload_n 3, 1, 0, 0, 0) ∈ kX5_thing := List.mem_of_getElem? (i := 39) rfl
theorem eX5_thing_132 : (132, Instr.aload_n 0, 1, 0, 0, 0) ∈ kX5_thing := List.mem_of_getElem? (i := 40) rfl
theorem eX5_thing_133 : (133, Instr.getfield 49, 3, 5, 10, 90) ∈ kX5_thing := List.mem_of_getElem? (i := 41) rfl
theorem eX5_thing_136 : (136, Instr.invokevirtual 258, 3, 20, 1, 546) ∈ kX5_thing := List.mem_of_getElem? (i := 42) rfl
theorem eX5_thing_139 : (139, Instr.ireturn, 1, 0, 0, 0) ∈ kX5_thing := List.mem_of_getElem? (i := 43) rfl
theorem eX5_thing_140 : (140, Instr.aload_n 3, 1, 0, 0, 0) ∈ kX5_thing := List.mem_of_getElem? (i := 44) rfl
theorem eX5_thing_141 : (141, Instr.aload_n 0, 1, 0, 0, 0) ∈ kX5_thing := List.mem_of_getElem? (i := 45) rfl
theorem eX5_thing_142 : (142, Instr.getfield 49, 3, 5, 10, 90) ∈ kX5_thing := List.mem_of_getElem? (i := 46) rfl
theorem eX5_thing_145 : (145, Instr.invokevirtual 174, 3, 22, 1, 457) ∈ kX5_thing := List.mem_of_getElem? (i := 47) rfl
theorem eX5_thing_148 : (148, Instr.ireturn, 1, 0, 0, 0) ∈ kX5_thing := List.mem_of_getElem? (i := 48) rfl
theorem eX5_thing_149 : (149, Instr.aload_n 3, 1, 0, 0, 0) ∈ kX5_thing := List.mem_of_getElem? (i := 49) rfl
theorem eX5_thing_150 : (150, Instr.getfield 209, 3, 4, 9, 268) ∈ kX5_thing := List.mem_of_getElem? (i := 50) rfl
theorem eX5_thing_153 : (153, Instr.ireturn, 1, 0, 0, 0) ∈ kX5_thing := List.mem_of_getElem? (i := 51) rfl
theorem eX5_thing_154 : (154, Instr.aload_n 3, 1, 0, 0, 0) ∈ kX5_thing := List.mem_of_getElem? (i := 52) rfl
theorem eX5_thing_155 : (155, Instr.getfield 203, 3, 4, 10, 270) ∈ kX5_thing := List.mem_of_getElem? (i := 53) rfl
theorem eX5_thing_158 : (158, Instr.ireturn, 1, 0, 0, 0) ∈ kX5_thing := List.mem_of_getElem? (i := 54) rfl
theorem eX5_thing_159 : (159, Instr.iconst (-1), 1, 0, 0, 0) ∈ kX5_thing := List.mem_of_getElem? (i := 55) rfl
theorem eX5_thing_160 : (160, Instr.ireturn, 1, 0, 0, 0) ∈ kX5_thing := List.mem_of_getElem? (i := 56) rfl
theorem aX5_claimOf : am_m nX5_claimOf = mX5_claimOf := rfl
theorem eX5_claimOf_0 : (0, Instr.aload_n 0, 1, 0, 0, 0) ∈ kX5_claimOf := List.mem_of_getElem? (i := 0) rfl
theorem eX5_claimOf_1 : (1, Instr.iload_n 1, 1, 0, 0, 0) ∈ kX5_claimOf := List.mem_of_getElem? (i := 1) rfl
theorem eX5_claimOf_2 : (2, Instr.invokevirtual 142, 3, 57, 1, 407) ∈ kX5_claimOf := List.mem_of_getElem? (i := 2) rfl
theorem eX5_claimOf_5 : (5, Instr.astore_n 3, 1, 0, 0, 0) ∈ kX5_claimOf := List.mem_of_getElem? (i := 3) rfl
theorem eX5_claimOf_6 : (6, Instr.aload_n 3, 1, 0, 0, 0) ∈ kX5_claimOf := List.mem_of_getElem? (i := 4) rfl
theorem eX5_claimOf_7 : (7, Instr.ifnonnull 5, 3, 12, 0, 0) ∈ kX5_claimOf := List.mem_of_getElem? (i := 5) rfl
theorem eX5_claimOf_10 : (10, Instr.iconst (-1), 1, 0, 0, 0) ∈ kX5_claimOf := List.mem_of_getElem? (i := 6) rfl
theorem eX5_claimOf_11 : (11, Instr.ireturn, 1, 0, 0, 0) ∈ kX5_claimOf := List.mem_of_getElem? (i := 7) rfl
theorem eX5_claimOf_12 : (12, Instr.iload_n 2, 1, 0, 0, 0) ∈ kX5_claimOf := List.mem_of_getElem? (i := 8) rfl
theorem eX5_claimOf_13 : (13, Instr.bipush 10, 2, 0, 0, 0) ∈ kX5_claimOf := List.mem_of_getElem? (i := 9) rfl
theorem eX5_claimOf_15 : (15, Instr.bipush 13, 2, 0, 0, 0) ∈ kX5_claimOf := List.mem_of_getElem? (i := 10) rfl
theorem eX5_claimOf_17 : (17, Instr.invokestatic 72, 3, 49, 3, 153) ∈ kX5_claimOf := List.mem_of_getElem? (i := 11) rfl
theorem eX5_claimOf_20 : (20, Instr.ifCond .eq 13, 3, 33, 0, 0) ∈ kX5_claimOf := List.mem_of_getElem? (i := 12) rfl
theorem eX5_claimOf_23 : (23, Instr.aload_n 3, 1, 0, 0, 0) ∈ kX5_claimOf := List.mem_of_getElem? (i := 13) rfl
theorem eX5_claimOf_24 : (24, Instr.getfield 150, 3, 1, 0, 392) ∈ kX5_claimOf := List.mem_of_getElem? (i := 14) rfl
theorem eX5_claimOf_27 : (27, Instr.iload_n 2, 1, 0, 0, 0) ∈ kX5_claimOf := List.mem_of_getElem? (i := 15) rfl
theorem eX5_claimOf_28 : (28, Instr.bipush 10, 2, 0, 0, 0) ∈ kX5_claimOf := List.mem_of_getElem? (i := 16) rfl
theorem eX5_claimOf_30 : (30, Instr.isub, 1, 0, 0, 0) ∈ kX5_claimOf := List.mem_of_getElem? (i := 17) rfl
theorem eX5_claimOf_31 : (31, Instr.iaload, 1, 0, 0, 0) ∈ kX5_claimOf := List.mem_of_getElem? (i := 18) rfl
theorem eX5_claimOf_32 : (32, Instr.ireturn, 1, 0, 0, 0) ∈ kX5_claimOf := List.mem_of_getElem? (i := 19) rfl
theorem eX5_claimOf_33 : (33, Instr.iload_n 2, 1, 0, 0, 0) ∈ kX5_claimOf := List.mem_of_getElem? (i := 20) rfl
theorem eX5_claimOf_34 : (34, Instr.tableswitch 44 0 2 #[26, 31, 39], 26, 0, 0, 0) ∈ kX5_claimOf := List.mem_of_getElem? (i := 21) rfl
theorem eX5_claimOf_60 : (60, Instr.aload_n 3, 1, 0, 0, 0) ∈ kX5_claimOf := List.mem_of_getElem? (i := 22) rfl
theorem eX5_claimOf_61 : (61, Instr.invokevirtual 161, 3, 8, 0, 441) ∈ kX5_claimOf := List.mem_of_getElem? (i := 23) rfl
theorem eX5_claimOf_64 : (64, Instr.ireturn, 1, 0, 0, 0) ∈ kX5_claimOf := List.mem_of_getElem? (i := 24) rfl
theorem eX5_claimOf_65 : (65, Instr.aload_n 3, 1, 0, 0, 0) ∈ kX5_claimOf := List.mem_of_getElem? (i := 25) rfl
theorem eX5_claimOf_66 : (66, Instr.getfield 146, 3, 1, 1, 393) ∈ kX5_claimOf := List.mem_of_getElem? (i := 26) rfl
theorem eX5_claimOf_69 : (69, Instr.invokestatic 231, 3, 51, 1, 535) ∈ kX5_claimOf := List.mem_of_getElem? (i := 27) rfl
theorem eX5_claimOf_72 : (72, Instr.ireturn, 1, 0, 0, 0) ∈ kX5_claimOf := List.mem_of_getElem? (i := 28) rfl
theorem eX5_claimOf_73 : (73, Instr.aload_n 3, 1, 0, 0, 0) ∈ kX5_claimOf := List.mem_of_getElem? (i := 29) rfl
theorem eX5_claimOf_74 : (74, Instr.getfield 171, 3, 1, 2, 395) ∈ kX5_claimOf := List.mem_of_getElem? (i := 30) rfl
theorem eX5_claimOf_77 : (77, Instr.ireturn, 1, 0, 0, 0) ∈ kX5_claimOf := List.mem_of_getElem? (i := 31) rfl
theorem eX5_claimOf_78 : (78, Instr.iconst (-1), 1, 0, 0, 0) ∈ kX5_claimOf := List.mem_of_getElem? (i := 32) rfl
theorem eX5_claimOf_79 : (79, Instr.ireturn, 1, 0, 0, 0) ∈ kX5_claimOf := List.mem_of_getElem? (i := 33) rfl
theorem aX5_count : am_m nX5_count = mX5_count := rfl
theorem eX5_count_0 : (0, Instr.iload_n 1, 1, 0, 0, 0) ∈ kX5_count := List.mem_of_getElem? (i := 0) rfl
theorem eX5_count_1 : (1, Instr.tableswitch 117 0 10 #[59, 64, 69, 74, 79, 84, 89, 94, 102, 107, 112], 59, 0, 0, 0) ∈ kX5_count := List.mem_of_getElem? (i := 1) rfl
theorem eX5_count_60 : (60, Instr.aload_n 0, 1, 0, 0, 0) ∈ kX5_count := List.mem_of_getElem? (i := 2) rfl
theorem eX5_count_61 : (61, Instr.getfield 76, 3, 5, 1, 81) ∈ kX5_count := List.mem_of_getElem? (i := 3) rfl
theorem eX5_count_64 : (64, Instr.ireturn, 1, 0, 0, 0) ∈ kX5_count := List.mem_of_getElem? (i := 4) rfl
theorem eX5_count_65 : (65, Instr.aload_n 0, 1, 0, 0, 0) ∈ kX5_count := List.mem_of_getElem? (i := 5) rfl
theorem eX5_count_66 : (66, Instr.getfield 87, 3, 5, 3, 83) ∈ kX5_count := List.mem_of_getElem? (i := 6) rfl
theorem eX5_count_69 : (69, Instr.ireturn, 1, 0, 0, 0) ∈ kX5_count := List.mem_of_getElem? (i := 7) rfl
theorem eX5_count_70 : (70, Instr.aload_n 0, 1, 0, 0, 0) ∈ kX5_count := List.mem_of_getElem? (i := 8) rfl
theorem eX5_count_71 : (71, Instr.invokevirtual 261, 3, 75, 0, 555) ∈ kX5_count := List.mem_of_getElem? (i := 9) rfl
theorem eX5_count_74 : (74, Instr.ireturn, 1, 0, 0, 0) ∈ kX5_count := List.mem_of_getElem? (i := 10) rfl
theorem eX5_count_75 : (75, Instr.aload_n 0, 1, 0, 0, 0) ∈ kX5_count := List.mem_of_getElem? (i := 11) rfl
theorem eX5_count_76 : (76, Instr.getfield 138, 3, 5, 5, 85) ∈ kX5_count := List.mem_of_getElem? (i := 12) rfl
theorem eX5_count_79 : (79, Instr.ireturn, 1, 0, 0, 0) ∈ kX5_count := List.mem_of_getElem? (i := 13) rfl
theorem eX5_count_80 : (80, Instr.aload_n 0, 1, 0, 0, 0) ∈ kX5_count := List.mem_of_getElem? (i := 14) rfl
theorem eX5_count_81 : (81, Instr.getfield 62, 3, 5, 7, 87) ∈ kX5_count := List.mem_of_getElem? (i := 15) rfl
theorem eX5_count_84 : (84, Instr.ireturn, 1, 0, 0, 0) ∈ kX5_count := List.mem_of_getElem? (i := 16) rfl
theorem eX5_count_85 : (85, Instr.aload_n 0, 1, 0, 0, 0) ∈ kX5_count := List.mem_of_getElem? (i := 17) rfl
theorem eX5_count_86 : (86, Instr.getfield 49, 3, 5, 10, 90) ∈ kX5_count := List.mem_of_getElem? (i := 18) rfl
theorem eX5_count_89 : (89, Instr.ireturn, 1, 0, 0, 0) ∈ kX5_count := List.mem_of_getElem? (i := 19) rfl
theorem eX5_count_90 : (90, Instr.aload_n 0, 1, 0, 0, 0) ∈ kX5_count := List.mem_of_getElem? (i := 20) rfl
theorem eX5_count_91 : (91, Instr.invokevirtual 197, 3, 53, 0, 135) ∈ kX5_count := List.mem_of_getElem? (i := 21) rfl
theorem eX5_count_94 : (94, Instr.ireturn, 1, 0, 0, 0) ∈ kX5_count := List.mem_of_getElem? (i := 22) rfl
theorem eX5_count_95 : (95, Instr.aload_n 0, 1, 0, 0, 0) ∈ kX5_count := List.mem_of_getElem? (i := 23) rfl
theorem eX5_count_96 : (96, Instr.invokevirtual 83, 3, 54, 0, 233) ∈ kX5_count := List.mem_of_getElem? (i := 24) rfl
theorem eX5_count_99 : (99, Instr.invokestatic 231, 3, 51, 1, 535) ∈ kX5_count := List.mem_of_getElem? (i := 25) rfl
theorem eX5_count_102 : (102, Instr.ireturn, 1, 0, 0, 0) ∈ kX5_count := List.mem_of_getElem? (i := 26) rfl
theorem eX5_count_103 : (103, Instr.aload_n 0, 1, 0, 0, 0) ∈ kX5_count := List.mem_of_getElem? (i := 27) rfl
theorem eX5_count_104 : (104, Instr.getfield 135, 3, 5, 13, 93) ∈ kX5_count := List.mem_of_getElem? (i := 28) rfl
theorem eX5_count_107 : (107, Instr.ireturn, 1, 0, 0, 0) ∈ kX5_count := List.mem_of_getElem? (i := 29) rfl
theorem eX5_count_108 : (108, Instr.aload_n 0, 1, 0, 0, 0) ∈ kX5_count := List.mem_of_getElem? (i := 30) rfl
theorem eX5_count_109 : (109, Instr.invokevirtual 264, 3, 76, 0, 559) ∈ kX5_count := List.mem_of_getElem? (i := 31) rfl
theorem eX5_count_112 : (112, Instr.ireturn, 1, 0, 0, 0) ∈ kX5_count := List.mem_of_getElem? (i := 32) rfl
theorem eX5_count_113 : (113, Instr.aload_n 0, 1, 0, 0, 0) ∈ kX5_count := List.mem_of_getElem? (i := 33) rfl
theorem eX5_count_114 : (114, Instr.getfield 101, 3, 5, 14, 94) ∈ kX5_count := List.mem_of_getElem? (i := 34) rfl
theorem eX5_count_117 : (117, Instr.ireturn, 1, 0, 0, 0) ∈ kX5_count := List.mem_of_getElem? (i := 35) rfl
theorem eX5_count_118 : (118, Instr.iconst (-1), 1, 0, 0, 0) ∈ kX5_count := List.mem_of_getElem? (i := 36) rfl
theorem eX5_count_119 : (119, Instr.ireturn, 1, 0, 0, 0) ∈ kX5_count := List.mem_of_getElem? (i := 37) rfl
theorem aX5_isWithin : am_m nX5_isWithin = mX5_isWithin := rfl
theorem eX5_isWithin_0 : (0, Instr.iload_n 0, 1, 0, 0, 0) ∈ kX5_isWithin := List.mem_of_getElem? (i := 0) rfl
theorem eX5_isWithin_1 : (1, Instr.iload_n 1, 1, 0, 0, 0) ∈ kX5_isWithin := List.mem_of_getElem? (i := 1) rfl
theorem eX5_isWithin_2 : (2, Instr.if_icmp .lt 12, 3, 14, 0, 0) ∈ kX5_isWithin := List.mem_of_getElem? (i := 2) rfl
theorem eX5_isWithin_5 : (5, Instr.iload_n 0, 1, 0, 0, 0) ∈ kX5_isWithin := List.mem_of_getElem? (i := 3) rfl
theorem eX5_isWithin_6 : (6, Instr.iload_n 2, 1, 0, 0, 0) ∈ kX5_isWithin := List.mem_of_getElem? (i := 4) rfl
theorem eX5_isWithin_7 : (7, Instr.if_icmp .gt 7, 3, 14, 0, 0) ∈ kX5_isWithin := List.mem_of_getElem? (i := 5) rfl
theorem eX5_isWithin_10 : (10, Instr.iconst 1, 1, 0, 0, 0) ∈ kX5_isWithin := List.mem_of_getElem? (i := 6) rfl
theorem eX5_isWithin_11 : (11, Instr.goto 4, 3, 15, 0, 0) ∈ kX5_isWithin := List.mem_of_getElem? (i := 7) rfl
theorem eX5_isWithin_14 : (14, Instr.iconst 0, 1, 0, 0, 0) ∈ kX5_isWithin := List.mem_of_getElem? (i := 8) rfl
theorem eX5_isWithin_15 : (15, Instr.ireturn, 1, 1, 0, 0) ∈ kX5_isWithin := List.mem_of_getElem? (i := 9) rfl
theorem aX5_isPrice : am_m nX5_isPrice = mX5_isPrice := rfl
theorem eX5_isPrice_0 : (0, Instr.iload_n 0, 1, 0, 0, 0) ∈ kX5_isPrice := List.mem_of_getElem? (i := 0) rfl
theorem eX5_isPrice_1 : (1, Instr.iconst 0, 1, 0, 0, 0) ∈ kX5_isPrice := List.mem_of_getElem? (i := 1) rfl
theorem eX5_isPrice_2 : (2, Instr.sipush 1000, 3, 0, 0, 0) ∈ kX5_isPrice := List.mem_of_getElem? (i := 2) rfl
theorem eX5_isPrice_5 : (5, Instr.invokestatic 72, 3, 49, 3, 153) ∈ kX5_isPrice := List.mem_of_getElem? (i := 3) rfl
theorem eX5_isPrice_8 : (8, Instr.ireturn, 1, 1, 0, 0) ∈ kX5_isPrice := List.mem_of_getElem? (i := 4) rfl
theorem aX5_asNumber : am_m nX5_asNumber = mX5_asNumber := rfl
theorem eX5_asNumber_0 : (0, Instr.iload_n 0, 1, 0, 0, 0) ∈ kX5_asNumber := List.mem_of_getElem? (i := 0) rfl
theorem eX5_asNumber_1 : (1, Instr.ifCond .eq 7, 3, 8, 0, 0) ∈ kX5_asNumber := List.mem_of_getElem? (i := 1) rfl
theorem eX5_asNumber_4 : (4, Instr.iconst 1, 1, 0, 0, 0) ∈ kX5_asNumber := List.mem_of_getElem? (i := 2) rfl
theorem eX5_asNumber_5 : (5, Instr.goto 4, 3, 9, 0, 0) ∈ kX5_asNumber := List.mem_of_getElem? (i := 3) rfl
theorem eX5_asNumber_8 : (8, Instr.iconst 0, 1, 0, 0, 0) ∈ kX5_asNumber := List.mem_of_getElem? (i := 4) rfl
theorem eX5_asNumber_9 : (9, Instr.ireturn, 1, 0, 0, 0) ∈ kX5_asNumber := List.mem_of_getElem? (i := 5) rfl
theorem aX5_dayOf : am_m nX5_dayOf = mX5_dayOf := rfl
theorem eX5_dayOf_0 : (0, Instr.iload_n 0, 1, 0, 0, 0) ∈ kX5_dayOf := List.mem_of_getElem? (i := 0) rfl
theorem eX5_dayOf_1 : (1, Instr.sipush 1440, 3, 0, 0, 0) ∈ kX5_dayOf := List.mem_of_getElem? (i := 1) rfl
theorem eX5_dayOf_4 : (4, Instr.idiv, 1, 0, 0, 0) ∈ kX5_dayOf := List.mem_of_getElem? (i := 2) rfl
theorem eX5_dayOf_5 : (5, Instr.ireturn, 1, 0, 0, 0) ∈ kX5_dayOf := List.mem_of_getElem? (i := 3) rfl
theorem aX5_today : am_m nX5_today = mX5_today := rfl
theorem eX5_today_0 : (0, Instr.aload_n 0, 1, 0, 0, 0) ∈ kX5_today := List.mem_of_getElem? (i := 0) rfl
theorem eX5_today_1 : (1, Instr.getfield 49, 3, 5, 10, 90) ∈ kX5_today := List.mem_of_getElem? (i := 1) rfl
theorem eX5_today_4 : (4, Instr.invokestatic 267, 3, 52, 1, 139) ∈ kX5_today := List.mem_of_getElem? (i := 2) rfl
theorem eX5_today_7 : (7, Instr.ireturn, 1, 0, 0, 0) ∈ kX5_today := List.mem_of_getElem? (i := 3) rfl
theorem aX5_isOpen : am_m nX5_isOpen = mX5_isOpen := rfl
theorem eX5_isOpen_0 : (0, Instr.aload_n 0, 1, 0, 0, 0) ∈ kX5_isOpen := List.mem_of_getElem? (i := 0) rfl
theorem eX5_isOpen_1 : (1, Instr.getfield 49, 3, 5, 10, 90) ∈ kX5_isOpen := List.mem_of_getElem? (i := 1) rfl
theorem eX5_isOpen_4 : (4, Instr.sipush 1440, 3, 0, 0, 0) ∈ kX5_isOpen := List.mem_of_getElem? (i := 2) rfl
theorem eX5_isOpen_7 : (7, Instr.irem, 1, 0, 0, 0) ∈ kX5_isOpen := List.mem_of_getElem? (i := 3) rfl
theorem eX5_isOpen_8 : (8, Instr.istore_n 1, 1, 0, 0, 0) ∈ kX5_isOpen := List.mem_of_getElem? (i := 4) rfl
theorem eX5_isOpen_9 : (9, Instr.iload_n 1, 1, 0, 0, 0) ∈ kX5_isOpen := List.mem_of_getElem? (i := 5) rfl
theorem eX5_isOpen_10 : (10, Instr.aload_n 0, 1, 0, 0, 0) ∈ kX5_isOpen := List.mem_of_getElem? (i := 6) rfl
theorem eX5_isOpen_11 : (11, Instr.getfield 55, 3, 5, 11, 91) ∈ kX5_isOpen := List.mem_of_getElem? (i := 7) rfl
theorem eX5_isOpen_14 : (14, Instr.if_icmp .lt 15, 3, 29, 0, 0) ∈ kX5_isOpen := List.mem_of_getElem? (i := 8) rfl
theorem eX5_isOpen_17 : (17, Instr.iload_n 1, 1, 0, 0, 0) ∈ kX5_isOpen := List.mem_of_getElem? (i := 9) rfl
theorem eX5_isOpen_18 : (18, Instr.aload_n 0, 1, 0, 0, 0) ∈ kX5_isOpen := List.mem_of_getElem? (i := 10) rfl
theorem eX5_isOpen_19 : (19, Instr.getfield 44, 3, 5, 12, 92) ∈ kX5_isOpen := List.mem_of_getElem? (i := 11) rfl
theorem eX5_isOpen_22 : (22, Instr.if_icmp .ge 7, 3, 29, 0, 0) ∈ kX5_isOpen := List.mem_of_getElem? (i := 12) rfl
theorem eX5_isOpen_25 : (25, Instr.iconst 1, 1, 0, 0, 0) ∈ kX5_isOpen := List.mem_of_getElem? (i := 13) rfl
theorem eX5_isOpen_26 : (26, Instr.goto 4, 3, 30, 0, 0) ∈ kX5_isOpen := List.mem_of_getElem? (i := 14) rfl
theorem eX5_isOpen_29 : (29, Instr.iconst 0, 1, 0, 0, 0) ∈ kX5_isOpen := List.mem_of_getElem? (i := 15) rfl
theorem eX5_isOpen_30 : (30, Instr.ireturn, 1, 1, 0, 0) ∈ kX5_isOpen := List.mem_of_getElem? (i := 16) rfl
theorem aX5_shelfAt : am_m nX5_shelfAt = mX5_shelfAt := rfl
theorem eX5_shelfAt_0 : (0, Instr.iload_n 1, 1, 0, 0, 0) ∈ kX5_shelfAt := List.mem_of_getElem? (i := 0) rfl
theorem eX5_shelfAt_1 : (1, Instr.iconst 0, 1, 0, 0, 0) ∈ kX5_shelfAt := List.mem_of_getElem? (i := 1) rfl
theorem eX5_shelfAt_2 : (2, Instr.aload_n 0, 1, 0, 0, 0) ∈ kX5_shelfAt := List.mem_of_getElem? (i := 2) rfl
theorem eX5_shelfAt_3 : (3, Instr.getfield 76, 3, 5, 1, 81) ∈ kX5_shelfAt := List.mem_of_getElem? (i := 3) rfl
theorem eX5_shelfAt_6 : (6, Instr.iconst 1, 1, 0, 0, 0) ∈ kX5_shelfAt := List.mem_of_getElem? (i := 4) rfl
theorem eX5_shelfAt_7 : (7, Instr.isub, 1, 0, 0, 0) ∈ kX5_shelfAt := List.mem_of_getElem? (i := 5) rfl
theorem eX5_shelfAt_8 : (8, Instr.invokestatic 72, 3, 49, 3, 153) ∈ kX5_shelfAt := List.mem_of_getElem? (i := 6) rfl
theorem eX5_shelfAt_11 : (11, Instr.ifCond .eq 12, 3, 23, 0, 0) ∈ kX5_shelfAt := List.mem_of_getElem? (i := 7) rfl
theorem eX5_shelfAt_14 : (14, Instr.aload_n 0, 1, 0, 0, 0) ∈ kX5_shelfAt := List.mem_of_getElem? (i := 8) rfl
theorem eX5_shelfAt_15 : (15, Instr.getfield 11, 3, 5, 0, 80) ∈ kX5_shelfAt := List.mem_of_getElem? (i := 9) rfl
theorem eX5_shelfAt_18 : (18, Instr.iload_n 1, 1, 0, 0, 0) ∈ kX5_shelfAt := List.mem_of_getElem? (i := 10) rfl
theorem eX5_shelfAt_19 : (19, Instr.aaload, 1, 0, 0, 0) ∈ kX5_shelfAt := List.mem_of_getElem? (i := 11) rfl
theorem eX5_shelfAt_20 : (20, Instr.goto 4, 3, 24, 0, 0) ∈ kX5_shelfAt := List.mem_of_getElem? (i := 12) rfl
theorem eX5_shelfAt_23 : (23, Instr.aconst_null, 1, 0, 0, 0) ∈ kX5_shelfAt := List.mem_of_getElem? (i := 13) rfl
theorem eX5_shelfAt_24 : (24, Instr.areturn, 1, 0, 0, 0) ∈ kX5_shelfAt := List.mem_of_getElem? (i := 14) rfl
theorem aX5_thingAt : am_m nX5_thingAt = mX5_thingAt := rfl
theorem eX5_thingAt_0 : (0, Instr.iload_n 1, 1, 0, 0, 0) ∈ kX5_thingAt := List.mem_of_getElem? (i := 0) rfl
theorem eX5_thingAt_1 : (1, Instr.iconst 0, 1, 0, 0, 0) ∈ kX5_thingAt := List.mem_of_getElem? (i := 1) rfl
theorem eX5_thingAt_2 : (2, Instr.aload_n 0, 1, 0, 0, 0) ∈ kX5_thingAt := List.mem_of_getElem? (i := 2) rfl
theorem eX5_thingAt_3 : (3, Instr.getfield 87, 3, 5, 3, 83) ∈ kX5_thingAt := List.mem_of_getElem? (i := 3) rfl
theorem eX5_thingAt_6 : (6, Instr.iconst 1, 1, 0, 0, 0) ∈ kX5_thingAt := List.mem_of_getElem? (i := 4) rfl
theorem eX5_thingAt_7 : (7, Instr.isub, 1, 0, 0, 0) ∈ kX5_thingAt := List.mem_of_getElem? (i := 5) rfl
theorem eX5_thingAt_8 : (8, Instr.invokestatic 72, 3, 49, 3, 153) ∈ kX5_thingAt := List.mem_of_getElem? (i := 6) rfl
theorem eX5_thingAt_11 : (11, Instr.ifCond .eq 12, 3, 23, 0, 0) ∈ kX5_thingAt := List.mem_of_getElem? (i := 7) rfl
theorem eX5_thingAt_14 : (14, Instr.aload_n 0, 1, 0, 0, 0) ∈ kX5_thingAt := List.mem_of_getElem? (i := 8) rfl
theorem eX5_thingAt_15 : (15, Instr.getfield 17, 3, 5, 2, 82) ∈ kX5_thingAt := List.mem_of_getElem? (i := 9) rfl
theorem eX5_thingAt_18 : (18, Instr.iload_n 1, 1, 0, 0, 0) ∈ kX5_thingAt := List.mem_of_getElem? (i := 10) rfl
theorem eX5_thingAt_19 : (19, Instr.aaload, 1, 0, 0, 0) ∈ kX5_thingAt := List.mem_of_getElem? (i := 11) rfl
theorem eX5_thingAt_20 : (20, Instr.goto 4, 3, 24, 0, 0) ∈ kX5_thingAt := List.mem_of_getElem? (i := 12) rfl
theorem eX5_thingAt_23 : (23, Instr.aconst_null, 1, 0, 0, 0) ∈ kX5_thingAt := List.mem_of_getElem? (i := 13) rfl
theorem eX5_thingAt_24 : (24, Instr.areturn, 1, 0, 0, 0) ∈ kX5_thingAt := List.mem_of_getElem? (i := 14) rfl
theorem aX5_claimAt : am_m nX5_claimAt = mX5_claimAt := rfl
theorem eX5_claimAt_0 : (0, Instr.iload_n 1, 1, 0, 0, 0) ∈ kX5_claimAt := List.mem_of_getElem? (i := 0) rfl
theorem eX5_claimAt_1 : (1, Instr.iconst 0, 1, 0, 0, 0) ∈ kX5_claimAt := List.mem_of_getElem? (i := 1) rfl
theorem eX5_claimAt_2 : (2, Instr.aload_n 0, 1, 0, 0, 0) ∈ kX5_claimAt := List.mem_of_getElem? (i := 2) rfl
theorem eX5_claimAt_3 : (3, Instr.getfield 138, 3, 5, 5, 85) ∈ kX5_claimAt := List.mem_of_getElem? (i := 3) rfl
theorem eX5_claimAt_6 : (6, Instr.iconst 1, 1, 0, 0, 0) ∈ kX5_claimAt := List.mem_of_getElem? (i := 4) rfl
theorem eX5_claimAt_7 : (7, Instr.isub, 1, 0, 0, 0) ∈ kX5_claimAt := List.mem_of_getElem? (i := 5) rfl
theorem eX5_claimAt_8 : (8, Instr.invokestatic 72, 3, 49, 3, 153) ∈ kX5_claimAt := List.mem_of_getElem? (i := 6) rfl
theorem eX5_claimAt_11 : (11, Instr.ifCond .eq 12, 3, 23, 0, 0) ∈ kX5_claimAt := List.mem_of_getElem? (i := 7) rfl
theorem eX5_claimAt_14 : (14, Instr.aload_n 0, 1, 0, 0, 0) ∈ kX5_claimAt := List.mem_of_getElem? (i := 8) rfl
theorem eX5_claimAt_15 : (15, Instr.getfield 23, 3, 5, 4, 84) ∈ kX5_claimAt := List.mem_of_getElem? (i := 9) rfl
theorem eX5_claimAt_18 : (18, Instr.iload_n 1, 1, 0, 0, 0) ∈ kX5_claimAt := List.mem_of_getElem? (i := 10) rfl
theorem eX5_claimAt_19 : (19, Instr.aaload, 1, 0, 0, 0) ∈ kX5_claimAt := List.mem_of_getElem? (i := 11) rfl
theorem eX5_claimAt_20 : (20, Instr.goto 4, 3, 24, 0, 0) ∈ kX5_claimAt := List.mem_of_getElem? (i := 12) rfl
theorem eX5_claimAt_23 : (23, Instr.aconst_null, 1, 0, 0, 0) ∈ kX5_claimAt := List.mem_of_getElem? (i := 13) rfl
theorem eX5_claimAt_24 : (24, Instr.areturn, 1, 0, 0, 0) ∈ kX5_claimAt := List.mem_of_getElem? (i := 14) rfl
theorem aX5_ticketOf : am_m nX5_ticketOf = mX5_ticketOf := rfl
theorem eX5_ticketOf_0 : (0, Instr.bipush 100, 2, 0, 0, 0) ∈ kX5_ticketOf := List.mem_of_getElem? (i := 0) rfl
theorem eX5_ticketOf_2 : (2, Instr.iload_n 0, 1, 0, 0, 0) ∈ kX5_ticketOf := List.mem_of_getElem? (i := 1) rfl
theorem eX5_ticketOf_3 : (3, Instr.imul, 1, 0, 0, 0) ∈ kX5_ticketOf := List.mem_of_getElem? (i := 2) rfl
theorem eX5_ticketOf_4 : (4, Instr.iload_n 0, 1, 0, 0, 0) ∈ kX5_ticketOf := List.mem_of_getElem? (i := 3) rfl
theorem eX5_ticketOf_5 : (5, Instr.invokestatic 270, 3, 59, 1, 334) ∈ kX5_ticketOf := List.mem_of_getElem? (i := 4) rfl
theorem eX5_ticketOf_8 : (8, Instr.iadd, 1, 0, 0, 0) ∈ kX5_ticketOf := List.mem_of_getElem? (i := 5) rfl
theorem eX5_ticketOf_9 : (9, Instr.ireturn, 1, 0, 0, 0) ∈ kX5_ticketOf := List.mem_of_getElem? (i := 6) rfl
theorem aX5_checkOf : am_m nX5_checkOf = mX5_checkOf := rfl
theorem eX5_checkOf_0 : (0, Instr.bipush 37, 2, 0, 0, 0) ∈ kX5_checkOf := List.mem_of_getElem? (i := 0) rfl
theorem eX5_checkOf_2 : (2, Instr.iload_n 0, 1, 0, 0, 0) ∈ kX5_checkOf := List.mem_of_getElem? (i := 1) rfl
theorem eX5_checkOf_3 : (3, Instr.imul, 1, 0, 0, 0) ∈ kX5_checkOf := List.mem_of_getElem? (i := 2) rfl
theorem eX5_checkOf_4 : (4, Instr.bipush 11, 2, 0, 0, 0) ∈ kX5_checkOf := List.mem_of_getElem? (i := 3) rfl
theorem eX5_checkOf_6 : (6, Instr.iadd, 1, 0, 0, 0) ∈ kX5_checkOf := List.mem_of_getElem? (i := 4) rfl
theorem eX5_checkOf_7 : (7, Instr.bipush 97, 2, 0, 0, 0) ∈ kX5_checkOf := List.mem_of_getElem? (i := 5) rfl
theorem eX5_checkOf_9 : (9, Instr.irem, 1, 0, 0, 0) ∈ kX5_checkOf := List.mem_of_getElem? (i := 6) rfl
theorem eX5_checkOf_10 : (10, Instr.ireturn, 1, 0, 0, 0) ∈ kX5_checkOf := List.mem_of_getElem? (i := 7) rfl
theorem aX5_isTicket : am_m nX5_isTicket = mX5_isTicket := rfl
theorem eX5_isTicket_0 : (0, Instr.iload_n 0, 1, 0, 0, 0) ∈ kX5_isTicket := List.mem_of_getElem? (i := 0) rfl
theorem eX5_isTicket_1 : (1, Instr.ifCond .lt 21, 3, 22, 0, 0) ∈ kX5_isTicket := List.mem_of_getElem? (i := 1) rfl
theorem eX5_isTicket_4 : (4, Instr.iload_n 0, 1, 0, 0, 0) ∈ kX5_isTicket := List.mem_of_getElem? (i := 2) rfl
theorem eX5_isTicket_5 : (5, Instr.bipush 100, 2, 0, 0, 0) ∈ kX5_isTicket := List.mem_of_getElem? (i := 3) rfl
theorem eX5_isTicket_7 : (7, Instr.irem, 1, 0, 0, 0) ∈ kX5_isTicket := List.mem_of_getElem? (i := 4) rfl
theorem eX5_isTicket_8 : (8, Instr.iload_n 0, 1, 0, 0, 0) ∈ kX5_isTicket := List.mem_of_getElem? (i := 5) rfl
theorem eX5_isTicket_9 : (9, Instr.bipush 100, 2, 0, 0, 0) ∈ kX5_isTicket := List.mem_of_getElem? (i := 6) rfl
theorem eX5_isTicket_11 : (11, Instr.idiv, 1, 0, 0, 0) ∈ kX5_isTicket := List.mem_of_getElem? (i := 7) rfl
theorem eX5_isTicket_12 : (12, Instr.invokestatic 270, 3, 59, 1, 334) ∈ kX5_isTicket := List.mem_of_getElem? (i := 8) rfl
theorem eX5_isTicket_15 : (15, Instr.if_icmp .ne 7, 3, 22, 0, 0) ∈ kX5_isTicket := List.mem_of_getElem? (i := 9) rfl
theorem eX5_isTicket_18 : (18, Instr.iconst 1, 1, 0, 0, 0) ∈ kX5_isTicket := List.mem_of_getElem? (i := 10) rfl
theorem eX5_isTicket_19 : (19, Instr.goto 4, 3, 23, 0, 0) ∈ kX5_isTicket := List.mem_of_getElem? (i := 11) rfl
theorem eX5_isTicket_22 : (22, Instr.iconst 0, 1, 0, 0, 0) ∈ kX5_isTicket := List.mem_of_getElem? (i := 12) rfl
theorem eX5_isTicket_23 : (23, Instr.ireturn, 1, 1, 0, 0) ∈ kX5_isTicket := List.mem_of_getElem? (i := 13) rfl
theorem aX5_lastRowDay : am_m nX5_lastRowDay = mX5_lastRowDay := rfl
theorem eX5_lastRowDay_0 : (0, Instr.aload_n 0, 1, 0, 0, 0) ∈ kX5_lastRowDay := List.mem_of_getElem? (i := 0) rfl
theorem eX5_lastRowDay_1 : (1, Instr.getfield 62, 3, 5, 7, 87) ∈ kX5_lastRowDay := List.mem_of_getElem? (i := 1) rfl
theorem eX5_lastRowDay_4 : (4, Instr.ifCond .le 17, 3, 21, 0, 0) ∈ kX5_lastRowDay := List.mem_of_getElem? (i := 2) rfl
theorem eX5_lastRowDay_7 : (7, Instr.aload_n 0, 1, 0, 0, 0) ∈ kX5_lastRowDay := List.mem_of_getElem? (i := 3) rfl
theorem eX5_lastRowDay_8 : (8, Instr.getfield 29, 3, 5, 6, 86) ∈ kX5_lastRowDay := List.mem_of_getElem? (i := 4) rfl
theorem eX5_lastRowDay_11 : (11, Instr.aload_n 0, 1, 0, 0, 0) ∈ kX5_lastRowDay := List.mem_of_getElem? (i := 5) rfl
theorem eX5_lastRowDay_12 : (12, Instr.getfield 62, 3, 5, 7, 87) ∈ kX5_lastRowDay := List.mem_of_getElem? (i := 6) rfl
theorem eX5_lastRowDay_15 : (15, Instr.iconst 1, 1, 0, 0, 0) ∈ kX5_lastRowDay := List.mem_of_getElem? (i := 7) rfl
theorem eX5_lastRowDay_16 : (16, Instr.isub, 1, 0, 0, 0) ∈ kX5_lastRowDay := List.mem_of_getElem? (i := 8) rfl
theorem eX5_lastRowDay_17 : (17, Instr.aaload, 1, 0, 0, 0) ∈ kX5_lastRowDay := List.mem_of_getElem? (i := 9) rfl
theorem eX5_lastRowDay_18 : (18, Instr.goto 4, 3, 22, 0, 0) ∈ kX5_lastRowDay := List.mem_of_getElem? (i := 10) rfl
theorem eX5_lastRowDay_21 : (21, Instr.aconst_null, 1, 0, 0, 0) ∈ kX5_lastRowDay := List.mem_of_getElem? (i := 11) rfl
theorem eX5_lastRowDay_22 : (22, Instr.astore_n 1, 1, 0, 0, 0) ∈ kX5_lastRowDay := List.mem_of_getElem? (i := 12) rfl
theorem eX5_lastRowDay_23 : (23, Instr.aload_n 1, 1, 0, 0, 0) ∈ kX5_lastRowDay := List.mem_of_getElem? (i := 13) rfl
theorem eX5_lastRowDay_24 : (24, Instr.ifnonnull 7, 3, 31, 0, 0) ∈ kX5_lastRowDay := List.mem_of_getElem? (i := 14) rfl
theorem eX5_lastRowDay_27 : (27, Instr.iconst (-1), 1, 0, 0, 0) ∈ kX5_lastRowDay := List.mem_of_getElem? (i := 15) rfl
theorem eX5_lastRowDay_28 : (28, Instr.goto 7, 3, 35, 0, 0) ∈ kX5_lastRowDay := List.mem_of_getElem? (i := 16) rfl
theorem eX5_lastRowDay_31 : (31, Instr.aload_n 1, 1, 0, 0, 0) ∈ kX5_lastRowDay := List.mem_of_getElem? (i := 17) rfl
theorem eX5_lastRowDay_32 : (32, Instr.getfield 273, 3, 2, 0, 166) ∈ kX5_lastRowDay := List.mem_of_getElem? (i := 18) rfl
theorem eX5_lastRowDay_35 : (35, Instr.ireturn, 1, 0, 0, 0) ∈ kX5_lastRowDay := List.mem_of_getElem? (i := 19) rfl
theorem aX5_rowOn : am_m nX5_rowOn = mX5_rowOn := rfl
theorem eX5_rowOn_0 : (0, Instr.aconst_null, 1, 0, 0, 0) ∈ kX5_rowOn := List.mem_of_getElem? (i := 0) rfl
theorem eX5_rowOn_1 : (1, Instr.astore_n 2, 1, 0, 0, 0) ∈ kX5_rowOn := List.mem_of_getElem? (i := 1) rfl
theorem eX5_rowOn_2 : (2, Instr.iconst 0, 1, 0, 0, 0) ∈ kX5_rowOn := List.mem_of_getElem? (i := 2) rfl
theorem eX5_rowOn_3 : (3, Instr.istore_n 3, 1, 0, 0, 0) ∈ kX5_rowOn := List.mem_of_getElem? (i := 3) rfl
theorem eX5_rowOn_4 : (4, Instr.iload_n 3, 1, 0, 0, 0) ∈ kX5_rowOn := List.mem_of_getElem? (i := 4) rfl
theorem eX5_rowOn_5 : (5, Instr.aload_n 0, 1, 0, 0, 0) ∈ kX5_rowOn := List.mem_of_getElem? (i := 5) rfl
theorem eX5_rowOn_6 : (6, Instr.getfield 62, 3, 5, 7, 87) ∈ kX5_rowOn := List.mem_of_getElem? (i := 6) rfl
theorem eX5_rowOn_9 : (9, Instr.if_icmp .ge 34, 3, 43, 0, 0) ∈ kX5_rowOn := List.mem_of_getElem? (i := 7) rfl
theorem eX5_rowOn_12 : (12, Instr.aload_n 0, 1, 0, 0, 0) ∈ kX5_rowOn := List.mem_of_getElem? (i := 8) rfl
theorem eX5_rowOn_13 : (13, Instr.getfield 29, 3, 5, 6, 86) ∈ kX5_rowOn := List.mem_of_getElem? (i := 9) rfl
theorem eX5_rowOn_16 : (16, Instr.iload_n 3, 1, 0, 0, 0) ∈ kX5_rowOn := List.mem_of_getElem? (i := 10) rfl
theorem eX5_rowOn_17 : (17, Instr.aaload, 1, 0, 0, 0) ∈ kX5_rowOn := List.mem_of_getElem? (i := 11) rfl
theorem eX5_rowOn_18 : (18, Instr.astore 4, 2, 0, 0, 0) ∈ kX5_rowOn := List.mem_of_getElem? (i := 12) rfl
theorem eX5_rowOn_20 : (20, Instr.aload 4, 2, 0, 0, 0) ∈ kX5_rowOn := List.mem_of_getElem? (i := 13) rfl
theorem eX5_rowOn_22 : (22, Instr.ifnull 15, 3, 37, 0, 0) ∈ kX5_rowOn := List.mem_of_getElem? (i := 14) rfl
theorem eX5_rowOn_25 : (25, Instr.aload 4, 2, 0, 0, 0) ∈ kX5_rowOn := List.mem_of_getElem? (i := 15) rfl
theorem eX5_rowOn_27 : (27, Instr.getfield 273, 3, 2, 0, 166) ∈ kX5_rowOn := List.mem_of_getElem? (i := 16) rfl
theorem eX5_rowOn_30 : (30, Instr.iload_n 1, 1, 0, 0, 0) ∈ kX5_rowOn := List.mem_of_getElem? (i := 17) rfl
theorem eX5_rowOn_31 : (31, Instr.if_icmp .gt 6, 3, 37, 0, 0) ∈ kX5_rowOn := List.mem_of_getElem? (i := 18) rfl
theorem eX5_rowOn_34 : (34, Instr.aload 4, 2, 0, 0, 0) ∈ kX5_rowOn := List.mem_of_getElem? (i := 19) rfl
theorem eX5_rowOn_36 : (36, Instr.astore_n 2, 1, 0, 0, 0) ∈ kX5_rowOn := List.mem_of_getElem? (i := 20) rfl
theorem eX5_rowOn_37 : (37, Instr.iinc 3 1, 3, 0, 0, 0) ∈ kX5_rowOn := List.mem_of_getElem? (i := 21) rfl
theorem eX5_rowOn_40 : (40, Instr.goto (-36), 3, 4, 0, 0) ∈ kX5_rowOn := List.mem_of_getElem? (i := 22) rfl
theorem eX5_rowOn_43 : (43, Instr.aload_n 2, 1, 0, 0, 0) ∈ kX5_rowOn := List.mem_of_getElem? (i := 23) rfl
theorem eX5_rowOn_44 : (44, Instr.areturn, 1, 0, 0, 0) ∈ kX5_rowOn := List.mem_of_getElem? (i := 24) rfl
theorem aX5_feeOf : am_m nX5_feeOf = mX5_feeOf := rfl
theorem eX5_feeOf_0 : (0, Instr.aload_n 1, 1, 0, 0, 0) ∈ kX5_feeOf := List.mem_of_getElem? (i := 0) rfl
theorem eX5_feeOf_1 : (1, Instr.getfield 252, 3, 4, 6, 261) ∈ kX5_feeOf := List.mem_of_getElem? (i := 1) rfl
theorem eX5_feeOf_4 : (4, Instr.invokestatic 267, 3, 52, 1, 139) ∈ kX5_feeOf := List.mem_of_getElem? (i := 2) rfl
theorem eX5_feeOf_7 : (7, Instr.istore_n 2, 1, 0, 0, 0) ∈ kX5_feeOf := List.mem_of_getElem? (i := 3) rfl
theorem eX5_feeOf_8 : (8, Instr.aload_n 1, 1, 0, 0, 0) ∈ kX5_feeOf := List.mem_of_getElem? (i := 4) rfl
theorem eX5_feeOf_9 : (9, Instr.getfield 203, 3, 4, 10, 270) ∈ kX5_feeOf := List.mem_of_getElem? (i := 5) rfl
theorem eX5_feeOf_12 : (12, Instr.iconst (-1), 1, 0, 0, 0) ∈ kX5_feeOf := List.mem_of_getElem? (i := 6) rfl
theorem eX5_feeOf_13 : (13, Instr.if_icmp .ne 10, 3, 23, 0, 0) ∈ kX5_feeOf := List.mem_of_getElem? (i := 7) rfl
theorem eX5_feeOf_16 : (16, Instr.aload_n 0, 1, 0, 0, 0) ∈ kX5_feeOf := List.mem_of_getElem? (i := 8) rfl
theorem eX5_feeOf_17 : (17, Instr.invokevirtual 197, 3, 53, 0, 135) ∈ kX5_feeOf := List.mem_of_getElem? (i := 9) rfl
theorem eX5_feeOf_20 : (20, Instr.goto 7, 3, 27, 0, 0) ∈ kX5_feeOf := List.mem_of_getElem? (i := 10) rfl
theorem eX5_feeOf_23 : (23, Instr.aload_n 1, 1, 0, 0, 0) ∈ kX5_feeOf := List.mem_of_getElem? (i := 11) rfl
theorem eX5_feeOf_24 : (24, Instr.getfield 203, 3, 4, 10, 270) ∈ kX5_feeOf := List.mem_of_getElem? (i := 12) rfl
theorem eX5_feeOf_27 : (27, Instr.istore_n 3, 1, 0, 0, 0) ∈ kX5_feeOf := List.mem_of_getElem? (i := 13) rfl
theorem eX5_feeOf_28 : (28, Instr.aload_n 0, 1, 0, 0, 0) ∈ kX5_feeOf := List.mem_of_getElem? (i := 14) rfl
theorem eX5_feeOf_29 : (29, Instr.iload_n 2, 1, 0, 0, 0) ∈ kX5_feeOf := List.mem_of_getElem? (i := 15) rfl
theorem eX5_feeOf_30 : (30, Instr.invokevirtual 276, 3, 62, 1, 352) ∈ kX5_feeOf := List.mem_of_getElem? (i := 16) rfl
theorem eX5_feeOf_33 : (33, Instr.astore 4, 2, 0, 0, 0) ∈ kX5_feeOf := List.mem_of_getElem? (i := 17) rfl
theorem eX5_feeOf_35 : (35, Instr.aload 4, 2, 0, 0, 0) ∈ kX5_feeOf := List.mem_of_getElem? (i := 18) rfl
theorem eX5_feeOf_37 : (37, Instr.ifnonnull 7, 3, 44, 0, 0) ∈ kX5_feeOf := List.mem_of_getElem? (i := 19) rfl
theorem eX5_feeOf_40 : (40, Instr.iconst 0, 1, 0, 0, 0) ∈ kX5_feeOf := List.mem_of_getElem? (i := 20) rfl
theorem eX5_feeOf_41 : (41, Instr.goto 8, 3, 49, 0, 0) ∈ kX5_feeOf := List.mem_of_getElem? (i := 21) rfl
theorem eX5_feeOf_44 : (44, Instr.aload 4, 2, 0, 0, 0) ∈ kX5_feeOf := List.mem_of_getElem? (i := 22) rfl
theorem eX5_feeOf_46 : (46, Instr.getfield 280, 3, 2, 1, 168) ∈ kX5_feeOf := List.mem_of_getElem? (i := 23) rfl
theorem eX5_feeOf_49 : (49, Instr.istore 5, 2, 0, 0, 0) ∈ kX5_feeOf := List.mem_of_getElem? (i := 24) rfl
theorem eX5_feeOf_51 : (51, Instr.iload_n 2, 1, 0, 0, 0) ∈ kX5_feeOf := List.mem_of_getElem? (i := 25) rfl
theorem eX5_feeOf_52 : (52, Instr.istore 6, 2, 0, 0, 0) ∈ kX5_feeOf := List.mem_of_getElem? (i := 26) rfl
theorem eX5_feeOf_54 : (54, Instr.iload 6, 2, 0, 0, 0) ∈ kX5_feeOf := List.mem_of_getElem? (i := 27) rfl
theorem eX5_feeOf_56 : (56, Instr.iload_n 3, 1, 0, 0, 0) ∈ kX5_feeOf := List.mem_of_getElem? (i := 28) rfl
theorem eX5_feeOf_57 : (57, Instr.if_icmp .gt 53, 3, 110, 0, 0) ∈ kX5_feeOf := List.mem_of_getElem? (i := 29) rfl
theorem eX5_feeOf_60 : (60, Instr.aload_n 0, 1, 0, 0, 0) ∈ kX5_feeOf := List.mem_of_getElem? (i := 30) rfl
theorem eX5_feeOf_61 : (61, Instr.iload 6, 2, 0, 0, 0) ∈ kX5_feeOf := List.mem_of_getElem? (i := 31) rfl
theorem eX5_feeOf_63 : (63, Instr.invokevirtual 276, 3, 62, 1, 352) ∈ kX5_feeOf := List.mem_of_getElem? (i := 32) rfl
theorem eX5_feeOf_66 : (66, Instr.astore 7, 2, 0, 0, 0) ∈ kX5_feeOf := List.mem_of_getElem? (i := 33) rfl
theorem eX5_feeOf_68 : (68, Instr.aload 7, 2, 0, 0, 0) ∈ kX5_feeOf := List.mem_of_getElem? (i := 34) rfl
theorem eX5_feeOf_70 : (70, Instr.ifnull 34, 3, 104, 0, 0) ∈ kX5_feeOf := List.mem_of_getElem? (i := 35) rfl
theorem eX5_feeOf_73 : (73, Instr.iload 5, 2, 0, 0, 0) ∈ kX5_feeOf := List.mem_of_getElem? (i := 36) rfl
theorem eX5_feeOf_75 : (75, Instr.iload 6, 2, 0, 0, 0) ∈ kX5_feeOf := List.mem_of_getElem? (i := 37) rfl
theorem eX5_feeOf_77 : (77, Instr.aload_n 1, 1, 0, 0, 0) ∈ kX5_feeOf := List.mem_of_getElem? (i := 38) rfl
theorem eX5_feeOf_78 : (78, Instr.invokevirtual 200, 3, 18, 0, 356) ∈ kX5_feeOf := List.mem_of_getElem? (i := 39) rfl
theorem eX5_feeOf_81 : (81, Instr.if_icmp .le 14, 3, 95, 0, 0) ∈ kX5_feeOf := List.mem_of_getElem? (i := 40) rfl
theorem eX5_feeOf_84 : (84, Instr.iconst 2, 1, 0, 0, 0) ∈ kX5_feeOf := List.mem_of_getElem? (i := 41) rfl
theorem eX5_feeOf_85 : (85, Instr.aload 7, 2, 0, 0, 0) ∈ kX5_feeOf := List.mem_of_getElem? (i := 42) rfl
theorem eX5_feeOf_87 : (87, Instr.aload_n 1, 1, 0, 0, 0) ∈ kX5_feeOf := List.mem_of_getElem? (i := 43) rfl
theorem eX5_feeOf_88 : (88, Instr.invokevirtual 283, 3, 11, 1, 361) ∈ kX5_feeOf := List.mem_of_getElem? (i := 44) rfl
theorem eX5_feeOf_91 : (91, Instr.imul, 1, 0, 0, 0) ∈ kX5_feeOf := List.mem_of_getElem? (i := 45) rfl
theorem eX5_feeOf_92 : (92, Instr.goto 9, 3, 101, 0, 0) ∈ kX5_feeOf := List.mem_of_getElem? (i := 46) rfl
theorem eX5_feeOf_95 : (95, Instr.aload 7, 2, 0, 0, 0) ∈ kX5_feeOf := List.mem_of_getElem? (i := 47) rfl
theorem eX5_feeOf_97 : (97, Instr.aload_n 1, 1, 0, 0, 0) ∈ kX5_feeOf := List.mem_of_getElem? (i := 48) rfl
theorem eX5_feeOf_98 : (98, Instr.invokevirtual 283, 3, 11, 1, 361) ∈ kX5_feeOf := List.mem_of_getElem? (i := 49) rfl
theorem eX5_feeOf_101 : (101, Instr.iadd, 1, 0, 0, 0) ∈ kX5_feeOf := List.mem_of_getElem? (i := 50) rfl
theorem eX5_feeOf_102 : (102, Instr.istore 5, 2, 0, 0, 0) ∈ kX5_feeOf := List.mem_of_getElem? (i := 51) rfl
theorem eX5_feeOf_104 : (104, Instr.iinc 6 1, 3, 0, 0, 0) ∈ kX5_feeOf := List.mem_of_getElem? (i := 52) rfl
theorem eX5_feeOf_107 : (107, Instr.goto (-53), 3, 54, 0, 0) ∈ kX5_feeOf := List.mem_of_getElem? (i := 53) rfl
theorem eX5_feeOf_110 : (110, Instr.iload 5, 2, 0, 0, 0) ∈ kX5_feeOf := List.mem_of_getElem? (i := 54) rfl
theorem eX5_feeOf_112 : (112, Instr.ireturn, 1, 0, 0, 0) ∈ kX5_feeOf := List.mem_of_getElem? (i := 55) rfl
theorem aX5_letOldCoinsFall : am_m nX5_letOldCoinsFall = mX5_letOldCoinsFall := rfl
theorem eX5_letOldCoinsFall_0 : (0, Instr.iconst 0, 1, 0, 0, 0) ∈ kX5_letOldCoinsFall := List.mem_of_getElem? (i := 0) rfl
theorem eX5_letOldCoinsFall_1 : (1, Instr.istore_n 1, 1, 0, 0, 0) ∈ kX5_letOldCoinsFall := List.mem_of_getElem? (i := 1) rfl
theorem eX5_letOldCoinsFall_2 : (2, Instr.iload_n 1, 1, 0, 0, 0) ∈ kX5_letOldCoinsFall := List.mem_of_getElem? (i := 2) rfl
theorem eX5_letOldCoinsFall_3 : (3, Instr.aload_n 0, 1, 0, 0, 0) ∈ kX5_letOldCoinsFall := List.mem_of_getElem? (i := 3) rfl
theorem eX5_letOldCoinsFall_4 : (4, Instr.getfield 87, 3, 5, 3, 83) ∈ kX5_letOldCoinsFall := List.mem_of_getElem? (i := 4) rfl
theorem eX5_letOldCoinsFall_7 : (7, Instr.if_icmp .ge 65, 3, 72, 0, 0) ∈ kX5_letOldCoinsFall := List.mem_of_getElem? (i := 5) rfl
theorem eX5_letOldCoinsFall_10 : (10, Instr.aload_n 0, 1, 0, 0, 0) ∈ kX5_letOldCoinsFall := List.mem_of_getElem? (i := 6) rfl
theorem eX5_letOldCoinsFall_11 : (11, Instr.getfield 17, 3, 5, 2, 82) ∈ kX5_letOldCoinsFall := List.mem_of_getElem? (i := 7) rfl
theorem eX5_letOldCoinsFall_14 : (14, Instr.iload_n 1, 1, 0, 0, 0) ∈ kX5_letOldCoinsFall := List.mem_of_getElem? (i := 8) rfl
theorem eX5_letOldCoinsFall_15 : (15, Instr.aaload, 1, 0, 0, 0) ∈ kX5_letOldCoinsFall := List.mem_of_getElem? (i := 9) rfl
theorem eX5_letOldCoinsFall_16 : (16, Instr.astore_n 2, 1, 0, 0, 0) ∈ kX5_letOldCoinsFall := List.mem_of_getElem? (i := 10) rfl
theorem eX5_letOldCoinsFall_17 : (17, Instr.aload_n 2, 1, 0, 0, 0) ∈ kX5_letOldCoinsFall := List.mem_of_getElem? (i := 11) rfl
theorem eX5_letOldCoinsFall_18 : (18, Instr.ifnull 48, 3, 66, 0, 0) ∈ kX5_letOldCoinsFall := List.mem_of_getElem? (i := 12) rfl
theorem eX5_letOldCoinsFall_21 : (21, Instr.aload_n 2, 1, 0, 0, 0) ∈ kX5_letOldCoinsFall := List.mem_of_getElem? (i := 13) rfl
theorem eX5_letOldCoinsFall_22 : (22, Instr.getfield 118, 3, 4, 7, 264) ∈ kX5_letOldCoinsFall := List.mem_of_getElem? (i := 14) rfl
theorem eX5_letOldCoinsFall_25 : (25, Instr.iconst 2, 1, 0, 0, 0) ∈ kX5_letOldCoinsFall := List.mem_of_getElem? (i := 15) rfl
theorem eX5_letOldCoinsFall_26 : (26, Instr.if_icmp .ne 40, 3, 66, 0, 0) ∈ kX5_letOldCoinsFall := List.mem_of_getElem? (i := 16) rfl
theorem eX5_letOldCoinsFall_29 : (29, Instr.aload_n 0, 1, 0, 0, 0) ∈ kX5_letOldCoinsFall := List.mem_of_getElem? (i := 17) rfl
theorem eX5_letOldCoinsFall_30 : (30, Instr.invokevirtual 197, 3, 53, 0, 135) ∈ kX5_letOldCoinsFall := List.mem_of_getElem? (i := 18) rfl
theorem eX5_letOldCoinsFall_33 : (33, Instr.aload_n 2, 1, 0, 0, 0) ∈ kX5_letOldCoinsFall := List.mem_of_getElem? (i := 19) rfl
theorem eX5_letOldCoinsFall_34 : (34, Instr.getfield 203, 3, 4, 10, 270) ∈ kX5_letOldCoinsFall := List.mem_of_getElem? (i := 20) rfl
theorem eX5_letOldCoinsFall_37 : (37, Instr.isub, 1, 0, 0, 0) ∈ kX5_letOldCoinsFall := List.mem_of_getElem? (i := 21) rfl
theorem eX5_letOldCoinsFall_38 : (38, Instr.bipush 30, 2, 0, 0, 0) ∈ kX5_letOldCoinsFall := List.mem_of_getElem? (i := 22) rfl
theorem eX5_letOldCoinsFall_40 : (40, Instr.if_icmp .le 26, 3, 66, 0, 0) ∈ kX5_letOldCoinsFall := List.mem_of_getElem? (i := 23) rfl
theorem eX5_letOldCoinsFall_43 : (43, Instr.aload_n 0, 1, 0, 0, 0) ∈ kX5_letOldCoinsFall := List.mem_of_getElem? (i := 24) rfl
theorem eX5_letOldCoinsFall_44 : (44, Instr.dup, 1, 0, 0, 0) ∈ kX5_letOldCoinsFall := List.mem_of_getElem? (i := 25) rfl
theorem eX5_letOldCoinsFall_45 : (45, Instr.getfield 135, 3, 5, 13, 93) ∈ kX5_letOldCoinsFall := List.mem_of_getElem? (i := 26) rfl
theorem eX5_letOldCoinsFall_48 : (48, Instr.aload_n 2, 1, 0, 0, 0) ∈ kX5_letOldCoinsFall := List.mem_of_getElem? (i := 27) rfl
theorem eX5_letOldCoinsFall_49 : (49, Instr.getfield 209, 3, 4, 9, 268) ∈ kX5_letOldCoinsFall := List.mem_of_getElem? (i := 28) rfl
theorem eX5_letOldCoinsFall_52 : (52, Instr.iadd, 1, 0, 0, 0) ∈ kX5_letOldCoinsFall := List.mem_of_getElem? (i := 29) rfl
theorem eX5_letOldCoinsFall_53 : (53, Instr.putfield 135, 3, 5, 13, 93) ∈ kX5_letOldCoinsFall := List.mem_of_getElem? (i := 30) rfl
theorem eX5_letOldCoinsFall_56 : (56, Instr.aload_n 2, 1, 0, 0, 0) ∈ kX5_letOldCoinsFall := List.mem_of_getElem? (i := 31) rfl
theorem eX5_letOldCoinsFall_57 : (57, Instr.iconst 0, 1, 0, 0, 0) ∈ kX5_letOldCoinsFall := List.mem_of_getElem? (i := 32) rfl
theorem eX5_letOldCoinsFall_58 : (58, Instr.putfield 209, 3, 4, 9, 268) ∈ kX5_letOldCoinsFall := List.mem_of_getElem? (i := 33) rfl
theorem eX5_letOldCoinsFall_61 : (61, Instr.aload_n 2, 1, 0, 0, 0) ∈ kX5_letOldCoinsFall := List.mem_of_getElem? (i := 34) rfl
theorem eX5_letOldCoinsFall_62 : (62, Instr.iconst 4, 1, 0, 0, 0) ∈ kX5_letOldCoinsFall := List.mem_of_getElem? (i := 35) rfl
theorem eX5_letOldCoinsFall_63 : (63, Instr.putfield 118, 3, 4, 7, 264) ∈ kX5_letOldCoinsFall := List.mem_of_getElem? (i := 36) rfl
theorem eX5_letOldCoinsFall_66 : (66, Instr.iinc 1 1, 3, 0, 0, 0) ∈ kX5_letOldCoinsFall := List.mem_of_getElem? (i := 37) rfl
theorem eX5_letOldCoinsFall_69 : (69, Instr.goto (-67), 3, 2, 0, 0) ∈ kX5_letOldCoinsFall := List.mem_of_getElem? (i := 38) rfl
theorem eX5_letOldCoinsFall_72 : (72, Instr.return_, 1, 0, 0, 0) ∈ kX5_letOldCoinsFall := List.mem_of_getElem? (i := 39) rfl
theorem aX5_shelfForNew : am_m nX5_shelfForNew = mX5_shelfForNew := rfl
theorem eX5_shelfForNew_0 : (0, Instr.aconst_null, 1, 0, 0, 0) ∈ kX5_shelfForNew := List.mem_of_getElem? (i := 0) rfl
theorem eX5_shelfForNew_1 : (1, Instr.astore_n 2, 1, 0, 0, 0) ∈ kX5_shelfForNew := List.mem_of_getElem? (i := 1) rfl
theorem eX5_shelfForNew_2 : (2, Instr.iconst 0, 1, 0, 0, 0) ∈ kX5_shelfForNew := List.mem_of_getElem? (i := 2) rfl
theorem eX5_shelfForNew_3 : (3, Instr.istore_n 3, 1, 0, 0, 0) ∈ kX5_shelfForNew := List.mem_of_getElem? (i := 3) rfl
theorem eX5_shelfForNew_4 : (4, Instr.iload_n 3, 1, 0, 0, 0) ∈ kX5_shelfForNew := List.mem_of_getElem? (i := 4) rfl
theorem eX5_shelfForNew_5 : (5, Instr.aload_n 0, 1, 0, 0, 0) ∈ kX5_shelfForNew := List.mem_of_getElem? (i := 5) rfl
theorem eX5_shelfForNew_6 : (6, Instr.getfield 76, 3, 5, 1, 81) ∈ kX5_shelfForNew := List.mem_of_getElem? (i := 6) rfl
theorem eX5_shelfForNew_9 : (9, Instr.if_icmp .ge 49, 3, 58, 0, 0) ∈ kX5_shelfForNew := List.mem_of_getElem? (i := 7) rfl
theorem eX5_shelfForNew_12 : (12, Instr.aload_n 0, 1, 0, 0, 0) ∈ kX5_shelfForNew := List.mem_of_getElem? (i := 8) rfl
theorem eX5_shelfForNew_13 : (13, Instr.getfield 11, 3, 5, 0, 80) ∈ kX5_shelfForNew := List.mem_of_getElem? (i := 9) rfl
theorem eX5_shelfForNew_16 : (16, Instr.iload_n 3, 1, 0, 0, 0) ∈ kX5_shelfForNew := List.mem_of_getElem? (i := 10) rfl
theorem eX5_shelfForNew_17 : (17, Instr.aaload, 1, 0, 0, 0) ∈ kX5_shelfForNew := List.mem_of_getElem? (i := 11) rfl
theorem eX5_shelfForNew_18 : (18, Instr.astore 4, 2, 0, 0, 0) ∈ kX5_shelfForNew := List.mem_of_getElem? (i := 12) rfl
theorem eX5_shelfForNew_20 : (20, Instr.aload 4, 2, 0, 0, 0) ∈ kX5_shelfForNew := List.mem_of_getElem? (i := 13) rfl
theorem eX5_shelfForNew_22 : (22, Instr.ifnull 30, 3, 52, 0, 0) ∈ kX5_shelfForNew := List.mem_of_getElem? (i := 14) rfl
theorem eX5_shelfForNew_25 : (25, Instr.aload 4, 2, 0, 0, 0) ∈ kX5_shelfForNew := List.mem_of_getElem? (i := 15) rfl
theorem eX5_shelfForNew_27 : (27, Instr.aload_n 1, 1, 0, 0, 0) ∈ kX5_shelfForNew := List.mem_of_getElem? (i := 16) rfl
theorem eX5_shelfForNew_28 : (28, Instr.invokevirtual 286, 3, 14, 1, 298) ∈ kX5_shelfForNew := List.mem_of_getElem? (i := 17) rfl
theorem eX5_shelfForNew_31 : (31, Instr.ifCond .eq 21, 3, 52, 0, 0) ∈ kX5_shelfForNew := List.mem_of_getElem? (i := 18) rfl
theorem eX5_shelfForNew_34 : (34, Instr.aload_n 2, 1, 0, 0, 0) ∈ kX5_shelfForNew := List.mem_of_getElem? (i := 19) rfl
theorem eX5_shelfForNew_35 : (35, Instr.ifnull 14, 3, 49, 0, 0) ∈ kX5_shelfForNew := List.mem_of_getElem? (i := 20) rfl
theorem eX5_shelfForNew_38 : (38, Instr.aload_n 0, 1, 0, 0, 0) ∈ kX5_shelfForNew := List.mem_of_getElem? (i := 21) rfl
theorem eX5_shelfForNew_39 : (39, Instr.aload 4, 2, 0, 0, 0) ∈ kX5_shelfForNew := List.mem_of_getElem? (i := 22) rfl
theorem eX5_shelfForNew_41 : (41, Instr.aload_n 2, 1, 0, 0, 0) ∈ kX5_shelfForNew := List.mem_of_getElem? (i := 23) rfl
theorem eX5_shelfForNew_42 : (42, Instr.aload_n 1, 1, 0, 0, 0) ∈ kX5_shelfForNew := List.mem_of_getElem? (i := 24) rfl
theorem eX5_shelfForNew_43 : (43, Instr.invokevirtual 289, 3, 66, 3, 306) ∈ kX5_shelfForNew := List.mem_of_getElem? (i := 25) rfl
theorem eX5_shelfForNew_46 : (46, Instr.ifCond .eq 6, 3, 52, 0, 0) ∈ kX5_shelfForNew := List.mem_of_getElem? (i := 26) rfl
theorem eX5_shelfForNew_49 : (49, Instr.aload 4, 2, 0, 0, 0) ∈ kX5_shelfForNew := List.mem_of_getElem? (i := 27) rfl
theorem eX5_shelfForNew_51 : (51, Instr.astore_n 2, 1, 0, 0, 0) ∈ kX5_shelfForNew := List.mem_of_getElem? (i := 28) rfl
theorem eX5_shelfForNew_52 : (52, Instr.iinc 3 1, 3, 0, 0, 0) ∈ kX5_shelfForNew := List.mem_of_getElem? (i := 29) rfl
theorem eX5_shelfForNew_55 : (55, Instr.goto (-51), 3, 4, 0, 0) ∈ kX5_shelfForNew := List.mem_of_getElem? (i := 30) rfl
theorem eX5_shelfForNew_58 : (58, Instr.aload_n 2, 1, 0, 0, 0) ∈ kX5_shelfForNew := List.mem_of_getElem? (i := 31) rfl
theorem eX5_shelfForNew_59 : (59, Instr.areturn, 1, 0, 0, 0) ∈ kX5_shelfForNew := List.mem_of_getElem? (i := 32) rfl
theorem aX5_isNearer : am_m nX5_isNearer = mX5_isNearer := rfl
theorem eX5_isNearer_0 : (0, Instr.aload_n 3, 1, 0, 0, 0) ∈ kX5_isNearer := List.mem_of_getElem? (i := 0) rfl
theorem eX5_isNearer_1 : (1, Instr.aload_n 1, 1, 0, 0, 0) ∈ kX5_isNearer := List.mem_of_getElem? (i := 1) rfl
theorem eX5_isNearer_2 : (2, Instr.aload_n 0, 1, 0, 0, 0) ∈ kX5_isNearer := List.mem_of_getElem? (i := 2) rfl
theorem eX5_isNearer_3 : (3, Instr.getfield 49, 3, 5, 10, 90) ∈ kX5_isNearer := List.mem_of_getElem? (i := 3) rfl
theorem eX5_isNearer_6 : (6, Instr.invokevirtual 293, 3, 21, 2, 310) ∈ kX5_isNearer := List.mem_of_getElem? (i := 4) rfl
theorem eX5_isNearer_9 : (9, Instr.istore 4, 2, 0, 0, 0) ∈ kX5_isNearer := List.mem_of_getElem? (i := 5) rfl
theorem eX5_isNearer_11 : (11, Instr.aload_n 3, 1, 0, 0, 0) ∈ kX5_isNearer := List.mem_of_getElem? (i := 6) rfl
theorem eX5_isNearer_12 : (12, Instr.aload_n 2, 1, 0, 0, 0) ∈ kX5_isNearer := List.mem_of_getElem? (i := 7) rfl
theorem eX5_isNearer_13 : (13, Instr.aload_n 0, 1, 0, 0, 0) ∈ kX5_isNearer := List.mem_of_getElem? (i := 8) rfl
theorem eX5_isNearer_14 : (14, Instr.getfield 49, 3, 5, 10, 90) ∈ kX5_isNearer := List.mem_of_getElem? (i := 9) rfl
theorem eX5_isNearer_17 : (17, Instr.invokevirtual 293, 3, 21, 2, 310) ∈ kX5_isNearer := List.mem_of_getElem? (i := 10) rfl
theorem eX5_isNearer_20 : (20, Instr.istore 5, 2, 0, 0, 0) ∈ kX5_isNearer := List.mem_of_getElem? (i := 11) rfl
theorem eX5_isNearer_22 : (22, Instr.iload 4, 2, 0, 0, 0) ∈ kX5_isNearer := List.mem_of_getElem? (i := 12) rfl
theorem eX5_isNearer_24 : (24, Instr.iload 5, 2, 0, 0, 0) ∈ kX5_isNearer := List.mem_of_getElem? (i := 13) rfl
theorem eX5_isNearer_26 : (26, Instr.if_icmp .lt 21, 3, 47, 0, 0) ∈ kX5_isNearer := List.mem_of_getElem? (i := 14) rfl
theorem eX5_isNearer_29 : (29, Instr.iload 4, 2, 0, 0, 0) ∈ kX5_isNearer := List.mem_of_getElem? (i := 15) rfl
theorem eX5_isNearer_31 : (31, Instr.iload 5, 2, 0, 0, 0) ∈ kX5_isNearer := List.mem_of_getElem? (i := 16) rfl
theorem eX5_isNearer_33 : (33, Instr.if_icmp .ne 18, 3, 51, 0, 0) ∈ kX5_isNearer := List.mem_of_getElem? (i := 17) rfl
theorem eX5_isNearer_36 : (36, Instr.aload_n 1, 1, 0, 0, 0) ∈ kX5_isNearer := List.mem_of_getElem? (i := 18) rfl
theorem eX5_isNearer_37 : (37, Instr.getfield 104, 3, 3, 4, 203) ∈ kX5_isNearer := List.mem_of_getElem? (i := 19) rfl
theorem eX5_isNearer_40 : (40, Instr.aload_n 2, 1, 0, 0, 0) ∈ kX5_isNearer := List.mem_of_getElem? (i := 20) rfl
theorem eX5_isNearer_41 : (41, Instr.getfield 104, 3, 3, 4, 203) ∈ kX5_isNearer := List.mem_of_getElem? (i := 21) rfl
theorem eX5_isNearer_44 : (44, Instr.if_icmp .ge 7, 3, 51, 0, 0) ∈ kX5_isNearer := List.mem_of_getElem? (i := 22) rfl
theorem eX5_isNearer_47 : (47, Instr.iconst 1, 1, 0, 0, 0) ∈ kX5_isNearer := List.mem_of_getElem? (i := 23) rfl
theorem eX5_isNearer_48 : (48, Instr.goto 4, 3, 52, 0, 0) ∈ kX5_isNearer := List.mem_of_getElem? (i := 24) rfl
theorem eX5_isNearer_51 : (51, Instr.iconst 0, 1, 0, 0, 0) ∈ kX5_isNearer := List.mem_of_getElem? (i := 25) rfl
theorem eX5_isNearer_52 : (52, Instr.ireturn, 1, 1, 0, 0) ∈ kX5_isNearer := List.mem_of_getElem? (i := 26) rfl
theorem aX5_takeAway : am_m nX5_takeAway = mX5_takeAway := rfl
theorem eX5_takeAway_0 : (0, Instr.aload_n 1, 1, 0, 0, 0) ∈ kX5_takeAway := List.mem_of_getElem? (i := 0) rfl
theorem eX5_takeAway_1 : (1, Instr.getfield 297, 3, 4, 8, 267) ∈ kX5_takeAway := List.mem_of_getElem? (i := 1) rfl
theorem eX5_takeAway_4 : (4, Instr.astore_n 3, 1, 0, 0, 0) ∈ kX5_takeAway := List.mem_of_getElem? (i := 2) rfl
theorem eX5_takeAway_5 : (5, Instr.aload_n 3, 1, 0, 0, 0) ∈ kX5_takeAway := List.mem_of_getElem? (i := 3) rfl
theorem eX5_takeAway_6 : (6, Instr.ifnull 23, 3, 29, 0, 0) ∈ kX5_takeAway := List.mem_of_getElem? (i := 4) rfl
theorem eX5_takeAway_9 : (9, Instr.aload_n 0, 1, 0, 0, 0) ∈ kX5_takeAway := List.mem_of_getElem? (i := 5) rfl
theorem eX5_takeAway_10 : (10, Instr.dup, 1, 0, 0, 0) ∈ kX5_takeAway := List.mem_of_getElem? (i := 6) rfl
theorem eX5_takeAway_11 : (11, Instr.getfield 101, 3, 5, 14, 94) ∈ kX5_takeAway := List.mem_of_getElem? (i := 7) rfl
theorem eX5_takeAway_14 : (14, Instr.iconst 2, 1, 0, 0, 0) ∈ kX5_takeAway := List.mem_of_getElem? (i := 8) rfl
theorem eX5_takeAway_15 : (15, Instr.aload_n 3, 1, 0, 0, 0) ∈ kX5_takeAway := List.mem_of_getElem? (i := 9) rfl
theorem eX5_takeAway_16 : (16, Instr.getfield 104, 3, 3, 4, 203) ∈ kX5_takeAway := List.mem_of_getElem? (i := 10) rfl
theorem eX5_takeAway_19 : (19, Instr.imul, 1, 0, 0, 0) ∈ kX5_takeAway := List.mem_of_getElem? (i := 11) rfl
theorem eX5_takeAway_20 : (20, Instr.iadd, 1, 0, 0, 0) ∈ kX5_takeAway := List.mem_of_getElem? (i := 12) rfl
theorem eX5_takeAway_21 : (21, Instr.putfield 101, 3, 5, 14, 94) ∈ kX5_takeAway := List.mem_of_getElem? (i := 13) rfl
theorem eX5_takeAway_24 : (24, Instr.aload_n 3, 1, 0, 0, 0) ∈ kX5_takeAway := List.mem_of_getElem? (i := 14) rfl
theorem eX5_takeAway_25 : (25, Instr.aload_n 1, 1, 0, 0, 0) ∈ kX5_takeAway := List.mem_of_getElem? (i := 15) rfl
theorem eX5_takeAway_26 : (26, Instr.invokevirtual 301, 3, 16, 1, 378) ∈ kX5_takeAway := List.mem_of_getElem? (i := 16) rfl
theorem eX5_takeAway_29 : (29, Instr.aload_n 1, 1, 0, 0, 0) ∈ kX5_takeAway := List.mem_of_getElem? (i := 17) rfl
theorem eX5_takeAway_30 : (30, Instr.iload_n 2, 1, 0, 0, 0) ∈ kX5_takeAway := List.mem_of_getElem? (i := 18) rfl
theorem eX5_takeAway_31 : (31, Instr.putfield 118, 3, 4, 7, 264) ∈ kX5_takeAway := List.mem_of_getElem? (i := 19) rfl
theorem eX5_takeAway_34 : (34, Instr.return_, 1, 0, 0, 0) ∈ kX5_takeAway := List.mem_of_getElem? (i := 20) rfl
theorem aX5_meantBy : am_m nX5_meantBy = mX5_meantBy := rfl
theorem eX5_meantBy_0 : (0, Instr.iconst 0, 1, 0, 0, 0) ∈ kX5_meantBy := List.mem_of_getElem? (i := 0) rfl
theorem eX5_meantBy_1 : (1, Instr.istore_n 2, 1, 0, 0, 0) ∈ kX5_meantBy := List.mem_of_getElem? (i := 1) rfl
theorem eX5_meantBy_2 : (2, Instr.iconst 0, 1, 0, 0, 0) ∈ kX5_meantBy := List.mem_of_getElem? (i := 2) rfl
theorem eX5_meantBy_3 : (3, Instr.istore_n 3, 1, 0, 0, 0) ∈ kX5_meantBy := List.mem_of_getElem? (i := 3) rfl
theorem eX5_meantBy_4 : (4, Instr.iload_n 3, 1, 0, 0, 0) ∈ kX5_meantBy := List.mem_of_getElem? (i := 4) rfl
theorem eX5_meantBy_5 : (5, Instr.aload_n 0, 1, 0, 0, 0) ∈ kX5_meantBy := List.mem_of_getElem? (i := 5) rfl
theorem eX5_meantBy_6 : (6, Instr.getfield 87, 3, 5, 3, 83) ∈ kX5_meantBy := List.mem_of_getElem? (i := 6) rfl
theorem eX5_meantBy_9 : (9, Instr.if_icmp .ge 34, 3, 43, 0, 0) ∈ kX5_meantBy := List.mem_of_getElem? (i := 7) rfl
theorem eX5_meantBy_12 : (12, Instr.aload_n 0, 1, 0, 0, 0) ∈ kX5_meantBy := List.mem_of_getElem? (i := 8) rfl
theorem eX5_meantBy_13 : (13, Instr.getfield 17, 3, 5, 2, 82) ∈ kX5_meantBy := List.mem_of_getElem? (i := 9) rfl
theorem eX5_meantBy_16 : (16, Instr.iload_n 3, 1, 0, 0, 0) ∈ kX5_meantBy := List.mem_of_getElem? (i := 10) rfl
theorem eX5_meantBy_17 : (17, Instr.aaload, 1, 0, 0, 0) ∈ kX5_meantBy := List.mem_of_getElem? (i := 11) rfl
theorem eX5_meantBy_18 : (18, Instr.astore 4, 2, 0, 0, 0) ∈ kX5_meantBy := List.mem_of_getElem? (i := 12) rfl
theorem eX5_meantBy_20 : (20, Instr.aload 4, 2, 0, 0, 0) ∈ kX5_meantBy := List.mem_of_getElem? (i := 13) rfl
theorem eX5_meantBy_22 : (22, Instr.ifnull 15, 3, 37, 0, 0) ∈ kX5_meantBy := List.mem_of_getElem? (i := 14) rfl
theorem eX5_meantBy_25 : (25, Instr.aload_n 1, 1, 0, 0, 0) ∈ kX5_meantBy := List.mem_of_getElem? (i := 15) rfl
theorem eX5_meantBy_26 : (26, Instr.aload 4, 2, 0, 0, 0) ∈ kX5_meantBy := List.mem_of_getElem? (i := 16) rfl
theorem eX5_meantBy_28 : (28, Instr.invokevirtual 304, 3, 9, 1, 415) ∈ kX5_meantBy := List.mem_of_getElem? (i := 17) rfl
theorem eX5_meantBy_31 : (31, Instr.ifCond .eq 6, 3, 37, 0, 0) ∈ kX5_meantBy := List.mem_of_getElem? (i := 18) rfl
theorem eX5_meantBy_34 : (34, Instr.iinc 2 1, 3, 0, 0, 0) ∈ kX5_meantBy := List.mem_of_getElem? (i := 19) rfl
theorem eX5_meantBy_37 : (37, Instr.iinc 3 1, 3, 0, 0, 0) ∈ kX5_meantBy := List.mem_of_getElem? (i := 20) rfl
theorem eX5_meantBy_40 : (40, Instr.goto (-36), 3, 4, 0, 0) ∈ kX5_meantBy := List.mem_of_getElem? (i := 21) rfl
theorem eX5_meantBy_43 : (43, Instr.iload_n 2, 1, 0, 0, 0) ∈ kX5_meantBy := List.mem_of_getElem? (i := 22) rfl
theorem eX5_meantBy_44 : (44, Instr.ireturn, 1, 0, 0, 0) ∈ kX5_meantBy := List.mem_of_getElem? (i := 23) rfl
theorem aX5_firstMeantBy : am_m nX5_firstMeantBy = mX5_firstMeantBy := rfl
theorem eX5_firstMeantBy_0 : (0, Instr.iconst 0, 1, 0, 0, 0) ∈ kX5_firstMeantBy := List.mem_of_getElem? (i := 0) rfl
theorem eX5_firstMeantBy_1 : (1, Instr.istore_n 2, 1, 0, 0, 0) ∈ kX5_firstMeantBy := List.mem_of_getElem? (i := 1) rfl
theorem eX5_firstMeantBy_2 : (2, Instr.iload_n 2, 1, 0, 0, 0) ∈ kX5_firstMeantBy := List.mem_of_getElem? (i := 2) rfl
theorem eX5_firstMeantBy_3 : (3, Instr.aload_n 0, 1, 0, 0, 0) ∈ kX5_firstMeantBy := List.mem_of_getElem? (i := 3) rfl
theorem eX5_firstMeantBy_4 : (4, Instr.getfield 87, 3, 5, 3, 83) ∈ kX5_firstMeantBy := List.mem_of_getElem? (i := 4) rfl
theorem eX5_firstMeantBy_7 : (7, Instr.if_icmp .ge 30, 3, 37, 0, 0) ∈ kX5_firstMeantBy := List.mem_of_getElem? (i := 5) rfl
theorem eX5_firstMeantBy_10 : (10, Instr.aload_n 0, 1, 0, 0, 0) ∈ kX5_firstMeantBy := List.mem_of_getElem? (i := 6) rfl
theorem eX5_firstMeantBy_11 : (11, Instr.getfield 17, 3, 5, 2, 82) ∈ kX5_firstMeantBy := List.mem_of_getElem? (i := 7) rfl
theorem eX5_firstMeantBy_14 : (14, Instr.iload_n 2, 1, 0, 0, 0) ∈ kX5_firstMeantBy := List.mem_of_getElem? (i := 8) rfl
theorem eX5_firstMeantBy_15 : (15, Instr.aaload, 1, 0, 0, 0) ∈ kX5_firstMeantBy := List.mem_of_getElem? (i := 9) rfl
theorem eX5_firstMeantBy_16 : (16, Instr.astore_n 3, 1, 0, 0, 0) ∈ kX5_firstMeantBy := List.mem_of_getElem? (i := 10) rfl
theorem eX5_firstMeantBy_17 : (17, Instr.aload_n 3, 1, 0, 0, 0) ∈ kX5_firstMeantBy := List.mem_of_getElem? (i := 11) rfl
theorem eX5_firstMeantBy_18 : (18, Instr.ifnull 13, 3, 31, 0, 0) ∈ kX5_firstMeantBy := List.mem_of_getElem? (i := 12) rfl
theorem eX5_firstMeantBy_21 : (21, Instr.aload_n 1, 1, 0, 0, 0) ∈ kX5_firstMeantBy := List.mem_of_getElem? (i := 13) rfl
theorem eX5_firstMeantBy_22 : (22, Instr.aload_n 3, 1, 0, 0, 0) ∈ kX5_firstMeantBy := List.mem_of_getElem? (i := 14) rfl
theorem eX5_firstMeantBy_23 : (23, Instr.invokevirtual 304, 3, 9, 1, 415) ∈ kX5_firstMeantBy := List.mem_of_getElem? (i := 15) rfl
theorem eX5_firstMeantBy_26 : (26, Instr.ifCond .eq 5, 3, 31, 0, 0) ∈ kX5_firstMeantBy := List.mem_of_getElem? (i := 16) rfl
theorem eX5_firstMeantBy_29 : (29, Instr.iload_n 2, 1, 0, 0, 0) ∈ kX5_firstMeantBy := List.mem_of_getElem? (i := 17) rfl
theorem eX5_firstMeantBy_30 : (30, Instr.ireturn, 1, 0, 0, 0) ∈ kX5_firstMeantBy := List.mem_of_getElem? (i := 18) rfl
theorem eX5_firstMeantBy_31 : (31, Instr.iinc 2 1, 3, 0, 0, 0) ∈ kX5_firstMeantBy := List.mem_of_getElem? (i := 19) rfl
theorem eX5_firstMeantBy_34 : (34, Instr.goto (-32), 3, 2, 0, 0) ∈ kX5_firstMeantBy := List.mem_of_getElem? (i := 20) rfl
theorem eX5_firstMeantBy_37 : (37, Instr.iconst (-1), 1, 0, 0, 0) ∈ kX5_firstMeantBy := List.mem_of_getElem? (i := 21) rfl
theorem eX5_firstMeantBy_38 : (38, Instr.ireturn, 1, 0, 0, 0) ∈ kX5_firstMeantBy := List.mem_of_getElem? (i := 22) rfl
theorem aX5_greatestHeap : am_m nX5_greatestHeap = mX5_greatestHeap := rfl
theorem eX5_greatestHeap_0 : (0, Instr.iconst 0, 1, 0, 0, 0) ∈ kX5_greatestHeap := List.mem_of_getElem? (i := 0) rfl
theorem eX5_greatestHeap_1 : (1, Instr.istore_n 3, 1, 0, 0, 0) ∈ kX5_greatestHeap := List.mem_of_getElem? (i := 1) rfl
theorem eX5_greatestHeap_2 : (2, Instr.iload_n 3, 1, 0, 0, 0) ∈ kX5_greatestHeap := List.mem_of_getElem? (i := 2) rfl
theorem eX5_greatestHeap_3 : (3, Instr.aload_n 0, 1, 0, 0, 0) ∈ kX5_greatestHeap := List.mem_of_getElem? (i := 3) rfl
theorem eX5_greatestHeap_4 : (4, Instr.getfield 33, 3, 5, 8, 88) ∈ kX5_greatestHeap := List.mem_of_getElem? (i := 4) rfl
theorem eX5_greatestHeap_7 : (7, Instr.arraylength, 1, 0, 0, 0) ∈ kX5_greatestHeap := List.mem_of_getElem? (i := 5) rfl
theorem eX5_greatestHeap_8 : (8, Instr.if_icmp .ge 16, 3, 24, 0, 0) ∈ kX5_greatestHeap := List.mem_of_getElem? (i := 6) rfl
theorem eX5_greatestHeap_11 : (11, Instr.aload_n 0, 1, 0, 0, 0) ∈ kX5_greatestHeap := List.mem_of_getElem? (i := 7) rfl
theorem eX5_greatestHeap_12 : (12, Instr.getfield 33, 3, 5, 8, 88) ∈ kX5_greatestHeap := List.mem_of_getElem? (i := 8) rfl
theorem eX5_greatestHeap_15 : (15, Instr.iload_n 3, 1, 0, 0, 0) ∈ kX5_greatestHeap := List.mem_of_getElem? (i := 9) rfl
theorem eX5_greatestHeap_16 : (16, Instr.iconst 0, 1, 0, 0, 0) ∈ kX5_greatestHeap := List.mem_of_getElem? (i := 10) rfl
theorem eX5_greatestHeap_17 : (17, Instr.iastore, 1, 0, 0, 0) ∈ kX5_greatestHeap := List.mem_of_getElem? (i := 11) rfl
theorem eX5_greatestHeap_18 : (18, Instr.iinc 3 1, 3, 0, 0, 0) ∈ kX5_greatestHeap := List.mem_of_getElem? (i := 12) rfl
theorem eX5_greatestHeap_21 : (21, Instr.goto (-19), 3, 2, 0, 0) ∈ kX5_greatestHeap := List.mem_of_getElem? (i := 13) rfl
theorem eX5_greatestHeap_24 : (24, Instr.iconst 0, 1, 0, 0, 0) ∈ kX5_greatestHeap := List.mem_of_getElem? (i := 14) rfl
theorem eX5_greatestHeap_25 : (25, Instr.istore_n 3, 1, 0, 0, 0) ∈ kX5_greatestHeap := List.mem_of_getElem? (i := 15) rfl
theorem eX5_greatestHeap_26 : (26, Instr.iconst 0, 1, 0, 0, 0) ∈ kX5_greatestHeap := List.mem_of_getElem? (i := 16) rfl
theorem eX5_greatestHeap_27 : (27, Instr.istore 4, 2, 0, 0, 0) ∈ kX5_greatestHeap := List.mem_of_getElem? (i := 17) rfl
theorem eX5_greatestHeap_29 : (29, Instr.iload 4, 2, 0, 0, 0) ∈ kX5_greatestHeap := List.mem_of_getElem? (i := 18) rfl
theorem eX5_greatestHeap_31 : (31, Instr.aload_n 0, 1, 0, 0, 0) ∈ kX5_greatestHeap := List.mem_of_getElem? (i := 19) rfl
theorem eX5_greatestHeap_32 : (32, Instr.getfield 87, 3, 5, 3, 83) ∈ kX5_greatestHeap := List.mem_of_getElem? (i := 20) rfl
theorem eX5_greatestHeap_35 : (35, Instr.if_icmp .ge 63, 3, 98, 0, 0) ∈ kX5_greatestHeap := List.mem_of_getElem? (i := 21) rfl
theorem eX5_greatestHeap_38 : (38, Instr.aload_n 0, 1, 0, 0, 0) ∈ kX5_greatestHeap := List.mem_of_getElem? (i := 22) rfl
theorem eX5_greatestHeap_39 : (39, Instr.getfield 17, 3, 5, 2, 82) ∈ kX5_greatestHeap := List.mem_of_getElem? (i := 23) rfl
theorem eX5_greatestHeap_42 : (42, Instr.iload 4, 2, 0, 0, 0) ∈ kX5_greatestHeap := List.mem_of_getElem? (i := 24) rfl
theorem eX5_greatestHeap_44 : (44, Instr.aaload, 1, 0, 0, 0) ∈ kX5_greatestHeap := List.mem_of_getElem? (i := 25) rfl
theorem eX5_greatestHeap_45 : (45, Instr.astore 5, 2, 0, 0, 0) ∈ kX5_greatestHeap := List.mem_of_getElem? (i := 26) rfl
theorem eX5_greatestHeap_47 : (47, Instr.aload 5, 2, 0, 0, 0) ∈ kX5_greatestHeap := List.mem_of_getElem? (i := 27) rfl
theorem eX5_greatestHeap_49 : (49, Instr.ifnull 43, 3, 92, 0, 0) ∈ kX5_greatestHeap := List.mem_of_getElem? (i := 28) rfl
theorem eX5_greatestHeap_52 : (52, Instr.aload_n 1, 1, 0, 0, 0) ∈ kX5_greatestHeap := List.mem_of_getElem? (i := 29) rfl
theorem eX5_greatestHeap_53 : (53, Instr.aload 5, 2, 0, 0, 0) ∈ kX5_greatestHeap := List.mem_of_getElem? (i := 30) rfl
theorem eX5_greatestHeap_55 : (55, Instr.invokevirtual 304, 3, 9, 1, 415) ∈ kX5_greatestHeap := List.mem_of_getElem? (i := 31) rfl
theorem eX5_greatestHeap_58 : (58, Instr.ifCond .eq 34, 3, 92, 0, 0) ∈ kX5_greatestHeap := List.mem_of_getElem? (i := 32) rfl
theorem eX5_greatestHeap_61 : (61, Instr.aload 5, 2, 0, 0, 0) ∈ kX5_greatestHeap := List.mem_of_getElem? (i := 33) rfl
theorem eX5_greatestHeap_63 : (63, Instr.iload_n 2, 1, 0, 0, 0) ∈ kX5_greatestHeap := List.mem_of_getElem? (i := 34) rfl
theorem eX5_greatestHeap_64 : (64, Instr.invokevirtual 307, 3, 19, 1, 435) ∈ kX5_greatestHeap := List.mem_of_getElem? (i := 35) rfl
theorem eX5_greatestHeap_67 : (67, Instr.istore 6, 2, 0, 0, 0) ∈ kX5_greatestHeap := List.mem_of_getElem? (i := 36) rfl
theorem eX5_greatestHeap_69 : (69, Instr.aload_n 0, 1, 0, 0, 0) ∈ kX5_greatestHeap := List.mem_of_getElem? (i := 37) rfl
theorem eX5_greatestHeap_70 : (70, Instr.getfield 33, 3, 5, 8, 88) ∈ kX5_greatestHeap := List.mem_of_getElem? (i := 38) rfl
theorem eX5_greatestHeap_73 : (73, Instr.iload 6, 2, 0, 0, 0) ∈ kX5_greatestHeap := List.mem_of_getElem? (i := 39) rfl
theorem eX5_greatestHeap_75 : (75, Instr.dup2, 1, 0, 0, 0) ∈ kX5_greatestHeap := List.mem_of_getElem? (i := 40) rfl
theorem eX5_greatestHeap_76 : (76, Instr.iaload, 1, 0, 0, 0) ∈ kX5_greatestHeap := List.mem_of_getElem? (i := 41) rfl
theorem eX5_greatestHeap_77 : (77, Instr.iconst 1, 1, 0, 0, 0) ∈ kX5_greatestHeap := List.mem_of_getElem? (i := 42) rfl
theorem eX5_greatestHeap_78 : (78, Instr.iadd, 1, 0, 0, 0) ∈ kX5_greatestHeap := List.mem_of_getElem? (i := 43) rfl
theorem eX5_greatestHeap_79 : (79, Instr.iastore, 1, 0, 0, 0) ∈ kX5_greatestHeap := List.mem_of_getElem? (i := 44) rfl
theorem eX5_greatestHeap_80 : (80, Instr.iload_n 3, 1, 0, 0, 0) ∈ kX5_greatestHeap := List.mem_of_getElem? (i := 45) rfl
theorem eX5_greatestHeap_81 : (81, Instr.aload_n 0, 1, 0, 0, 0) ∈ kX5_greatestHeap := List.mem_of_getElem? (i := 46) rfl
theorem eX5_greatestHeap_82 : (82, Instr.getfield 33, 3, 5, 8, 88) ∈ kX5_greatestHeap := List.mem_of_getElem? (i := 47) rfl
theorem eX5_greatestHeap_85 : (85, Instr.iload 6, 2, 0, 0, 0) ∈ kX5_greatestHeap := List.mem_of_getElem? (i := 48) rfl
theorem eX5_greatestHeap_87 : (87, Instr.iaload, 1, 0, 0, 0) ∈ kX5_greatestHeap := List.mem_of_getElem? (i := 49) rfl
theorem eX5_greatestHeap_88 : (88, Instr.invokestatic 310, 3, 120, 2, 436) ∈ kX5_greatestHeap := List.mem_of_getElem? (i := 50) rfl
theorem eX5_greatestHeap_91 : (91, Instr.istore_n 3, 1, 0, 0, 0) ∈ kX5_greatestHeap := List.mem_of_getElem? (i := 51) rfl
theorem eX5_greatestHeap_92 : (92, Instr.iinc 4 1, 3, 0, 0, 0) ∈ kX5_greatestHeap := List.mem_of_getElem? (i := 52) rfl
theorem eX5_greatestHeap_95 : (95, Instr.goto (-66), 3, 29, 0, 0) ∈ kX5_greatestHeap := List.mem_of_getElem? (i := 53) rfl
theorem eX5_greatestHeap_98 : (98, Instr.iload_n 3, 1, 0, 0, 0) ∈ kX5_greatestHeap := List.mem_of_getElem? (i := 54) rfl
theorem eX5_greatestHeap_99 : (99, Instr.ireturn, 1, 0, 0, 0) ∈ kX5_greatestHeap := List.mem_of_getElem? (i := 55) rfl
theorem aX5_isContested : am_m nX5_isContested = mX5_isContested := rfl
theorem eX5_isContested_0 : (0, Instr.iconst 0, 1, 0, 0, 0) ∈ kX5_isContested := List.mem_of_getElem? (i := 0) rfl
theorem eX5_isContested_1 : (1, Instr.istore_n 3, 1, 0, 0, 0) ∈ kX5_isContested := List.mem_of_getElem? (i := 1) rfl
theorem eX5_isContested_2 : (2, Instr.iload_n 3, 1, 0, 0, 0) ∈ kX5_isContested := List.mem_of_getElem? (i := 2) rfl
theorem eX5_isContested_3 : (3, Instr.aload_n 0, 1, 0, 0, 0) ∈ kX5_isContested := List.mem_of_getElem? (i := 3) rfl
theorem eX5_isContested_4 : (4, Instr.getfield 138, 3, 5, 5, 85) ∈ kX5_isContested := List.mem_of_getElem? (i := 4) rfl
theorem eX5_isContested_7 : (7, Instr.if_icmp .ge 66, 3, 73, 0, 0) ∈ kX5_isContested := List.mem_of_getElem? (i := 5) rfl
theorem eX5_isContested_10 : (10, Instr.aload_n 0, 1, 0, 0, 0) ∈ kX5_isContested := List.mem_of_getElem? (i := 6) rfl
theorem eX5_isContested_11 : (11, Instr.getfield 23, 3, 5, 4, 84) ∈ kX5_isContested := List.mem_of_getElem? (i := 7) rfl
theorem eX5_isContested_14 : (14, Instr.iload_n 3, 1, 0, 0, 0) ∈ kX5_isContested := List.mem_of_getElem? (i := 8) rfl
theorem eX5_isContested_15 : (15, Instr.aaload, 1, 0, 0, 0) ∈ kX5_isContested := List.mem_of_getElem? (i := 9) rfl
theorem eX5_isContested_16 : (16, Instr.astore 4, 2, 0, 0, 0) ∈ kX5_isContested := List.mem_of_getElem? (i := 10) rfl
theorem eX5_isContested_18 : (18, Instr.aload 4, 2, 0, 0, 0) ∈ kX5_isContested := List.mem_of_getElem? (i := 11) rfl
theorem eX5_isContested_20 : (20, Instr.ifnull 47, 3, 67, 0, 0) ∈ kX5_isContested := List.mem_of_getElem? (i := 12) rfl
theorem eX5_isContested_23 : (23, Instr.aload 4, 2, 0, 0, 0) ∈ kX5_isContested := List.mem_of_getElem? (i := 13) rfl
theorem eX5_isContested_25 : (25, Instr.aload_n 1, 1, 0, 0, 0) ∈ kX5_isContested := List.mem_of_getElem? (i := 14) rfl
theorem eX5_isContested_26 : (26, Instr.if_acmp .eq 41, 3, 67, 0, 0) ∈ kX5_isContested := List.mem_of_getElem? (i := 15) rfl
theorem eX5_isContested_29 : (29, Instr.aload 4, 2, 0, 0, 0) ∈ kX5_isContested := List.mem_of_getElem? (i := 16) rfl
theorem eX5_isContested_31 : (31, Instr.getfield 146, 3, 1, 1, 393) ∈ kX5_isContested := List.mem_of_getElem? (i := 17) rfl
theorem eX5_isContested_34 : (34, Instr.ifCond .ne 33, 3, 67, 0, 0) ∈ kX5_isContested := List.mem_of_getElem? (i := 18) rfl
theorem eX5_isContested_37 : (37, Instr.aload 4, 2, 0, 0, 0) ∈ kX5_isContested := List.mem_of_getElem? (i := 19) rfl
theorem eX5_isContested_39 : (39, Instr.invokevirtual 161, 3, 8, 0, 441) ∈ kX5_isContested := List.mem_of_getElem? (i := 20) rfl
theorem eX5_isContested_42 : (42, Instr.iconst 3, 1, 0, 0, 0) ∈ kX5_isContested := List.mem_of_getElem? (i := 21) rfl
theorem eX5_isContested_43 : (43, Instr.if_icmp .lt 24, 3, 67, 0, 0) ∈ kX5_isContested := List.mem_of_getElem? (i := 22) rfl
theorem eX5_isContested_46 : (46, Instr.aload 4, 2, 0, 0, 0) ∈ kX5_isContested := List.mem_of_getElem? (i := 23) rfl
theorem eX5_isContested_48 : (48, Instr.aload_n 2, 1, 0, 0, 0) ∈ kX5_isContested := List.mem_of_getElem? (i := 24) rfl
theorem eX5_isContested_49 : (49, Instr.invokevirtual 304, 3, 9, 1, 415) ∈ kX5_isContested := List.mem_of_getElem? (i := 25) rfl
theorem eX5_isContested_52 : (52, Instr.ifCond .eq 15, 3, 67, 0, 0) ∈ kX5_isContested := List.mem_of_getElem? (i := 26) rfl
theorem eX5_isContested_55 : (55, Instr.aload_n 0, 1, 0, 0, 0) ∈ kX5_isContested := List.mem_of_getElem? (i := 27) rfl
theorem eX5_isContested_56 : (56, Instr.aload 4, 2, 0, 0, 0) ∈ kX5_isContested := List.mem_of_getElem? (i := 28) rfl
theorem eX5_isContested_58 : (58, Instr.invokevirtual 153, 3, 68, 1, 411) ∈ kX5_isContested := List.mem_of_getElem? (i := 29) rfl
theorem eX5_isContested_61 : (61, Instr.iconst 1, 1, 0, 0, 0) ∈ kX5_isContested := List.mem_of_getElem? (i := 30) rfl
theorem eX5_isContested_62 : (62, Instr.if_icmp .ne 5, 3, 67, 0, 0) ∈ kX5_isContested := List.mem_of_getElem? (i := 31) rfl
theorem eX5_isContested_65 : (65, Instr.iconst 1, 1, 0, 0, 0) ∈ kX5_isContested := List.mem_of_getElem? (i := 32) rfl
theorem eX5_isContested_66 : (66, Instr.ireturn, 1, 1, 0, 0) ∈ kX5_isContested := List.mem_of_getElem? (i := 33) rfl
theorem eX5_isContested_67 : (67, Instr.iinc 3 1, 3, 0, 0, 0) ∈ kX5_isContested := List.mem_of_getElem? (i := 34) rfl
theorem eX5_isContested_70 : (70, Instr.goto (-68), 3, 2, 0, 0) ∈ kX5_isContested := List.mem_of_getElem? (i := 35) rfl
theorem eX5_isContested_73 : (73, Instr.iconst 0, 1, 0, 0, 0) ∈ kX5_isContested := List.mem_of_getElem? (i := 36) rfl
theorem eX5_isContested_74 : (74, Instr.ireturn, 1, 1, 0, 0) ∈ kX5_isContested := List.mem_of_getElem? (i := 37) rfl
theorem aX5_makeBestMove : am_m nX5_makeBestMove = mX5_makeBestMove := rfl
theorem eX5_makeBestMove_0 : (0, Instr.aconst_null, 1, 0, 0, 0) ∈ kX5_makeBestMove := List.mem_of_getElem? (i := 0) rfl
theorem eX5_makeBestMove_1 : (1, Instr.astore_n 1, 1, 0, 0, 0) ∈ kX5_makeBestMove := List.mem_of_getElem? (i := 1) rfl
theorem eX5_makeBestMove_2 : (2, Instr.aconst_null, 1, 0, 0, 0) ∈ kX5_makeBestMove := List.mem_of_getElem? (i := 2) rfl
theorem eX5_makeBestMove_3 : (3, Instr.astore_n 2, 1, 0, 0, 0) ∈ kX5_makeBestMove := List.mem_of_getElem? (i := 3) rfl
theorem eX5_makeBestMove_4 : (4, Instr.iconst 0, 1, 0, 0, 0) ∈ kX5_makeBestMove := List.mem_of_getElem? (i := 4) rfl
theorem eX5_makeBestMove_5 : (5, Instr.istore_n 3, 1, 0, 0, 0) ∈ kX5_makeBestMove := List.mem_of_getElem? (i := 5) rfl
theorem eX5_makeBestMove_6 : (6, Instr.iconst 0, 1, 0, 0, 0) ∈ kX5_makeBestMove := List.mem_of_getElem? (i := 6) rfl
theorem eX5_makeBestMove_7 : (7, Instr.istore 4, 2, 0, 0, 0) ∈ kX5_makeBestMove := List.mem_of_getElem? (i := 7) rfl
theorem eX5_makeBestMove_9 : (9, Instr.iload 4, 2, 0, 0, 0) ∈ kX5_makeBestMove := List.mem_of_getElem? (i := 8) rfl
theorem eX5_makeBestMove_11 : (11, Instr.aload_n 0, 1, 0, 0, 0) ∈ kX5_makeBestMove := List.mem_of_getElem? (i := 9) rfl
theorem eX5_makeBestMove_12 : (12, Instr.getfield 87, 3, 5, 3, 83) ∈ kX5_makeBestMove := List.mem_of_getElem? (i := 10) rfl
theorem eX5_makeBestMove_15 : (15, Instr.if_icmp .ge 81, 3, 96, 0, 0) ∈ kX5_makeBestMove := List.mem_of_getElem? (i := 11) rfl
theorem eX5_makeBestMove_18 : (18, Instr.aload_n 0, 1, 0, 0, 0) ∈ kX5_makeBestMove := List.mem_of_getElem? (i := 12) rfl
theorem eX5_makeBestMove_19 : (19, Instr.getfield 17, 3, 5, 2, 82) ∈ kX5_makeBestMove := List.mem_of_getElem? (i := 13) rfl
theorem eX5_makeBestMove_22 : (22, Instr.iload 4, 2, 0, 0, 0) ∈ kX5_makeBestMove := List.mem_of_getElem? (i := 14) rfl
theorem eX5_makeBestMove_24 : (24, Instr.aaload, 1, 0, 0, 0) ∈ kX5_makeBestMove := List.mem_of_getElem? (i := 15) rfl
theorem eX5_makeBestMove_25 : (25, Instr.astore 5, 2, 0, 0, 0) ∈ kX5_makeBestMove := List.mem_of_getElem? (i := 16) rfl
theorem eX5_makeBestMove_27 : (27, Instr.aload 5, 2, 0, 0, 0) ∈ kX5_makeBestMove := List.mem_of_getElem? (i := 17) rfl
theorem eX5_makeBestMove_29 : (29, Instr.ifnonnull 7, 3, 36, 0, 0) ∈ kX5_makeBestMove := List.mem_of_getElem? (i := 18) rfl
theorem eX5_makeBestMove_32 : (32, Instr.aconst_null, 1, 0, 0, 0) ∈ kX5_makeBestMove := List.mem_of_getElem? (i := 19) rfl
theorem eX5_makeBestMove_33 : (33, Instr.goto 9, 3, 42, 0, 0) ∈ kX5_makeBestMove := List.mem_of_getElem? (i := 20) rfl
theorem eX5_makeBestMove_36 : (36, Instr.aload_n 0, 1, 0, 0, 0) ∈ kX5_makeBestMove := List.mem_of_getElem? (i := 21) rfl
theorem eX5_makeBestMove_37 : (37, Instr.aload 5, 2, 0, 0, 0) ∈ kX5_makeBestMove := List.mem_of_getElem? (i := 22) rfl
theorem eX5_makeBestMove_39 : (39, Instr.invokevirtual 313, 3, 73, 1, 470) ∈ kX5_makeBestMove := List.mem_of_getElem? (i := 23) rfl
theorem eX5_makeBestMove_42 : (42, Instr.astore 6, 2, 0, 0, 0) ∈ kX5_makeBestMove := List.mem_of_getElem? (i := 24) rfl
theorem eX5_makeBestMove_44 : (44, Instr.aload 6, 2, 0, 0, 0) ∈ kX5_makeBestMove := List.mem_of_getElem? (i := 25) rfl
theorem eX5_makeBestMove_46 : (46, Instr.ifnonnull 6, 3, 52, 0, 0) ∈ kX5_makeBestMove := List.mem_of_getElem? (i := 26) rfl
theorem eX5_makeBestMove_49 : (49, Instr.goto 41, 3, 90, 0, 0) ∈ kX5_makeBestMove := List.mem_of_getElem? (i := 27) rfl
theorem eX5_makeBestMove_52 : (52, Instr.aload 5, 2, 0, 0, 0) ∈ kX5_makeBestMove := List.mem_of_getElem? (i := 28) rfl
theorem eX5_makeBestMove_54 : (54, Instr.aload_n 0, 1, 0, 0, 0) ∈ kX5_makeBestMove := List.mem_of_getElem? (i := 29) rfl
theorem eX5_makeBestMove_55 : (55, Instr.getfield 49, 3, 5, 10, 90) ∈ kX5_makeBestMove := List.mem_of_getElem? (i := 30) rfl
theorem eX5_makeBestMove_58 : (58, Instr.invokevirtual 174, 3, 22, 1, 457) ∈ kX5_makeBestMove := List.mem_of_getElem? (i := 31) rfl
theorem eX5_makeBestMove_61 : (61, Instr.aload 5, 2, 0, 0, 0) ∈ kX5_makeBestMove := List.mem_of_getElem? (i := 32) rfl
theorem eX5_makeBestMove_63 : (63, Instr.aload 6, 2, 0, 0, 0) ∈ kX5_makeBestMove := List.mem_of_getElem? (i := 33) rfl
theorem eX5_makeBestMove_65 : (65, Instr.aload_n 0, 1, 0, 0, 0) ∈ kX5_makeBestMove := List.mem_of_getElem? (i := 34) rfl
theorem eX5_makeBestMove_66 : (66, Instr.getfield 49, 3, 5, 10, 90) ∈ kX5_makeBestMove := List.mem_of_getElem? (i := 35) rfl
theorem eX5_makeBestMove_69 : (69, Instr.invokevirtual 293, 3, 21, 2, 310) ∈ kX5_makeBestMove := List.mem_of_getElem? (i := 36) rfl
theorem eX5_makeBestMove_72 : (72, Instr.isub, 1, 0, 0, 0) ∈ kX5_makeBestMove := List.mem_of_getElem? (i := 37) rfl
theorem eX5_makeBestMove_73 : (73, Instr.istore 7, 2, 0, 0, 0) ∈ kX5_makeBestMove := List.mem_of_getElem? (i := 38) rfl
theorem eX5_makeBestMove_75 : (75, Instr.iload 7, 2, 0, 0, 0) ∈ kX5_makeBestMove := List.mem_of_getElem? (i := 39) rfl
theorem eX5_makeBestMove_77 : (77, Instr.iload_n 3, 1, 0, 0, 0) ∈ kX5_makeBestMove := List.mem_of_getElem? (i := 40) rfl
theorem eX5_makeBestMove_78 : (78, Instr.if_icmp .le 12, 3, 90, 0, 0) ∈ kX5_makeBestMove := List.mem_of_getElem? (i := 41) rfl
theorem eX5_makeBestMove_81 : (81, Instr.iload 7, 2, 0, 0, 0) ∈ kX5_makeBestMove := List.mem_of_getElem? (i := 42) rfl
theorem eX5_makeBestMove_83 : (83, Instr.istore_n 3, 1, 0, 0, 0) ∈ kX5_makeBestMove := List.mem_of_getElem? (i := 43) rfl
theorem eX5_makeBestMove_84 : (84, Instr.aload 5, 2, 0, 0, 0) ∈ kX5_makeBestMove := List.mem_of_getElem? (i := 44) rfl
theorem eX5_makeBestMove_86 : (86, Instr.astore_n 1, 1, 0, 0, 0) ∈ kX5_makeBestMove := List.mem_of_getElem? (i := 45) rfl
theorem eX5_makeBestMove_87 : (87, Instr.aload 6, 2, 0, 0, 0) ∈ kX5_makeBestMove := List.mem_of_getElem? (i := 46) rfl
theorem eX5_makeBestMove_89 : (89, Instr.astore_n 2, 1, 0, 0, 0) ∈ kX5_makeBestMove := List.mem_of_getElem? (i := 47) rfl
theorem eX5_makeBestMove_90 : (90, Instr.iinc 4 1, 3, 0, 0, 0) ∈ kX5_makeBestMove := List.mem_of_getElem? (i := 48) rfl
theorem eX5_makeBestMove_93 : (93, Instr.goto (-84), 3, 9, 0, 0) ∈ kX5_makeBestMove := List.mem_of_getElem? (i := 49) rfl
theorem eX5_makeBestMove_96 : (96, Instr.aload_n 1, 1, 0, 0, 0) ∈ kX5_makeBestMove := List.mem_of_getElem? (i := 50) rfl
theorem eX5_makeBestMove_97 : (97, Instr.ifnull 7, 3, 104, 0, 0) ∈ kX5_makeBestMove := List.mem_of_getElem? (i := 51) rfl
theorem eX5_makeBestMove_100 : (100, Instr.aload_n 2, 1, 0, 0, 0) ∈ kX5_makeBestMove := List.mem_of_getElem? (i := 52) rfl
theorem eX5_makeBestMove_101 : (101, Instr.ifnonnull 5, 3, 106, 0, 0) ∈ kX5_makeBestMove := List.mem_of_getElem? (i := 53) rfl
theorem eX5_makeBestMove_104 : (104, Instr.iconst 0, 1, 0, 0, 0) ∈ kX5_makeBestMove := List.mem_of_getElem? (i := 54) rfl
theorem eX5_makeBestMove_105 : (105, Instr.ireturn, 1, 1, 0, 0) ∈ kX5_makeBestMove := List.mem_of_getElem? (i := 55) rfl
theorem eX5_makeBestMove_106 : (106, Instr.aload_n 0, 1, 0, 0, 0) ∈ kX5_makeBestMove := List.mem_of_getElem? (i := 56) rfl
theorem eX5_makeBestMove_107 : (107, Instr.aload_n 1, 1, 0, 0, 0) ∈ kX5_makeBestMove := List.mem_of_getElem? (i := 57) rfl
theorem eX5_makeBestMove_108 : (108, Instr.aload_n 2, 1, 0, 0, 0) ∈ kX5_makeBestMove := List.mem_of_getElem? (i := 58) rfl
theorem eX5_makeBestMove_109 : (109, Instr.invokevirtual 316, 3, 74, 2, 474) ∈ kX5_makeBestMove := List.mem_of_getElem? (i := 59) rfl
theorem eX5_makeBestMove_112 : (112, Instr.iconst 1, 1, 0, 0, 0) ∈ kX5_makeBestMove := List.mem_of_getElem? (i := 60) rfl
theorem eX5_makeBestMove_113 : (113, Instr.ireturn, 1, 1, 0, 0) ∈ kX5_makeBestMove := List.mem_of_getElem? (i := 61) rfl
theorem aX5_shelfForMove : am_m nX5_shelfForMove = mX5_shelfForMove := rfl
theorem eX5_shelfForMove_0 : (0, Instr.aload_n 1, 1, 0, 0, 0) ∈ kX5_shelfForMove := List.mem_of_getElem? (i := 0) rfl
theorem eX5_shelfForMove_1 : (1, Instr.getfield 118, 3, 4, 7, 264) ∈ kX5_shelfForMove := List.mem_of_getElem? (i := 1) rfl
theorem eX5_shelfForMove_4 : (4, Instr.ifCond .ne 10, 3, 14, 0, 0) ∈ kX5_shelfForMove := List.mem_of_getElem? (i := 2) rfl
theorem eX5_shelfForMove_7 : (7, Instr.aload_n 1, 1, 0, 0, 0) ∈ kX5_shelfForMove := List.mem_of_getElem? (i := 3) rfl
theorem eX5_shelfForMove_8 : (8, Instr.invokevirtual 128, 3, 24, 0, 370) ∈ kX5_shelfForMove := List.mem_of_getElem? (i := 4) rfl
theorem eX5_shelfForMove_11 : (11, Instr.ifCond .eq 5, 3, 16, 0, 0) ∈ kX5_shelfForMove := List.mem_of_getElem? (i := 5) rfl
theorem eX5_shelfForMove_14 : (14, Instr.aconst_null, 1, 0, 0, 0) ∈ kX5_shelfForMove := List.mem_of_getElem? (i := 6) rfl
theorem eX5_shelfForMove_15 : (15, Instr.areturn, 1, 0, 0, 0) ∈ kX5_shelfForMove := List.mem_of_getElem? (i := 7) rfl
theorem eX5_shelfForMove_16 : (16, Instr.aconst_null, 1, 0, 0, 0) ∈ kX5_shelfForMove := List.mem_of_getElem? (i := 8) rfl
theorem eX5_shelfForMove_17 : (17, Instr.astore_n 2, 1, 0, 0, 0) ∈ kX5_shelfForMove := List.mem_of_getElem? (i := 9) rfl
theorem eX5_shelfForMove_18 : (18, Instr.iconst 0, 1, 0, 0, 0) ∈ kX5_shelfForMove := List.mem_of_getElem? (i := 10) rfl
theorem eX5_shelfForMove_19 : (19, Instr.istore_n 3, 1, 0, 0, 0) ∈ kX5_shelfForMove := List.mem_of_getElem? (i := 11) rfl
theorem eX5_shelfForMove_20 : (20, Instr.iconst 0, 1, 0, 0, 0) ∈ kX5_shelfForMove := List.mem_of_getElem? (i := 12) rfl
theorem eX5_shelfForMove_21 : (21, Instr.istore 4, 2, 0, 0, 0) ∈ kX5_shelfForMove := List.mem_of_getElem? (i := 13) rfl
theorem eX5_shelfForMove_23 : (23, Instr.iload 4, 2, 0, 0, 0) ∈ kX5_shelfForMove := List.mem_of_getElem? (i := 14) rfl
theorem eX5_shelfForMove_25 : (25, Instr.aload_n 0, 1, 0, 0, 0) ∈ kX5_shelfForMove := List.mem_of_getElem? (i := 15) rfl
theorem eX5_shelfForMove_26 : (26, Instr.getfield 76, 3, 5, 1, 81) ∈ kX5_shelfForMove := List.mem_of_getElem? (i := 16) rfl
theorem eX5_shelfForMove_29 : (29, Instr.if_icmp .ge 72, 3, 101, 0, 0) ∈ kX5_shelfForMove := List.mem_of_getElem? (i := 17) rfl
theorem eX5_shelfForMove_32 : (32, Instr.aload_n 0, 1, 0, 0, 0) ∈ kX5_shelfForMove := List.mem_of_getElem? (i := 18) rfl
theorem eX5_shelfForMove_33 : (33, Instr.getfield 11, 3, 5, 0, 80) ∈ kX5_shelfForMove := List.mem_of_getElem? (i := 19) rfl
theorem eX5_shelfForMove_36 : (36, Instr.iload 4, 2, 0, 0, 0) ∈ kX5_shelfForMove := List.mem_of_getElem? (i := 20) rfl
theorem eX5_shelfForMove_38 : (38, Instr.aaload, 1, 0, 0, 0) ∈ kX5_shelfForMove := List.mem_of_getElem? (i := 21) rfl
theorem eX5_shelfForMove_39 : (39, Instr.astore 5, 2, 0, 0, 0) ∈ kX5_shelfForMove := List.mem_of_getElem? (i := 22) rfl
theorem eX5_shelfForMove_41 : (41, Instr.aload 5, 2, 0, 0, 0) ∈ kX5_shelfForMove := List.mem_of_getElem? (i := 23) rfl
theorem eX5_shelfForMove_43 : (43, Instr.ifnull 52, 3, 95, 0, 0) ∈ kX5_shelfForMove := List.mem_of_getElem? (i := 24) rfl
theorem eX5_shelfForMove_46 : (46, Instr.aload 5, 2, 0, 0, 0) ∈ kX5_shelfForMove := List.mem_of_getElem? (i := 25) rfl
theorem eX5_shelfForMove_48 : (48, Instr.aload_n 1, 1, 0, 0, 0) ∈ kX5_shelfForMove := List.mem_of_getElem? (i := 26) rfl
theorem eX5_shelfForMove_49 : (49, Instr.getfield 297, 3, 4, 8, 267) ∈ kX5_shelfForMove := List.mem_of_getElem? (i := 27) rfl
theorem eX5_shelfForMove_52 : (52, Instr.if_acmp .eq 43, 3, 95, 0, 0) ∈ kX5_shelfForMove := List.mem_of_getElem? (i := 28) rfl
theorem eX5_shelfForMove_55 : (55, Instr.aload 5, 2, 0, 0, 0) ∈ kX5_shelfForMove := List.mem_of_getElem? (i := 29) rfl
theorem eX5_shelfForMove_57 : (57, Instr.aload_n 1, 1, 0, 0, 0) ∈ kX5_shelfForMove := List.mem_of_getElem? (i := 30) rfl
theorem eX5_shelfForMove_58 : (58, Instr.invokevirtual 286, 3, 14, 1, 298) ∈ kX5_shelfForMove := List.mem_of_getElem? (i := 31) rfl
theorem eX5_shelfForMove_61 : (61, Instr.ifCond .ne 6, 3, 67, 0, 0) ∈ kX5_shelfForMove := List.mem_of_getElem? (i := 32) rfl
theorem eX5_shelfForMove_64 : (64, Instr.goto 31, 3, 95, 0, 0) ∈ kX5_shelfForMove := List.mem_of_getElem? (i := 33) rfl
theorem eX5_shelfForMove_67 : (67, Instr.aload_n 1, 1, 0, 0, 0) ∈ kX5_shelfForMove := List.mem_of_getElem? (i := 34) rfl
theorem eX5_shelfForMove_68 : (68, Instr.aload 5, 2, 0, 0, 0) ∈ kX5_shelfForMove := List.mem_of_getElem? (i := 35) rfl
theorem eX5_shelfForMove_70 : (70, Instr.aload_n 0, 1, 0, 0, 0) ∈ kX5_shelfForMove := List.mem_of_getElem? (i := 36) rfl
theorem eX5_shelfForMove_71 : (71, Instr.getfield 49, 3, 5, 10, 90) ∈ kX5_shelfForMove := List.mem_of_getElem? (i := 37) rfl
theorem eX5_shelfForMove_74 : (74, Instr.invokevirtual 293, 3, 21, 2, 310) ∈ kX5_shelfForMove := List.mem_of_getElem? (i := 38) rfl
theorem eX5_shelfForMove_77 : (77, Instr.istore 6, 2, 0, 0, 0) ∈ kX5_shelfForMove := List.mem_of_getElem? (i := 39) rfl
theorem eX5_shelfForMove_79 : (79, Instr.aload_n 2, 1, 0, 0, 0) ∈ kX5_shelfForMove := List.mem_of_getElem? (i := 40) rfl
theorem eX5_shelfForMove_80 : (80, Instr.ifnull 9, 3, 89, 0, 0) ∈ kX5_shelfForMove := List.mem_of_getElem? (i := 41) rfl
theorem eX5_shelfForMove_83 : (83, Instr.iload 6, 2, 0, 0, 0) ∈ kX5_shelfForMove := List.mem_of_getElem? (i := 42) rfl
theorem eX5_shelfForMove_85 : (85, Instr.iload_n 3, 1, 0, 0, 0) ∈ kX5_shelfForMove := List.mem_of_getElem? (i := 43) rfl
theorem eX5_shelfForMove_86 : (86, Instr.if_icmp .ge 9, 3, 95, 0, 0) ∈ kX5_shelfForMove := List.mem_of_getElem? (i := 44) rfl
theorem eX5_shelfForMove_89 : (89, Instr.aload 5, 2, 0, 0, 0) ∈ kX5_shelfForMove := List.mem_of_getElem? (i := 45) rfl
theorem eX5_shelfForMove_91 : (91, Instr.astore_n 2, 1, 0, 0, 0) ∈ kX5_shelfForMove := List.mem_of_getElem? (i := 46) rfl
theorem eX5_shelfForMove_92 : (92, Instr.iload 6, 2, 0, 0, 0) ∈ kX5_shelfForMove := List.mem_of_getElem? (i := 47) rfl
theorem eX5_shelfForMove_94 : (94, Instr.istore_n 3, 1, 0, 0, 0) ∈ kX5_shelfForMove := List.mem_of_getElem? (i := 48) rfl
theorem eX5_shelfForMove_95 : (95, Instr.iinc 4 1, 3, 0, 0, 0) ∈ kX5_shelfForMove := List.mem_of_getElem? (i := 49) rfl
theorem eX5_shelfForMove_98 : (98, Instr.goto (-75), 3, 23, 0, 0) ∈ kX5_shelfForMove := List.mem_of_getElem? (i := 50) rfl
theorem eX5_shelfForMove_101 : (101, Instr.aload_n 2, 1, 0, 0, 0) ∈ kX5_shelfForMove := List.mem_of_getElem? (i := 51) rfl
theorem eX5_shelfForMove_102 : (102, Instr.areturn, 1, 0, 0, 0) ∈ kX5_shelfForMove := List.mem_of_getElem? (i := 52) rfl
theorem aX5_move : am_m nX5_move = mX5_move := rfl
theorem eX5_move_0 : (0, Instr.aload_n 1, 1, 0, 0, 0) ∈ kX5_move := List.mem_of_getElem? (i := 0) rfl
theorem eX5_move_1 : (1, Instr.getfield 297, 3, 4, 8, 267) ∈ kX5_move := List.mem_of_getElem? (i := 1) rfl
theorem eX5_move_4 : (4, Instr.astore_n 3, 1, 0, 0, 0) ∈ kX5_move := List.mem_of_getElem? (i := 2) rfl
theorem eX5_move_5 : (5, Instr.aload_n 3, 1, 0, 0, 0) ∈ kX5_move := List.mem_of_getElem? (i := 3) rfl
theorem eX5_move_6 : (6, Instr.ifnonnull 4, 3, 10, 0, 0) ∈ kX5_move := List.mem_of_getElem? (i := 4) rfl
theorem eX5_move_9 : (9, Instr.return_, 1, 0, 0, 0) ∈ kX5_move := List.mem_of_getElem? (i := 5) rfl
theorem eX5_move_10 : (10, Instr.aload_n 0, 1, 0, 0, 0) ∈ kX5_move := List.mem_of_getElem? (i := 6) rfl
theorem eX5_move_11 : (11, Instr.dup, 1, 0, 0, 0) ∈ kX5_move := List.mem_of_getElem? (i := 7) rfl
theorem eX5_move_12 : (12, Instr.getfield 101, 3, 5, 14, 94) ∈ kX5_move := List.mem_of_getElem? (i := 8) rfl
theorem eX5_move_15 : (15, Instr.aload_n 3, 1, 0, 0, 0) ∈ kX5_move := List.mem_of_getElem? (i := 9) rfl
theorem eX5_move_16 : (16, Instr.getfield 104, 3, 3, 4, 203) ∈ kX5_move := List.mem_of_getElem? (i := 10) rfl
theorem eX5_move_19 : (19, Instr.aload_n 2, 1, 0, 0, 0) ∈ kX5_move := List.mem_of_getElem? (i := 11) rfl
theorem eX5_move_20 : (20, Instr.getfield 104, 3, 3, 4, 203) ∈ kX5_move := List.mem_of_getElem? (i := 12) rfl
theorem eX5_move_23 : (23, Instr.iadd, 1, 0, 0, 0) ∈ kX5_move := List.mem_of_getElem? (i := 13) rfl
theorem eX5_move_24 : (24, Instr.iadd, 1, 0, 0, 0) ∈ kX5_move := List.mem_of_getElem? (i := 14) rfl
theorem eX5_move_25 : (25, Instr.putfield 101, 3, 5, 14, 94) ∈ kX5_move := List.mem_of_getElem? (i := 15) rfl
theorem eX5_move_28 : (28, Instr.aload_n 3, 1, 0, 0, 0) ∈ kX5_move := List.mem_of_getElem? (i := 16) rfl
theorem eX5_move_29 : (29, Instr.aload_n 1, 1, 0, 0, 0) ∈ kX5_move := List.mem_of_getElem? (i := 17) rfl
theorem eX5_move_30 : (30, Instr.invokevirtual 301, 3, 16, 1, 378) ∈ kX5_move := List.mem_of_getElem? (i := 18) rfl
theorem eX5_move_33 : (33, Instr.aload_n 2, 1, 0, 0, 0) ∈ kX5_move := List.mem_of_getElem? (i := 19) rfl
theorem eX5_move_34 : (34, Instr.aload_n 1, 1, 0, 0, 0) ∈ kX5_move := List.mem_of_getElem? (i := 20) rfl
theorem eX5_move_35 : (35, Instr.invokevirtual 97, 3, 15, 1, 327) ∈ kX5_move := List.mem_of_getElem? (i := 21) rfl
theorem eX5_move_38 : (38, Instr.return_, 1, 0, 0, 0) ∈ kX5_move := List.mem_of_getElem? (i := 22) rfl
theorem aX5_thingsIn : am_m nX5_thingsIn = mX5_thingsIn := rfl
theorem eX5_thingsIn_0 : (0, Instr.iconst 0, 1, 0, 0, 0) ∈ kX5_thingsIn := List.mem_of_getElem? (i := 0) rfl
theorem eX5_thingsIn_1 : (1, Instr.istore_n 1, 1, 0, 0, 0) ∈ kX5_thingsIn := List.mem_of_getElem? (i := 1) rfl
theorem eX5_thingsIn_2 : (2, Instr.iconst 0, 1, 0, 0, 0) ∈ kX5_thingsIn := List.mem_of_getElem? (i := 2) rfl
theorem eX5_thingsIn_3 : (3, Instr.istore_n 2, 1, 0, 0, 0) ∈ kX5_thingsIn := List.mem_of_getElem? (i := 3) rfl
theorem eX5_thingsIn_4 : (4, Instr.iload_n 2, 1, 0, 0, 0) ∈ kX5_thingsIn := List.mem_of_getElem? (i := 4) rfl
theorem eX5_thingsIn_5 : (5, Instr.aload_n 0, 1, 0, 0, 0) ∈ kX5_thingsIn := List.mem_of_getElem? (i := 5) rfl
theorem eX5_thingsIn_6 : (6, Instr.getfield 76, 3, 5, 1, 81) ∈ kX5_thingsIn := List.mem_of_getElem? (i := 6) rfl
theorem eX5_thingsIn_9 : (9, Instr.if_icmp .ge 27, 3, 36, 0, 0) ∈ kX5_thingsIn := List.mem_of_getElem? (i := 7) rfl
theorem eX5_thingsIn_12 : (12, Instr.aload_n 0, 1, 0, 0, 0) ∈ kX5_thingsIn := List.mem_of_getElem? (i := 8) rfl
theorem eX5_thingsIn_13 : (13, Instr.getfield 11, 3, 5, 0, 80) ∈ kX5_thingsIn := List.mem_of_getElem? (i := 9) rfl
theorem eX5_thingsIn_16 : (16, Instr.iload_n 2, 1, 0, 0, 0) ∈ kX5_thingsIn := List.mem_of_getElem? (i := 10) rfl
theorem eX5_thingsIn_17 : (17, Instr.aaload, 1, 0, 0, 0) ∈ kX5_thingsIn := List.mem_of_getElem? (i := 11) rfl
theorem eX5_thingsIn_18 : (18, Instr.astore_n 3, 1, 0, 0, 0) ∈ kX5_thingsIn := List.mem_of_getElem? (i := 12) rfl
theorem eX5_thingsIn_19 : (19, Instr.aload_n 3, 1, 0, 0, 0) ∈ kX5_thingsIn := List.mem_of_getElem? (i := 13) rfl
theorem eX5_thingsIn_20 : (20, Instr.ifnull 10, 3, 30, 0, 0) ∈ kX5_thingsIn := List.mem_of_getElem? (i := 14) rfl
theorem eX5_thingsIn_23 : (23, Instr.iload_n 1, 1, 0, 0, 0) ∈ kX5_thingsIn := List.mem_of_getElem? (i := 15) rfl
theorem eX5_thingsIn_24 : (24, Instr.aload_n 3, 1, 0, 0, 0) ∈ kX5_thingsIn := List.mem_of_getElem? (i := 16) rfl
theorem eX5_thingsIn_25 : (25, Instr.getfield 238, 3, 3, 6, 207) ∈ kX5_thingsIn := List.mem_of_getElem? (i := 17) rfl
theorem eX5_thingsIn_28 : (28, Instr.iadd, 1, 0, 0, 0) ∈ kX5_thingsIn := List.mem_of_getElem? (i := 18) rfl
theorem eX5_thingsIn_29 : (29, Instr.istore_n 1, 1, 0, 0, 0) ∈ kX5_thingsIn := List.mem_of_getElem? (i := 19) rfl
theorem eX5_thingsIn_30 : (30, Instr.iinc 2 1, 3, 0, 0, 0) ∈ kX5_thingsIn := List.mem_of_getElem? (i := 20) rfl
theorem eX5_thingsIn_33 : (33, Instr.goto (-29), 3, 4, 0, 0) ∈ kX5_thingsIn := List.mem_of_getElem? (i := 21) rfl
theorem eX5_thingsIn_36 : (36, Instr.iload_n 1, 1, 0, 0, 0) ∈ kX5_thingsIn := List.mem_of_getElem? (i := 22) rfl
theorem eX5_thingsIn_37 : (37, Instr.ireturn, 1, 0, 0, 0) ∈ kX5_thingsIn := List.mem_of_getElem? (i := 23) rfl
theorem aX5_coinsKept : am_m nX5_coinsKept = mX5_coinsKept := rfl
theorem eX5_coinsKept_0 : (0, Instr.iconst 0, 1, 0, 0, 0) ∈ kX5_coinsKept := List.mem_of_getElem? (i := 0) rfl
theorem eX5_coinsKept_1 : (1, Instr.istore_n 1, 1, 0, 0, 0) ∈ kX5_coinsKept := List.mem_of_getElem? (i := 1) rfl
theorem eX5_coinsKept_2 : (2, Instr.iconst 0, 1, 0, 0, 0) ∈ kX5_coinsKept := List.mem_of_getElem? (i := 2) rfl
theorem eX5_coinsKept_3 : (3, Instr.istore_n 2, 1, 0, 0, 0) ∈ kX5_coinsKept := List.mem_of_getElem? (i := 3) rfl
theorem eX5_coinsKept_4 : (4, Instr.iload_n 2, 1, 0, 0, 0) ∈ kX5_coinsKept := List.mem_of_getElem? (i := 4) rfl
theorem eX5_coinsKept_5 : (5, Instr.aload_n 0, 1, 0, 0, 0) ∈ kX5_coinsKept := List.mem_of_getElem? (i := 5) rfl
theorem eX5_coinsKept_6 : (6, Instr.getfield 87, 3, 5, 3, 83) ∈ kX5_coinsKept := List.mem_of_getElem? (i := 6) rfl
theorem eX5_coinsKept_9 : (9, Instr.if_icmp .ge 27, 3, 36, 0, 0) ∈ kX5_coinsKept := List.mem_of_getElem? (i := 7) rfl
theorem eX5_coinsKept_12 : (12, Instr.aload_n 0, 1, 0, 0, 0) ∈ kX5_coinsKept := List.mem_of_getElem? (i := 8) rfl
theorem eX5_coinsKept_13 : (13, Instr.getfield 17, 3, 5, 2, 82) ∈ kX5_coinsKept := List.mem_of_getElem? (i := 9) rfl
theorem eX5_coinsKept_16 : (16, Instr.iload_n 2, 1, 0, 0, 0) ∈ kX5_coinsKept := List.mem_of_getElem? (i := 10) rfl
theorem eX5_coinsKept_17 : (17, Instr.aaload, 1, 0, 0, 0) ∈ kX5_coinsKept := List.mem_of_getElem? (i := 11) rfl
theorem eX5_coinsKept_18 : (18, Instr.astore_n 3, 1, 0, 0, 0) ∈ kX5_coinsKept := List.mem_of_getElem? (i := 12) rfl
theorem eX5_coinsKept_19 : (19, Instr.aload_n 3, 1, 0, 0, 0) ∈ kX5_coinsKept := List.mem_of_getElem? (i := 13) rfl
theorem eX5_coinsKept_20 : (20, Instr.ifnull 10, 3, 30, 0, 0) ∈ kX5_coinsKept := List.mem_of_getElem? (i := 14) rfl
theorem eX5_coinsKept_23 : (23, Instr.iload_n 1, 1, 0, 0, 0) ∈ kX5_coinsKept := List.mem_of_getElem? (i := 15) rfl
theorem eX5_coinsKept_24 : (24, Instr.aload_n 3, 1, 0, 0, 0) ∈ kX5_coinsKept := List.mem_of_getElem? (i := 16) rfl
theorem eX5_coinsKept_25 : (25, Instr.getfield 209, 3, 4, 9, 268) ∈ kX5_coinsKept := List.mem_of_getElem? (i := 17) rfl
theorem eX5_coinsKept_28 : (28, Instr.iadd, 1, 0, 0, 0) ∈ kX5_coinsKept := List.mem_of_getElem? (i := 18) rfl
theorem eX5_coinsKept_29 : (29, Instr.istore_n 1, 1, 0, 0, 0) ∈ kX5_coinsKept := List.mem_of_getElem? (i := 19) rfl
theorem eX5_coinsKept_30 : (30, Instr.iinc 2 1, 3, 0, 0, 0) ∈ kX5_coinsKept := List.mem_of_getElem? (i := 20) rfl
theorem eX5_coinsKept_33 : (33, Instr.goto (-29), 3, 4, 0, 0) ∈ kX5_coinsKept := List.mem_of_getElem? (i := 21) rfl
theorem eX5_coinsKept_36 : (36, Instr.iload_n 1, 1, 0, 0, 0) ∈ kX5_coinsKept := List.mem_of_getElem? (i := 22) rfl
theorem eX5_coinsKept_37 : (37, Instr.ireturn, 1, 0, 0, 0) ∈ kX5_coinsKept := List.mem_of_getElem? (i := 23) rfl
theorem aX6_init : am_m nX6_init = mX6_init := rfl
theorem eX6_init_0 : (0, Instr.aload_n 0, 1, 0, 0, 0) ∈ kX6_init := List.mem_of_getElem? (i := 0) rfl
theorem eX6_init_1 : (1, Instr.invokespecial 1, 3, 999, 0, 568) ∈ kX6_init := List.mem_of_getElem? (i := 1) rfl
theorem eX6_init_4 : (4, Instr.aload_n 0, 1, 0, 0, 0) ∈ kX6_init := List.mem_of_getElem? (i := 2) rfl
theorem eX6_init_5 : (5, Instr.sipush 1440, 3, 0, 0, 0) ∈ kX6_init := List.mem_of_getElem? (i := 3) rfl
theorem eX6_init_8 : (8, Instr.putfield 7, 3, 6, 2, 571) ∈ kX6_init := List.mem_of_getElem? (i := 4) rfl
theorem eX6_init_11 : (11, Instr.aload_n 0, 1, 0, 0, 0) ∈ kX6_init := List.mem_of_getElem? (i := 5) rfl
theorem eX6_init_12 : (12, Instr.bipush 12, 2, 0, 0, 0) ∈ kX6_init := List.mem_of_getElem? (i := 6) rfl
theorem eX6_init_14 : (14, Instr.newarray .int, 2, 7, 0, 0) ∈ kX6_init := List.mem_of_getElem? (i := 7) rfl
theorem eX6_init_16 : (16, Instr.putfield 13, 3, 6, 6, 575) ∈ kX6_init := List.mem_of_getElem? (i := 8) rfl
theorem eX6_init_19 : (19, Instr.aload_n 0, 1, 0, 0, 0) ∈ kX6_init := List.mem_of_getElem? (i := 9) rfl
theorem eX6_init_20 : (20, Instr.bipush 12, 2, 0, 0, 0) ∈ kX6_init := List.mem_of_getElem? (i := 10) rfl
theorem eX6_init_22 : (22, Instr.newarray .int, 2, 7, 0, 0) ∈ kX6_init := List.mem_of_getElem? (i := 11) rfl
theorem eX6_init_24 : (24, Instr.putfield 17, 3, 6, 7, 576) ∈ kX6_init := List.mem_of_getElem? (i := 12) rfl
theorem eX6_init_27 : (27, Instr.aload_n 0, 1, 0, 0, 0) ∈ kX6_init := List.mem_of_getElem? (i := 13) rfl
theorem eX6_init_28 : (28, Instr.bipush 12, 2, 0, 0, 0) ∈ kX6_init := List.mem_of_getElem? (i := 14) rfl
theorem eX6_init_30 : (30, Instr.newarray .int, 2, 7, 0, 0) ∈ kX6_init := List.mem_of_getElem? (i := 15) rfl
theorem eX6_init_32 : (32, Instr.putfield 20, 3, 6, 8, 577) ∈ kX6_init := List.mem_of_getElem? (i := 16) rfl
theorem eX6_init_35 : (35, Instr.aload_n 0, 1, 0, 0, 0) ∈ kX6_init := List.mem_of_getElem? (i := 17) rfl
theorem eX6_init_36 : (36, Instr.bipush 12, 2, 0, 0, 0) ∈ kX6_init := List.mem_of_getElem? (i := 18) rfl
theorem eX6_init_38 : (38, Instr.newarray .int, 2, 7, 0, 0) ∈ kX6_init := List.mem_of_getElem? (i := 19) rfl
theorem eX6_init_40 : (40, Instr.putfield 23, 3, 6, 9, 578) ∈ kX6_init := List.mem_of_getElem? (i := 20) rfl
theorem eX6_init_43 : (43, Instr.aload_n 0, 1, 0, 0, 0) ∈ kX6_init := List.mem_of_getElem? (i := 21) rfl
theorem eX6_init_44 : (44, Instr.bipush 12, 2, 0, 0, 0) ∈ kX6_init := List.mem_of_getElem? (i := 22) rfl
theorem eX6_init_46 : (46, Instr.newarray .int, 2, 7, 0, 0) ∈ kX6_init := List.mem_of_getElem? (i := 23) rfl
theorem eX6_init_48 : (48, Instr.putfield 26, 3, 6, 10, 579) ∈ kX6_init := List.mem_of_getElem? (i := 24) rfl
theorem eX6_init_51 : (51, Instr.aload_n 0, 1, 0, 0, 0) ∈ kX6_init := List.mem_of_getElem? (i := 25) rfl
theorem eX6_init_52 : (52, Instr.bipush 16, 2, 0, 0, 0) ∈ kX6_init := List.mem_of_getElem? (i := 26) rfl
theorem eX6_init_54 : (54, Instr.newarray .int, 2, 7, 0, 0) ∈ kX6_init := List.mem_of_getElem? (i := 27) rfl
theorem eX6_init_56 : (56, Instr.putfield 29, 3, 6, 13, 582) ∈ kX6_init := List.mem_of_getElem? (i := 28) rfl
theorem eX6_init_59 : (59, Instr.aload_n 0, 1, 0, 0, 0) ∈ kX6_init := List.mem_of_getElem? (i := 29) rfl
theorem eX6_init_60 : (60, Instr.bipush 16, 2, 0, 0, 0) ∈ kX6_init := List.mem_of_getElem? (i := 30) rfl
theorem eX6_init_62 : (62, Instr.newarray .int, 2, 7, 0, 0) ∈ kX6_init := List.mem_of_getElem? (i := 31) rfl
theorem eX6_init_64 : (64, Instr.putfield 32, 3, 6, 14, 583) ∈ kX6_init := List.mem_of_getElem? (i := 32) rfl
theorem eX6_init_67 : (67, Instr.aload_n 0, 1, 0, 0, 0) ∈ kX6_init := List.mem_of_getElem? (i := 33) rfl
theorem eX6_init_68 : (68, Instr.bipush 16, 2, 0, 0, 0) ∈ kX6_init := List.mem_of_getElem? (i := 34) rfl
theorem eX6_init_70 : (70, Instr.newarray .int, 2, 7, 0, 0) ∈ kX6_init := List.mem_of_getElem? (i := 35) rfl
theorem eX6_init_72 : (72, Instr.putfield 35, 3, 6, 15, 584) ∈ kX6_init := List.mem_of_getElem? (i := 36) rfl
theorem eX6_init_75 : (75, Instr.aload_n 0, 1, 0, 0, 0) ∈ kX6_init := List.mem_of_getElem? (i := 37) rfl
theorem eX6_init_76 : (76, Instr.bipush 16, 2, 0, 0, 0) ∈ kX6_init := List.mem_of_getElem? (i := 38) rfl
theorem eX6_init_78 : (78, Instr.newarray .boolean, 2, 8, 0, 0) ∈ kX6_init := List.mem_of_getElem? (i := 39) rfl
theorem eX6_init_80 : (80, Instr.putfield 38, 3, 6, 16, 585) ∈ kX6_init := List.mem_of_getElem? (i := 40) rfl
theorem eX6_init_83 : (83, Instr.aload_n 0, 1, 0, 0, 0) ∈ kX6_init := List.mem_of_getElem? (i := 41) rfl
theorem eX6_init_84 : (84, Instr.bipush 16, 2, 0, 0, 0) ∈ kX6_init := List.mem_of_getElem? (i := 42) rfl
theorem eX6_init_86 : (86, Instr.newarray .boolean, 2, 8, 0, 0) ∈ kX6_init := List.mem_of_getElem? (i := 43) rfl
theorem eX6_init_88 : (88, Instr.putfield 42, 3, 6, 17, 586) ∈ kX6_init := List.mem_of_getElem? (i := 44) rfl
theorem eX6_init_91 : (91, Instr.aload_n 0, 1, 0, 0, 0) ∈ kX6_init := List.mem_of_getElem? (i := 45) rfl
theorem eX6_init_92 : (92, Instr.bipush 120, 2, 0, 0, 0) ∈ kX6_init := List.mem_of_getElem? (i := 46) rfl
theorem eX6_init_94 : (94, Instr.newarray .int, 2, 7, 0, 0) ∈ kX6_init := List.mem_of_getElem? (i := 47) rfl
theorem eX6_init_96 : (96, Instr.putfield 45, 3, 6, 18, 587) ∈ kX6_init := List.mem_of_getElem? (i := 48) rfl
theorem eX6_init_99 : (99, Instr.aload_n 0, 1, 0, 0, 0) ∈ kX6_init := List.mem_of_getElem? (i := 49) rfl
theorem eX6_init_100 : (100, Instr.bipush 120, 2, 0, 0, 0) ∈ kX6_init := List.mem_of_getElem? (i := 50) rfl
theorem eX6_init_102 : (102, Instr.newarray .int, 2, 7, 0, 0) ∈ kX6_init := List.mem_of_getElem? (i := 51) rfl
theorem eX6_init_104 : (104, Instr.putfield 48, 3, 6, 19, 588) ∈ kX6_init := List.mem_of_getElem? (i := 52) rfl
theorem eX6_init_107 : (107, Instr.aload_n 0, 1, 0, 0, 0) ∈ kX6_init := List.mem_of_getElem? (i := 53) rfl
theorem eX6_init_108 : (108, Instr.bipush 120, 2, 0, 0, 0) ∈ kX6_init := List.mem_of_getElem? (i := 54) rfl
theorem eX6_init_110 : (110, Instr.newarray .int, 2, 7, 0, 0) ∈ kX6_init := List.mem_of_getElem? (i := 55) rfl
theorem eX6_init_112 : (112, Instr.putfield 51, 3, 6, 20, 589) ∈ kX6_init := List.mem_of_getElem? (i := 56) rfl
theorem eX6_init_115 : (115, Instr.aload_n 0, 1, 0, 0, 0) ∈ kX6_init := List.mem_of_getElem? (i := 57) rfl
theorem eX6_init_116 : (116, Instr.bipush 120, 2, 0, 0, 0) ∈ kX6_init := List.mem_of_getElem? (i := 58) rfl
theorem eX6_init_118 : (118, Instr.newarray .int, 2, 7, 0, 0) ∈ kX6_init := List.mem_of_getElem? (i := 59) rfl
theorem eX6_init_120 : (120, Instr.putfield 54, 3, 6, 21, 590) ∈ kX6_init := List.mem_of_getElem? (i := 60) rfl
theorem eX6_init_123 : (123, Instr.aload_n 0, 1, 0, 0, 0) ∈ kX6_init := List.mem_of_getElem? (i := 61) rfl
theorem eX6_init_124 : (124, Instr.bipush 120, 2, 0, 0, 0) ∈ kX6_init := List.mem_of_getElem? (i := 62) rfl
theorem eX6_init_126 : (126, Instr.newarray .int, 2, 7, 0, 0) ∈ kX6_init := List.mem_of_getElem? (i := 63) rfl
theorem eX6_init_128 : (128, Instr.putfield 57, 3, 6, 22, 591) ∈ kX6_init := List.mem_of_getElem? (i := 64) rfl
theorem eX6_init_131 : (131, Instr.aload_n 0, 1, 0, 0, 0) ∈ kX6_init := List.mem_of_getElem? (i := 65) rfl
theorem eX6_init_132 : (132, Instr.bipush 120, 2, 0, 0, 0) ∈ kX6_init := List.mem_of_getElem? (i := 66) rfl
theorem eX6_init_134 : (134, Instr.newarray .int, 2, 7, 0, 0) ∈ kX6_init := List.mem_of_getElem? (i := 67) rfl
theorem eX6_init_136 : (136, Instr.putfield 60, 3, 6, 23, 592) ∈ kX6_init := List.mem_of_getElem? (i := 68) rfl
theorem eX6_init_139 : (139, Instr.aload_n 0, 1, 0, 0, 0) ∈ kX6_init := List.mem_of_getElem? (i := 69) rfl
theorem eX6_init_140 : (140, Instr.bipush 120, 2, 0, 0, 0) ∈ kX6_init := List.mem_of_getElem? (i := 70) rfl
theorem eX6_init_142 : (142, Instr.newarray .int, 2, 7, 0, 0) ∈ kX6_init := List.mem_of_getElem? (i := 71) rfl
theorem eX6_init_144 : (144, Instr.putfield 63, 3, 6, 24, 593) ∈ kX6_init := List.mem_of_getElem? (i := 72) rfl
theorem eX6_init_147 : (147, Instr.aload_n 0, 1, 0, 0, 0) ∈ kX6_init := List.mem_of_getElem? (i := 73) rfl
theorem eX6_init_148 : (148, Instr.bipush 120, 2, 0, 0, 0) ∈ kX6_init := List.mem_of_getElem? (i := 74) rfl
theorem eX6_init_150 : (150, Instr.newarray .int, 2, 7, 0, 0) ∈ kX6_init := List.mem_of_getElem? (i := 75) rfl
theorem eX6_init_152 : (152, Instr.putfield 66, 3, 6, 25, 594) ∈ kX6_init := List.mem_of_getElem? (i := 76) rfl
theorem eX6_init_155 : (155, Instr.aload_n 0, 1, 0, 0, 0) ∈ kX6_init := List.mem_of_getElem? (i := 77) rfl
theorem eX6_init_156 : (156, Instr.bipush 120, 2, 0, 0, 0) ∈ kX6_init := List.mem_of_getElem? (i := 78) rfl
theorem eX6_init_158 : (158, Instr.newarray .int, 2, 7, 0, 0) ∈ kX6_init := List.mem_of_getElem? (i := 79) rfl
theorem eX6_init_160 : (160, Instr.putfield 69, 3, 6, 26, 595) ∈ kX6_init := List.mem_of_getElem? (i := 80) rfl
theorem eX6_init_163 : (163, Instr.aload_n 0, 1, 0, 0, 0) ∈ kX6_init := List.mem_of_getElem? (i := 81) rfl
theorem eX6_init_164 : (164, Instr.bipush 120, 2, 0, 0, 0) ∈ kX6_init := List.mem_of_getElem? (i := 82) rfl
theorem eX6_init_166 : (166, Instr.newarray .boolean, 2, 8, 0, 0) ∈ kX6_init := List.mem_of_getElem? (i := 83) rfl
theorem eX6_init_168 : (168, Instr.putfield 72, 3, 6, 27, 596) ∈ kX6_init := List.mem_of_getElem? (i := 84) rfl
theorem eX6_init_171 : (171, Instr.aload_n 0, 1, 0, 0, 0) ∈ kX6_init := List.mem_of_getElem? (i := 85) rfl
theorem eX6_init_172 : (172, Instr.bipush 120, 2, 0, 0, 0) ∈ kX6_init := List.mem_of_getElem? (i := 86) rfl
theorem eX6_init_174 : (174, Instr.newarray .boolean, 2, 8, 0, 0) ∈ kX6_init := List.mem_of_getElem? (i := 87) rfl
theorem eX6_init_176 : (176, Instr.putfield 75, 3, 6, 28, 597) ∈ kX6_init := List.mem_of_getElem? (i := 88) rfl
theorem eX6_init_179 : (179, Instr.aload_n 0, 1, 0, 0, 0) ∈ kX6_init := List.mem_of_getElem? (i := 89) rfl
theorem eX6_init_180 : (180, Instr.sipush 160, 3, 0, 0, 0) ∈ kX6_init := List.mem_of_getElem? (i := 90) rfl
theorem eX6_init_183 : (183, Instr.newarray .int, 2, 7, 0, 0) ∈ kX6_init := List.mem_of_getElem? (i := 91) rfl
theorem eX6_init_185 : (185, Instr.putfield 78, 3, 6, 30, 599) ∈ kX6_init := List.mem_of_getElem? (i := 92) rfl
theorem eX6_init_188 : (188, Instr.aload_n 0, 1, 0, 0, 0) ∈ kX6_init := List.mem_of_getElem? (i := 93) rfl
theorem eX6_init_189 : (189, Instr.bipush 40, 2, 0, 0, 0) ∈ kX6_init := List.mem_of_getElem? (i := 94) rfl
theorem eX6_init_191 : (191, Instr.newarray .int, 2, 7, 0, 0) ∈ kX6_init := List.mem_of_getElem? (i := 95) rfl
theorem eX6_init_193 : (193, Instr.putfield 81, 3, 6, 31, 600) ∈ kX6_init := List.mem_of_getElem? (i := 96) rfl
theorem eX6_init_196 : (196, Instr.aload_n 0, 1, 0, 0, 0) ∈ kX6_init := List.mem_of_getElem? (i := 97) rfl
theorem eX6_init_197 : (197, Instr.bipush 40, 2, 0, 0, 0) ∈ kX6_init := List.mem_of_getElem? (i := 98) rfl
theorem eX6_init_199 : (199, Instr.newarray .boolean, 2, 8, 0, 0) ∈ kX6_init := List.mem_of_getElem? (i := 99) rfl
theorem eX6_init_201 : (201, Instr.putfield 84, 3, 6, 32, 601) ∈ kX6_init := List.mem_of_getElem? (i := 100) rfl
theorem eX6_init_204 : (204, Instr.aload_n 0, 1, 0, 0, 0) ∈ kX6_init := List.mem_of_getElem? (i := 101) rfl
theorem eX6_init_205 : (205, Instr.bipush 6, 2, 0, 0, 0) ∈ kX6_init := List.mem_of_getElem? (i := 102) rfl
theorem eX6_init_207 : (207, Instr.newarray .int, 2, 7, 0, 0) ∈ kX6_init := List.mem_of_getElem? (i := 103) rfl
theorem eX6_init_209 : (209, Instr.putfield 87, 3, 6, 33, 602) ∈ kX6_init := List.mem_of_getElem? (i := 104) rfl
theorem eX6_init_212 : (212, Instr.aload_n 0, 1, 0, 0, 0) ∈ kX6_init := List.mem_of_getElem? (i := 105) rfl
theorem eX6_init_213 : (213, Instr.bipush 6, 2, 0, 0, 0) ∈ kX6_init := List.mem_of_getElem? (i := 106) rfl
theorem eX6_init_215 : (215, Instr.newarray .int, 2, 7, 0, 0) ∈ kX6_init := List.mem_of_getElem? (i := 107) rfl
theorem eX6_init_217 : (217, Instr.putfield 90, 3, 6, 34, 603) ∈ kX6_init := List.mem_of_getElem? (i := 108) rfl
theorem eX6_init_220 : (220, Instr.aload_n 0, 1, 0, 0, 0) ∈ kX6_init := List.mem_of_getElem? (i := 109) rfl
theorem eX6_init_221 : (221, Instr.bipush 16, 2, 0, 0, 0) ∈ kX6_init := List.mem_of_getElem? (i := 110) rfl
theorem eX6_init_223 : (223, Instr.newarray .int, 2, 7, 0, 0) ∈ kX6_init := List.mem_of_getElem? (i := 111) rfl
theorem eX6_init_225 : (225, Instr.putfield 93, 3, 6, 35, 604) ∈ kX6_init := List.mem_of_getElem? (i := 112) rfl
theorem eX6_init_228 : (228, Instr.return_, 1, 0, 0, 0) ∈ kX6_init := List.mem_of_getElem? (i := 113) rfl
theorem aX6_in : am_m nX6_in = mX6_in := rfl
theorem eX6_in_0 : (0, Instr.iload_n 0, 1, 0, 0, 0) ∈ kX6_in := List.mem_of_getElem? (i := 0) rfl
theorem eX6_in_1 : (1, Instr.iload_n 1, 1, 0, 0, 0) ∈ kX6_in := List.mem_of_getElem? (i := 1) rfl
theorem eX6_in_2 : (2, Instr.if_icmp .lt 12, 3, 14, 0, 0) ∈ kX6_in := List.mem_of_getElem? (i := 2) rfl
theorem eX6_in_5 : (5, Instr.iload_n 0, 1, 0, 0, 0) ∈ kX6_in := List.mem_of_getElem? (i := 3) rfl
theorem eX6_in_6 : (6, Instr.iload_n 2, 1, 0, 0, 0) ∈ kX6_in := List.mem_of_getElem? (i := 4) rfl
theorem eX6_in_7 : (7, Instr.if_icmp .gt 7, 3, 14, 0, 0) ∈ kX6_in := List.mem_of_getElem? (i := 5) rfl
theorem eX6_in_10 : (10, Instr.iconst 1, 1, 0, 0, 0) ∈ kX6_in := List.mem_of_getElem? (i := 6) rfl
theorem eX6_in_11 : (11, Instr.goto 4, 3, 15, 0, 0) ∈ kX6_in := List.mem_of_getElem? (i := 7) rfl
theorem eX6_in_14 : (14, Instr.iconst 0, 1, 0, 0, 0) ∈ kX6_in := List.mem_of_getElem? (i := 8) rfl
theorem eX6_in_15 : (15, Instr.ireturn, 1, 1, 0, 0) ∈ kX6_in := List.mem_of_getElem? (i := 9) rfl
theorem aX6_gap : am_m nX6_gap = mX6_gap := rfl
theorem eX6_gap_0 : (0, Instr.iload_n 0, 1, 0, 0, 0) ∈ kX6_gap := List.mem_of_getElem? (i := 0) rfl
theorem eX6_gap_1 : (1, Instr.iload_n 1, 1, 0, 0, 0) ∈ kX6_gap := List.mem_of_getElem? (i := 1) rfl
theorem eX6_gap_2 : (2, Instr.if_icmp .le 9, 3, 11, 0, 0) ∈ kX6_gap := List.mem_of_getElem? (i := 2) rfl
theorem eX6_gap_5 : (5, Instr.iload_n 0, 1, 0, 0, 0) ∈ kX6_gap := List.mem_of_getElem? (i := 3) rfl
theorem eX6_gap_6 : (6, Instr.iload_n 1, 1, 0, 0, 0) ∈ kX6_gap := List.mem_of_getElem? (i := 4) rfl
theorem eX6_gap_7 : (7, Instr.isub, 1, 0, 0, 0) ∈ kX6_gap := List.mem_of_getElem? (i := 5) rfl
theorem eX6_gap_8 : (8, Instr.goto 6, 3, 14, 0, 0) ∈ kX6_gap := List.mem_of_getElem? (i := 6) rfl
theorem eX6_gap_11 : (11, Instr.iload_n 1, 1, 0, 0, 0) ∈ kX6_gap := List.mem_of_getElem? (i := 7) rfl
theorem eX6_gap_12 : (12, Instr.iload_n 0, 1, 0, 0, 0) ∈ kX6_gap := List.mem_of_getElem? (i := 8) rfl
theorem eX6_gap_13 : (13, Instr.isub, 1, 0, 0, 0) ∈ kX6_gap := List.mem_of_getElem? (i := 9) rfl
theorem eX6_gap_14 : (14, Instr.ireturn, 1, 0, 0, 0) ∈ kX6_gap := List.mem_of_getElem? (i := 10) rfl
theorem aX6_isOpen : am_m nX6_isOpen = mX6_isOpen := rfl
theorem eX6_isOpen_0 : (0, Instr.aload_n 0, 1, 0, 0, 0) ∈ kX6_isOpen := List.mem_of_getElem? (i := 0) rfl
theorem eX6_isOpen_1 : (1, Instr.getfield 96, 3, 6, 0, 569) ∈ kX6_isOpen := List.mem_of_getElem? (i := 1) rfl
theorem eX6_isOpen_4 : (4, Instr.sipush 1440, 3, 0, 0, 0) ∈ kX6_isOpen := List.mem_of_getElem? (i := 2) rfl
theorem eX6_isOpen_7 : (7, Instr.irem, 1, 0, 0, 0) ∈ kX6_isOpen := List.mem_of_getElem? (i := 3) rfl
theorem eX6_isOpen_8 : (8, Instr.aload_n 0, 1, 0, 0, 0) ∈ kX6_isOpen := List.mem_of_getElem? (i := 4) rfl
theorem eX6_isOpen_9 : (9, Instr.getfield 99, 3, 6, 1, 570) ∈ kX6_isOpen := List.mem_of_getElem? (i := 5) rfl
theorem eX6_isOpen_12 : (12, Instr.if_icmp .lt 22, 3, 34, 0, 0) ∈ kX6_isOpen := List.mem_of_getElem? (i := 6) rfl
theorem eX6_isOpen_15 : (15, Instr.aload_n 0, 1, 0, 0, 0) ∈ kX6_isOpen := List.mem_of_getElem? (i := 7) rfl
theorem eX6_isOpen_16 : (16, Instr.getfield 96, 3, 6, 0, 569) ∈ kX6_isOpen := List.mem_of_getElem? (i := 8) rfl
theorem eX6_isOpen_19 : (19, Instr.sipush 1440, 3, 0, 0, 0) ∈ kX6_isOpen := List.mem_of_getElem? (i := 9) rfl
theorem eX6_isOpen_22 : (22, Instr.irem, 1, 0, 0, 0) ∈ kX6_isOpen := List.mem_of_getElem? (i := 10) rfl
theorem eX6_isOpen_23 : (23, Instr.aload_n 0, 1, 0, 0, 0) ∈ kX6_isOpen := List.mem_of_getElem? (i := 11) rfl
theorem eX6_isOpen_24 : (24, Instr.getfield 7, 3, 6, 2, 571) ∈ kX6_isOpen := List.mem_of_getElem? (i := 12) rfl
theorem eX6_isOpen_27 : (27, Instr.if_icmp .ge 7, 3, 34, 0, 0) ∈ kX6_isOpen := List.mem_of_getElem? (i := 13) rfl
theorem eX6_isOpen_30 : (30, Instr.iconst 1, 1, 0, 0, 0) ∈ kX6_isOpen := List.mem_of_getElem? (i := 14) rfl
theorem eX6_isOpen_31 : (31, Instr.goto 4, 3, 35, 0, 0) ∈ kX6_isOpen := List.mem_of_getElem? (i := 15) rfl
theorem eX6_isOpen_34 : (34, Instr.iconst 0, 1, 0, 0, 0) ∈ kX6_isOpen := List.mem_of_getElem? (i := 16) rfl
theorem eX6_isOpen_35 : (35, Instr.ireturn, 1, 1, 0, 0) ∈ kX6_isOpen := List.mem_of_getElem? (i := 17) rfl
theorem aX6_hours : am_m nX6_hours = mX6_hours := rfl
theorem eX6_hours_0 : (0, Instr.iload_n 1, 1, 0, 0, 0) ∈ kX6_hours := List.mem_of_getElem? (i := 0) rfl
theorem eX6_hours_1 : (1, Instr.iconst 0, 1, 0, 0, 0) ∈ kX6_hours := List.mem_of_getElem? (i := 1) rfl
theorem eX6_hours_2 : (2, Instr.sipush 1440, 3, 0, 0, 0) ∈ kX6_hours := List.mem_of_getElem? (i := 2) rfl
theorem eX6_hours_5 : (5, Instr.invokestatic 102, 3, 78, 3, 683) ∈ kX6_hours := List.mem_of_getElem? (i := 3) rfl
theorem eX6_hours_8 : (8, Instr.ifCond .eq 19, 3, 27, 0, 0) ∈ kX6_hours := List.mem_of_getElem? (i := 4) rfl
theorem eX6_hours_11 : (11, Instr.iload_n 2, 1, 0, 0, 0) ∈ kX6_hours := List.mem_of_getElem? (i := 5) rfl
theorem eX6_hours_12 : (12, Instr.iconst 0, 1, 0, 0, 0) ∈ kX6_hours := List.mem_of_getElem? (i := 6) rfl
theorem eX6_hours_13 : (13, Instr.sipush 1440, 3, 0, 0, 0) ∈ kX6_hours := List.mem_of_getElem? (i := 7) rfl
theorem eX6_hours_16 : (16, Instr.invokestatic 102, 3, 78, 3, 683) ∈ kX6_hours := List.mem_of_getElem? (i := 8) rfl
theorem eX6_hours_19 : (19, Instr.ifCond .eq 8, 3, 27, 0, 0) ∈ kX6_hours := List.mem_of_getElem? (i := 9) rfl
theorem eX6_hours_22 : (22, Instr.iload_n 1, 1, 0, 0, 0) ∈ kX6_hours := List.mem_of_getElem? (i := 10) rfl
theorem eX6_hours_23 : (23, Instr.iload_n 2, 1, 0, 0, 0) ∈ kX6_hours := List.mem_of_getElem? (i := 11) rfl
theorem eX6_hours_24 : (24, Instr.if_icmp .lt 5, 3, 29, 0, 0) ∈ kX6_hours := List.mem_of_getElem? (i := 12) rfl
theorem eX6_hours_27 : (27, Instr.iconst 0, 1, 0, 0, 0) ∈ kX6_hours := List.mem_of_getElem? (i := 13) rfl
theorem eX6_hours_28 : (28, Instr.ireturn, 1, 1, 0, 0) ∈ kX6_hours := List.mem_of_getElem? (i := 14) rfl
theorem eX6_hours_29 : (29, Instr.aload_n 0, 1, 0, 0, 0) ∈ kX6_hours := List.mem_of_getElem? (i := 15) rfl
theorem eX6_hours_30 : (30, Instr.iload_n 1, 1, 0, 0, 0) ∈ kX6_hours := List.mem_of_getElem? (i := 16) rfl
theorem eX6_hours_31 : (31, Instr.putfield 99, 3, 6, 1, 570) ∈ kX6_hours := List.mem_of_getElem? (i := 17) rfl
theorem eX6_hours_34 : (34, Instr.aload_n 0, 1, 0, 0, 0) ∈ kX6_hours := List.mem_of_getElem? (i := 18) rfl
theorem eX6_hours_35 : (35, Instr.iload_n 2, 1, 0, 0, 0) ∈ kX6_hours := List.mem_of_getElem? (i := 19) rfl
theorem eX6_hours_36 : (36, Instr.putfield 7, 3, 6, 2, 571) ∈ kX6_hours := List.mem_of_getElem? (i := 20) rfl
theorem eX6_hours_39 : (39, Instr.iconst 1, 1, 0, 0, 0) ∈ kX6_hours := List.mem_of_getElem? (i := 21) rfl
theorem eX6_hours_40 : (40, Instr.ireturn, 1, 1, 0, 0) ∈ kX6_hours := List.mem_of_getElem? (i := 22) rfl
theorem aX6_clock : am_m nX6_clock = mX6_clock := rfl
theorem eX6_clock_0 : (0, Instr.iload_n 1, 1, 0, 0, 0) ∈ kX6_clock := List.mem_of_getElem? (i := 0) rfl
theorem eX6_clock_1 : (1, Instr.iconst 1, 1, 0, 0, 0) ∈ kX6_clock := List.mem_of_getElem? (i := 1) rfl
theorem eX6_clock_2 : (2, Instr.if_icmp .lt 14, 3, 16, 0, 0) ∈ kX6_clock := List.mem_of_getElem? (i := 2) rfl
theorem eX6_clock_5 : (5, Instr.iload_n 1, 1, 0, 0, 0) ∈ kX6_clock := List.mem_of_getElem? (i := 3) rfl
theorem eX6_clock_6 : (6, Instr.ldc 106, 2, 100000, 0, 690) ∈ kX6_clock := List.mem_of_getElem? (i := 4) rfl
theorem eX6_clock_8 : (8, Instr.aload_n 0, 1, 0, 0, 0) ∈ kX6_clock := List.mem_of_getElem? (i := 5) rfl
theorem eX6_clock_9 : (9, Instr.getfield 96, 3, 6, 0, 569) ∈ kX6_clock := List.mem_of_getElem? (i := 6) rfl
theorem eX6_clock_12 : (12, Instr.isub, 1, 0, 0, 0) ∈ kX6_clock := List.mem_of_getElem? (i := 7) rfl
theorem eX6_clock_13 : (13, Instr.if_icmp .le 5, 3, 18, 0, 0) ∈ kX6_clock := List.mem_of_getElem? (i := 8) rfl
theorem eX6_clock_16 : (16, Instr.iconst (-1), 1, 0, 0, 0) ∈ kX6_clock := List.mem_of_getElem? (i := 9) rfl
theorem eX6_clock_17 : (17, Instr.ireturn, 1, 0, 0, 0) ∈ kX6_clock := List.mem_of_getElem? (i := 10) rfl
theorem eX6_clock_18 : (18, Instr.aload_n 0, 1, 0, 0, 0) ∈ kX6_clock := List.mem_of_getElem? (i := 11) rfl
theorem eX6_clock_19 : (19, Instr.dup, 1, 0, 0, 0) ∈ kX6_clock := List.mem_of_getElem? (i := 12) rfl
theorem eX6_clock_20 : (20, Instr.getfield 96, 3, 6, 0, 569) ∈ kX6_clock := List.mem_of_getElem? (i := 13) rfl
theorem eX6_clock_23 : (23, Instr.iload_n 1, 1, 0, 0, 0) ∈ kX6_clock := List.mem_of_getElem? (i := 14) rfl
theorem eX6_clock_24 : (24, Instr.iadd, 1, 0, 0, 0) ∈ kX6_clock := List.mem_of_getElem? (i := 15) rfl
theorem eX6_clock_25 : (25, Instr.putfield 96, 3, 6, 0, 569) ∈ kX6_clock := List.mem_of_getElem? (i := 16) rfl
theorem eX6_clock_28 : (28, Instr.iconst 0, 1, 0, 0, 0) ∈ kX6_clock := List.mem_of_getElem? (i := 17) rfl
theorem eX6_clock_29 : (29, Instr.istore_n 2, 1, 0, 0, 0) ∈ kX6_clock := List.mem_of_getElem? (i := 18) rfl
theorem eX6_clock_30 : (30, Instr.iload_n 2, 1, 0, 0, 0) ∈ kX6_clock := List.mem_of_getElem? (i := 19) rfl
theorem eX6_clock_31 : (31, Instr.aload_n 0, 1, 0, 0, 0) ∈ kX6_clock := List.mem_of_getElem? (i := 20) rfl
theorem eX6_clock_32 : (32, Instr.getfield 107, 3, 6, 12, 581) ∈ kX6_clock := List.mem_of_getElem? (i := 21) rfl
theorem eX6_clock_35 : (35, Instr.if_icmp .ge 71, 3, 106, 0, 0) ∈ kX6_clock := List.mem_of_getElem? (i := 22) rfl
theorem eX6_clock_38 : (38, Instr.aload_n 0, 1, 0, 0, 0) ∈ kX6_clock := List.mem_of_getElem? (i := 23) rfl
theorem eX6_clock_39 : (39, Instr.getfield 60, 3, 6, 23, 592) ∈ kX6_clock := List.mem_of_getElem? (i := 24) rfl
theorem eX6_clock_42 : (42, Instr.iload_n 2, 1, 0, 0, 0) ∈ kX6_clock := List.mem_of_getElem? (i := 25) rfl
theorem eX6_clock_43 : (43, Instr.iaload, 1, 0, 0, 0) ∈ kX6_clock := List.mem_of_getElem? (i := 26) rfl
theorem eX6_clock_44 : (44, Instr.iconst 2, 1, 0, 0, 0) ∈ kX6_clock := List.mem_of_getElem? (i := 27) rfl
theorem eX6_clock_45 : (45, Instr.if_icmp .ne 55, 3, 100, 0, 0) ∈ kX6_clock := List.mem_of_getElem? (i := 28) rfl
theorem eX6_clock_48 : (48, Instr.aload_n 0, 1, 0, 0, 0) ∈ kX6_clock := List.mem_of_getElem? (i := 29) rfl
theorem eX6_clock_49 : (49, Instr.getfield 96, 3, 6, 0, 569) ∈ kX6_clock := List.mem_of_getElem? (i := 30) rfl
theorem eX6_clock_52 : (52, Instr.sipush 1440, 3, 0, 0, 0) ∈ kX6_clock := List.mem_of_getElem? (i := 31) rfl
theorem eX6_clock_55 : (55, Instr.idiv, 1, 0, 0, 0) ∈ kX6_clock := List.mem_of_getElem? (i := 32) rfl
theorem eX6_clock_56 : (56, Instr.aload_n 0, 1, 0, 0, 0) ∈ kX6_clock := List.mem_of_getElem? (i := 33) rfl
theorem eX6_clock_57 : (57, Instr.getfield 69, 3, 6, 26, 595) ∈ kX6_clock := List.mem_of_getElem? (i := 34) rfl
theorem eX6_clock_60 : (60, Instr.iload_n 2, 1, 0, 0, 0) ∈ kX6_clock := List.mem_of_getElem? (i := 35) rfl
theorem eX6_clock_61 : (61, Instr.iaload, 1, 0, 0, 0) ∈ kX6_clock := List.mem_of_getElem? (i := 36) rfl
theorem eX6_clock_62 : (62, Instr.isub, 1, 0, 0, 0) ∈ kX6_clock := List.mem_of_getElem? (i := 37) rfl
theorem eX6_clock_63 : (63, Instr.bipush 30, 2, 0, 0, 0) ∈ kX6_clock := List.mem_of_getElem? (i := 38) rfl
theorem eX6_clock_65 : (65, Instr.if_icmp .gt 6, 3, 71, 0, 0) ∈ kX6_clock := List.mem_of_getElem? (i := 39) rfl
theorem eX6_clock_68 : (68, Instr.goto 32, 3, 100, 0, 0) ∈ kX6_clock := List.mem_of_getElem? (i := 40) rfl
theorem eX6_clock_71 : (71, Instr.aload_n 0, 1, 0, 0, 0) ∈ kX6_clock := List.mem_of_getElem? (i := 41) rfl
theorem eX6_clock_72 : (72, Instr.getfield 60, 3, 6, 23, 592) ∈ kX6_clock := List.mem_of_getElem? (i := 42) rfl
theorem eX6_clock_75 : (75, Instr.iload_n 2, 1, 0, 0, 0) ∈ kX6_clock := List.mem_of_getElem? (i := 43) rfl
theorem eX6_clock_76 : (76, Instr.iconst 4, 1, 0, 0, 0) ∈ kX6_clock := List.mem_of_getElem? (i := 44) rfl
theorem eX6_clock_77 : (77, Instr.iastore, 1, 0, 0, 0) ∈ kX6_clock := List.mem_of_getElem? (i := 45) rfl
theorem eX6_clock_78 : (78, Instr.aload_n 0, 1, 0, 0, 0) ∈ kX6_clock := List.mem_of_getElem? (i := 46) rfl
theorem eX6_clock_79 : (79, Instr.dup, 1, 0, 0, 0) ∈ kX6_clock := List.mem_of_getElem? (i := 47) rfl
theorem eX6_clock_80 : (80, Instr.getfield 110, 3, 6, 3, 572) ∈ kX6_clock := List.mem_of_getElem? (i := 48) rfl
theorem eX6_clock_83 : (83, Instr.aload_n 0, 1, 0, 0, 0) ∈ kX6_clock := List.mem_of_getElem? (i := 49) rfl
theorem eX6_clock_84 : (84, Instr.getfield 66, 3, 6, 25, 594) ∈ kX6_clock := List.mem_of_getElem? (i := 50) rfl
theorem eX6_clock_87 : (87, Instr.iload_n 2, 1, 0, 0, 0) ∈ kX6_clock := List.mem_of_getElem? (i := 51) rfl
theorem eX6_clock_88 : (88, Instr.iaload, 1, 0, 0, 0) ∈ kX6_clock := List.mem_of_getElem? (i := 52) rfl
theorem eX6_clock_89 : (89, Instr.iadd, 1, 0, 0, 0) ∈ kX6_clock := List.mem_of_getElem? (i := 53) rfl
theorem eX6_clock_90 : (90, Instr.putfield 110, 3, 6, 3, 572) ∈ kX6_clock := List.mem_of_getElem? (i := 54) rfl
theorem eX6_clock_93 : (93, Instr.aload_n 0, 1, 0, 0, 0) ∈ kX6_clock := List.mem_of_getElem? (i := 55) rfl
theorem eX6_clock_94 : (94, Instr.getfield 66, 3, 6, 25, 594) ∈ kX6_clock := List.mem_of_getElem? (i := 56) rfl
theorem eX6_clock_97 : (97, Instr.iload_n 2, 1, 0, 0, 0) ∈ kX6_clock := List.mem_of_getElem? (i := 57) rfl
theorem eX6_clock_98 : (98, Instr.iconst 0, 1, 0, 0, 0) ∈ kX6_clock := List.mem_of_getElem? (i := 58) rfl
theorem eX6_clock_99 : (99, Instr.iastore, 1, 0, 0, 0) ∈ kX6_clock := List.mem_of_getElem? (i := 59) rfl
theorem eX6_clock_100 : (100, Instr.iinc 2 1, 3, 0, 0, 0) ∈ kX6_clock := List.mem_of_getElem? (i := 60) rfl
theorem eX6_clock_103 : (103, Instr.goto (-73), 3, 30, 0, 0) ∈ kX6_clock := List.mem_of_getElem? (i := 61) rfl
theorem eX6_clock_106 : (106, Instr.aload_n 0, 1, 0, 0, 0) ∈ kX6_clock := List.mem_of_getElem? (i := 62) rfl
theorem eX6_clock_107 : (107, Instr.getfield 96, 3, 6, 0, 569) ∈ kX6_clock := List.mem_of_getElem? (i := 63) rfl
theorem eX6_clock_110 : (110, Instr.ireturn, 1, 0, 0, 0) ∈ kX6_clock := List.mem_of_getElem? (i := 64) rfl
theorem aX6_prices : am_m nX6_prices = mX6_prices := rfl
theorem eX6_prices_0 : (0, Instr.iload_n 1, 1, 0, 0, 0) ∈ kX6_prices := List.mem_of_getElem? (i := 0) rfl
theorem eX6_prices_1 : (1, Instr.ifCond .lt 80, 3, 81, 0, 0) ∈ kX6_prices := List.mem_of_getElem? (i := 1) rfl
theorem eX6_prices_4 : (4, Instr.aload_n 0, 1, 0, 0, 0) ∈ kX6_prices := List.mem_of_getElem? (i := 2) rfl
theorem eX6_prices_5 : (5, Instr.getfield 113, 3, 6, 5, 574) ∈ kX6_prices := List.mem_of_getElem? (i := 3) rfl
theorem eX6_prices_8 : (8, Instr.bipush 12, 2, 0, 0, 0) ∈ kX6_prices := List.mem_of_getElem? (i := 4) rfl
theorem eX6_prices_10 : (10, Instr.if_icmp .eq 71, 3, 81, 0, 0) ∈ kX6_prices := List.mem_of_getElem? (i := 5) rfl
theorem eX6_prices_13 : (13, Instr.aload_n 0, 1, 0, 0, 0) ∈ kX6_prices := List.mem_of_getElem? (i := 6) rfl
theorem eX6_prices_14 : (14, Instr.getfield 113, 3, 6, 5, 574) ∈ kX6_prices := List.mem_of_getElem? (i := 7) rfl
theorem eX6_prices_17 : (17, Instr.ifCond .le 18, 3, 35, 0, 0) ∈ kX6_prices := List.mem_of_getElem? (i := 8) rfl
theorem eX6_prices_20 : (20, Instr.iload_n 1, 1, 0, 0, 0) ∈ kX6_prices := List.mem_of_getElem? (i := 9) rfl
theorem eX6_prices_21 : (21, Instr.aload_n 0, 1, 0, 0, 0) ∈ kX6_prices := List.mem_of_getElem? (i := 10) rfl
theorem eX6_prices_22 : (22, Instr.getfield 13, 3, 6, 6, 575) ∈ kX6_prices := List.mem_of_getElem? (i := 11) rfl
theorem eX6_prices_25 : (25, Instr.aload_n 0, 1, 0, 0, 0) ∈ kX6_prices := List.mem_of_getElem? (i := 12) rfl
theorem eX6_prices_26 : (26, Instr.getfield 113, 3, 6, 5, 574) ∈ kX6_prices := List.mem_of_getElem? (i := 13) rfl
theorem eX6_prices_29 : (29, Instr.iconst 1, 1, 0, 0, 0) ∈ kX6_prices := List.mem_of_getElem? (i := 14) rfl
theorem eX6_prices_30 : (30, Instr.isub, 1, 0, 0, 0) ∈ kX6_prices := List.mem_of_getElem? (i := 15) rfl
theorem eX6_prices_31 : (31, Instr.iaload, 1, 0, 0, 0) ∈ kX6_prices := List.mem_of_getElem? (i := 16) rfl
theorem eX6_prices_32 : (32, Instr.if_icmp .le 49, 3, 81, 0, 0) ∈ kX6_prices := List.mem_of_getElem? (i := 17) rfl
theorem eX6_prices_35 : (35, Instr.iload_n 2, 1, 0, 0, 0) ∈ kX6_prices := List.mem_of_getElem? (i := 18) rfl
theorem eX6_prices_36 : (36, Instr.iconst 0, 1, 0, 0, 0) ∈ kX6_prices := List.mem_of_getElem? (i := 19) rfl
theorem eX6_prices_37 : (37, Instr.sipush 1000, 3, 0, 0, 0) ∈ kX6_prices := List.mem_of_getElem? (i := 20) rfl
theorem eX6_prices_40 : (40, Instr.invokestatic 102, 3, 78, 3, 683) ∈ kX6_prices := List.mem_of_getElem? (i := 21) rfl
theorem eX6_prices_43 : (43, Instr.ifCond .eq 38, 3, 81, 0, 0) ∈ kX6_prices := List.mem_of_getElem? (i := 22) rfl
theorem eX6_prices_46 : (46, Instr.iload_n 3, 1, 0, 0, 0) ∈ kX6_prices := List.mem_of_getElem? (i := 23) rfl
theorem eX6_prices_47 : (47, Instr.iconst 0, 1, 0, 0, 0) ∈ kX6_prices := List.mem_of_getElem? (i := 24) rfl
theorem eX6_prices_48 : (48, Instr.sipush 1000, 3, 0, 0, 0) ∈ kX6_prices := List.mem_of_getElem? (i := 25) rfl
theorem eX6_prices_51 : (51, Instr.invokestatic 102, 3, 78, 3, 683) ∈ kX6_prices := List.mem_of_getElem? (i := 26) rfl
theorem eX6_prices_54 : (54, Instr.ifCond .eq 27, 3, 81, 0, 0) ∈ kX6_prices := List.mem_of_getElem? (i := 27) rfl
theorem eX6_prices_57 : (57, Instr.iload 4, 2, 0, 0, 0) ∈ kX6_prices := List.mem_of_getElem? (i := 28) rfl
theorem eX6_prices_59 : (59, Instr.iconst 0, 1, 0, 0, 0) ∈ kX6_prices := List.mem_of_getElem? (i := 29) rfl
theorem eX6_prices_60 : (60, Instr.sipush 1000, 3, 0, 0, 0) ∈ kX6_prices := List.mem_of_getElem? (i := 30) rfl
theorem eX6_prices_63 : (63, Instr.invokestatic 102, 3, 78, 3, 683) ∈ kX6_prices := List.mem_of_getElem? (i := 31) rfl
theorem eX6_prices_66 : (66, Instr.ifCond .eq 15, 3, 81, 0, 0) ∈ kX6_prices := List.mem_of_getElem? (i := 32) rfl
theorem eX6_prices_69 : (69, Instr.iload 5, 2, 0, 0, 0) ∈ kX6_prices := List.mem_of_getElem? (i := 33) rfl
theorem eX6_prices_71 : (71, Instr.iconst 0, 1, 0, 0, 0) ∈ kX6_prices := List.mem_of_getElem? (i := 34) rfl
theorem eX6_prices_72 : (72, Instr.sipush 1000, 3, 0, 0, 0) ∈ kX6_prices := List.mem_of_getElem? (i := 35) rfl
theorem eX6_prices_75 : (75, Instr.invokestatic 102, 3, 78, 3, 683) ∈ kX6_prices := List.mem_of_getElem? (i := 36) rfl
theorem eX6_prices_78 : (78, Instr.ifCond .ne 5, 3, 83, 0, 0) ∈ kX6_prices := List.mem_of_getElem? (i := 37) rfl
theorem eX6_prices_81 : (81, Instr.iconst 0, 1, 0, 0, 0) ∈ kX6_prices := List.mem_of_getElem? (i := 38) rfl
theorem eX6_prices_82 : (82, Instr.ireturn, 1, 1, 0, 0) ∈ kX6_prices := List.mem_of_getElem? (i := 39) rfl
theorem eX6_prices_83 : (83, Instr.aload_n 0, 1, 0, 0, 0) ∈ kX6_prices := List.mem_of_getElem? (i := 40) rfl
theorem eX6_prices_84 : (84, Instr.getfield 13, 3, 6, 6, 575) ∈ kX6_prices := List.mem_of_getElem? (i := 41) rfl
theorem eX6_prices_87 : (87, Instr.aload_n 0, 1, 0, 0, 0) ∈ kX6_prices := List.mem_of_getElem? (i := 42) rfl
theorem eX6_prices_88 : (88, Instr.getfield 113, 3, 6, 5, 574) ∈ kX6_prices := List.mem_of_getElem? (i := 43) rfl
theorem eX6_prices_91 : (91, Instr.iload_n 1, 1, 0, 0, 0) ∈ kX6_prices := List.mem_of_getElem? (i := 44) rfl
theorem eX6_prices_92 : (92, Instr.iastore, 1, 0, 0, 0) ∈ kX6_prices := List.mem_of_getElem? (i := 45) rfl
theorem eX6_prices_93 : (93, Instr.aload_n 0, 1, 0, 0, 0) ∈ kX6_prices := List.mem_of_getElem? (i := 46) rfl
theorem eX6_prices_94 : (94, Instr.getfield 17, 3, 6, 7, 576) ∈ kX6_prices := List.mem_of_getElem? (i := 47) rfl
theorem eX6_prices_97 : (97, Instr.aload_n 0, 1, 0, 0, 0) ∈ kX6_prices := List.mem_of_getElem? (i := 48) rfl
theorem eX6_prices_98 : (98, Instr.getfield 113, 3, 6, 5, 574) ∈ kX6_prices := List.mem_of_getElem? (i := 49) rfl
theorem eX6_prices_101 : (101, Instr.iload_n 2, 1, 0, 0, 0) ∈ kX6_prices := List.mem_of_getElem? (i := 50) rfl
theorem eX6_prices_102 : (102, Instr.iastore, 1, 0, 0, 0) ∈ kX6_prices := List.mem_of_getElem? (i := 51) rfl
theorem eX6_prices_103 : (103, Instr.aload_n 0, 1, 0, 0, 0) ∈ kX6_prices := List.mem_of_getElem? (i := 52) rfl
theorem eX6_prices_104 : (104, Instr.getfield 20, 3, 6, 8, 577) ∈ kX6_prices := List.mem_of_getElem? (i := 53) rfl
theorem eX6_prices_107 : (107, Instr.aload_n 0, 1, 0, 0, 0) ∈ kX6_prices := List.mem_of_getElem? (i := 54) rfl
theorem eX6_prices_108 : (108, Instr.getfield 113, 3, 6, 5, 574) ∈ kX6_prices := List.mem_of_getElem? (i := 55) rfl
theorem eX6_prices_111 : (111, Instr.iload_n 3, 1, 0, 0, 0) ∈ kX6_prices := List.mem_of_getElem? (i := 56) rfl
theorem eX6_prices_112 : (112, Instr.iastore, 1, 0, 0, 0) ∈ kX6_prices := List.mem_of_getElem? (i := 57) rfl
theorem eX6_prices_113 : (113, Instr.aload_n 0, 1, 0, 0, 0) ∈ kX6_prices := List.mem_of_getElem? (i := 58) rfl
theorem eX6_prices_114 : (114, Instr.getfield 23, 3, 6, 9, 578) ∈ kX6_prices := List.mem_of_getElem? (i := 59) rfl
theorem eX6_prices_117 : (117, Instr.aload_n 0, 1, 0, 0, 0) ∈ kX6_prices := List.mem_of_getElem? (i := 60) rfl
theorem eX6_prices_118 : (118, Instr.getfield 113, 3, 6, 5, 574) ∈ kX6_prices := List.mem_of_getElem? (i := 61) rfl
theorem eX6_prices_121 : (121, Instr.iload 4, 2, 0, 0, 0) ∈ kX6_prices := List.mem_of_getElem? (i := 62) rfl
theorem eX6_prices_123 : (123, Instr.iastore, 1, 0, 0, 0) ∈ kX6_prices := List.mem_of_getElem? (i := 63) rfl
theorem eX6_prices_124 : (124, Instr.aload_n 0, 1, 0, 0, 0) ∈ kX6_prices := List.mem_of_getElem? (i := 64) rfl
theorem eX6_prices_125 : (125, Instr.getfield 26, 3, 6, 10, 579) ∈ kX6_prices := List.mem_of_getElem? (i := 65) rfl
theorem eX6_prices_128 : (128, Instr.aload_n 0, 1, 0, 0, 0) ∈ kX6_prices := List.mem_of_getElem? (i := 66) rfl
theorem eX6_prices_129 : (129, Instr.getfield 113, 3, 6, 5, 574) ∈ kX6_prices := List.mem_of_getElem? (i := 67) rfl
theorem eX6_prices_132 : (132, Instr.iload 5, 2, 0, 0, 0) ∈ kX6_prices := List.mem_of_getElem? (i := 68) rfl
theorem eX6_prices_134 : (134, Instr.iastore, 1, 0, 0, 0) ∈ kX6_prices := List.mem_of_getElem? (i := 69) rfl
theorem eX6_prices_135 : (135, Instr.aload_n 0, 1, 0, 0, 0) ∈ kX6_prices := List.mem_of_getElem? (i := 70) rfl
theorem eX6_prices_136 : (136, Instr.dup, 1, 0, 0, 0) ∈ kX6_prices := List.mem_of_getElem? (i := 71) rfl
theorem eX6_prices_137 : (137, Instr.getfield 113, 3, 6, 5, 574) ∈ kX6_prices := List.mem_of_getElem? (i := 72) rfl
theorem eX6_prices_140 : (140, Instr.iconst 1, 1, 0, 0, 0) ∈ kX6_prices := List.mem_of_getElem? (i := 73) rfl
theorem eX6_prices_141 : (141, Instr.iadd, 1, 0, 0, 0) ∈ kX6_prices := List.mem_of_getElem? (i := 74) rfl
theorem eX6_prices_142 : (142, Instr.putfield 113, 3, 6, 5, 574) ∈ kX6_prices := List.mem_of_getElem? (i := 75) rfl
theorem eX6_prices_145 : (145, Instr.iconst 1, 1, 0, 0, 0) ∈ kX6_prices := List.mem_of_getElem? (i := 76) rfl
theorem eX6_prices_146 : (146, Instr.ireturn, 1, 1, 0, 0) ∈ kX6_prices := List.mem_of_getElem? (i := 77) rfl
theorem aX6_rowOf : am_m nX6_rowOf = mX6_rowOf := rfl
theorem eX6_rowOf_0 : (0, Instr.iconst (-1), 1, 0, 0, 0) ∈ kX6_rowOf := List.mem_of_getElem? (i := 0) rfl
theorem eX6_rowOf_1 : (1, Instr.istore_n 2, 1, 0, 0, 0) ∈ kX6_rowOf := List.mem_of_getElem? (i := 1) rfl
theorem eX6_rowOf_2 : (2, Instr.iconst 0, 1, 0, 0, 0) ∈ kX6_rowOf := List.mem_of_getElem? (i := 2) rfl
theorem eX6_rowOf_3 : (3, Instr.istore_n 3, 1, 0, 0, 0) ∈ kX6_rowOf := List.mem_of_getElem? (i := 3) rfl
theorem eX6_rowOf_4 : (4, Instr.iload_n 3, 1, 0, 0, 0) ∈ kX6_rowOf := List.mem_of_getElem? (i := 4) rfl
theorem eX6_rowOf_5 : (5, Instr.aload_n 0, 1, 0, 0, 0) ∈ kX6_rowOf := List.mem_of_getElem? (i := 5) rfl
theorem eX6_rowOf_6 : (6, Instr.getfield 113, 3, 6, 5, 574) ∈ kX6_rowOf := List.mem_of_getElem? (i := 6) rfl
theorem eX6_rowOf_9 : (9, Instr.if_icmp .ge 21, 3, 30, 0, 0) ∈ kX6_rowOf := List.mem_of_getElem? (i := 7) rfl
theorem eX6_rowOf_12 : (12, Instr.aload_n 0, 1, 0, 0, 0) ∈ kX6_rowOf := List.mem_of_getElem? (i := 8) rfl
theorem eX6_rowOf_13 : (13, Instr.getfield 13, 3, 6, 6, 575) ∈ kX6_rowOf := List.mem_of_getElem? (i := 9) rfl
theorem eX6_rowOf_16 : (16, Instr.iload_n 3, 1, 0, 0, 0) ∈ kX6_rowOf := List.mem_of_getElem? (i := 10) rfl
theorem eX6_rowOf_17 : (17, Instr.iaload, 1, 0, 0, 0) ∈ kX6_rowOf := List.mem_of_getElem? (i := 11) rfl
theorem eX6_rowOf_18 : (18, Instr.iload_n 1, 1, 0, 0, 0) ∈ kX6_rowOf := List.mem_of_getElem? (i := 12) rfl
theorem eX6_rowOf_19 : (19, Instr.if_icmp .gt 5, 3, 24, 0, 0) ∈ kX6_rowOf := List.mem_of_getElem? (i := 13) rfl
theorem eX6_rowOf_22 : (22, Instr.iload_n 3, 1, 0, 0, 0) ∈ kX6_rowOf := List.mem_of_getElem? (i := 14) rfl
theorem eX6_rowOf_23 : (23, Instr.istore_n 2, 1, 0, 0, 0) ∈ kX6_rowOf := List.mem_of_getElem? (i := 15) rfl
theorem eX6_rowOf_24 : (24, Instr.iinc 3 1, 3, 0, 0, 0) ∈ kX6_rowOf := List.mem_of_getElem? (i := 16) rfl
theorem eX6_rowOf_27 : (27, Instr.goto (-23), 3, 4, 0, 0) ∈ kX6_rowOf := List.mem_of_getElem? (i := 17) rfl
theorem eX6_rowOf_30 : (30, Instr.iload_n 2, 1, 0, 0, 0) ∈ kX6_rowOf := List.mem_of_getElem? (i := 18) rfl
theorem eX6_rowOf_31 : (31, Instr.ireturn, 1, 0, 0, 0) ∈ kX6_rowOf := List.mem_of_getElem? (i := 19) rfl
theorem aX6_shelf : am_m nX6_shelf = mX6_shelf := rfl
theorem eX6_shelf_0 : (0, Instr.iload_n 1, 1, 0, 0, 0) ∈ kX6_shelf := List.mem_of_getElem? (i := 0) rfl
theorem eX6_shelf_1 : (1, Instr.iconst 1, 1, 0, 0, 0) ∈ kX6_shelf := List.mem_of_getElem? (i := 1) rfl
theorem eX6_shelf_2 : (2, Instr.bipush 60, 2, 0, 0, 0) ∈ kX6_shelf := List.mem_of_getElem? (i := 2) rfl
theorem eX6_shelf_4 : (4, Instr.invokestatic 102, 3, 78, 3, 683) ∈ kX6_shelf := List.mem_of_getElem? (i := 3) rfl
theorem eX6_shelf_7 : (7, Instr.ifCond .eq 32, 3, 39, 0, 0) ∈ kX6_shelf := List.mem_of_getElem? (i := 4) rfl
theorem eX6_shelf_10 : (10, Instr.iload_n 2, 1, 0, 0, 0) ∈ kX6_shelf := List.mem_of_getElem? (i := 5) rfl
theorem eX6_shelf_11 : (11, Instr.iconst 0, 1, 0, 0, 0) ∈ kX6_shelf := List.mem_of_getElem? (i := 6) rfl
theorem eX6_shelf_12 : (12, Instr.iconst 2, 1, 0, 0, 0) ∈ kX6_shelf := List.mem_of_getElem? (i := 7) rfl
theorem eX6_shelf_13 : (13, Instr.invokestatic 102, 3, 78, 3, 683) ∈ kX6_shelf := List.mem_of_getElem? (i := 8) rfl
theorem eX6_shelf_16 : (16, Instr.ifCond .eq 23, 3, 39, 0, 0) ∈ kX6_shelf := List.mem_of_getElem? (i := 9) rfl
theorem eX6_shelf_19 : (19, Instr.iload 4, 2, 0, 0, 0) ∈ kX6_shelf := List.mem_of_getElem? (i := 10) rfl
theorem eX6_shelf_21 : (21, Instr.iconst 1, 1, 0, 0, 0) ∈ kX6_shelf := List.mem_of_getElem? (i := 11) rfl
theorem eX6_shelf_22 : (22, Instr.bipush 99, 2, 0, 0, 0) ∈ kX6_shelf := List.mem_of_getElem? (i := 12) rfl
theorem eX6_shelf_24 : (24, Instr.invokestatic 102, 3, 78, 3, 683) ∈ kX6_shelf := List.mem_of_getElem? (i := 13) rfl
theorem eX6_shelf_27 : (27, Instr.ifCond .eq 12, 3, 39, 0, 0) ∈ kX6_shelf := List.mem_of_getElem? (i := 14) rfl
theorem eX6_shelf_30 : (30, Instr.aload_n 0, 1, 0, 0, 0) ∈ kX6_shelf := List.mem_of_getElem? (i := 15) rfl
theorem eX6_shelf_31 : (31, Instr.getfield 116, 3, 6, 11, 580) ∈ kX6_shelf := List.mem_of_getElem? (i := 16) rfl
theorem eX6_shelf_34 : (34, Instr.bipush 16, 2, 0, 0, 0) ∈ kX6_shelf := List.mem_of_getElem? (i := 17) rfl
theorem eX6_shelf_36 : (36, Instr.if_icmp .ne 5, 3, 41, 0, 0) ∈ kX6_shelf := List.mem_of_getElem? (i := 18) rfl
theorem eX6_shelf_39 : (39, Instr.iconst (-1), 1, 0, 0, 0) ∈ kX6_shelf := List.mem_of_getElem? (i := 19) rfl
theorem eX6_shelf_40 : (40, Instr.ireturn, 1, 0, 0, 0) ∈ kX6_shelf := List.mem_of_getElem? (i := 20) rfl
theorem eX6_shelf_41 : (41, Instr.aload_n 0, 1, 0, 0, 0) ∈ kX6_shelf := List.mem_of_getElem? (i := 21) rfl
theorem eX6_shelf_42 : (42, Instr.getfield 29, 3, 6, 13, 582) ∈ kX6_shelf := List.mem_of_getElem? (i := 22) rfl
theorem eX6_shelf_45 : (45, Instr.aload_n 0, 1, 0, 0, 0) ∈ kX6_shelf := List.mem_of_getElem? (i := 23) rfl
theorem eX6_shelf_46 : (46, Instr.getfield 116, 3, 6, 11, 580) ∈ kX6_shelf := List.mem_of_getElem? (i := 24) rfl
theorem eX6_shelf_49 : (49, Instr.iload_n 1, 1, 0, 0, 0) ∈ kX6_shelf := List.mem_of_getElem? (i := 25) rfl
theorem eX6_shelf_50 : (50, Instr.iastore, 1, 0, 0, 0) ∈ kX6_shelf := List.mem_of_getElem? (i := 26) rfl
theorem eX6_shelf_51 : (51, Instr.aload_n 0, 1, 0, 0, 0) ∈ kX6_shelf := List.mem_of_getElem? (i := 27) rfl
theorem eX6_shelf_52 : (52, Instr.getfield 32, 3, 6, 14, 583) ∈ kX6_shelf := List.mem_of_getElem? (i := 28) rfl
theorem eX6_shelf_55 : (55, Instr.aload_n 0, 1, 0, 0, 0) ∈ kX6_shelf := List.mem_of_getElem? (i := 29) rfl
theorem eX6_shelf_56 : (56, Instr.getfield 116, 3, 6, 11, 580) ∈ kX6_shelf := List.mem_of_getElem? (i := 30) rfl
theorem eX6_shelf_59 : (59, Instr.iload_n 2, 1, 0, 0, 0) ∈ kX6_shelf := List.mem_of_getElem? (i := 31) rfl
theorem eX6_shelf_60 : (60, Instr.iastore, 1, 0, 0, 0) ∈ kX6_shelf := List.mem_of_getElem? (i := 32) rfl
theorem eX6_shelf_61 : (61, Instr.aload_n 0, 1, 0, 0, 0) ∈ kX6_shelf := List.mem_of_getElem? (i := 33) rfl
theorem eX6_shelf_62 : (62, Instr.getfield 38, 3, 6, 16, 585) ∈ kX6_shelf := List.mem_of_getElem? (i := 34) rfl
theorem eX6_shelf_65 : (65, Instr.aload_n 0, 1, 0, 0, 0) ∈ kX6_shelf := List.mem_of_getElem? (i := 35) rfl
theorem eX6_shelf_66 : (66, Instr.getfield 116, 3, 6, 11, 580) ∈ kX6_shelf := List.mem_of_getElem? (i := 36) rfl
theorem eX6_shelf_69 : (69, Instr.iload_n 3, 1, 0, 0, 0) ∈ kX6_shelf := List.mem_of_getElem? (i := 37) rfl
theorem eX6_shelf_70 : (70, Instr.bastore, 1, 0, 0, 0) ∈ kX6_shelf := List.mem_of_getElem? (i := 38) rfl
theorem eX6_shelf_71 : (71, Instr.aload_n 0, 1, 0, 0, 0) ∈ kX6_shelf := List.mem_of_getElem? (i := 39) rfl
theorem eX6_shelf_72 : (72, Instr.getfield 35, 3, 6, 15, 584) ∈ kX6_shelf := List.mem_of_getElem? (i := 40) rfl
theorem eX6_shelf_75 : (75, Instr.aload_n 0, 1, 0, 0, 0) ∈ kX6_shelf := List.mem_of_getElem? (i := 41) rfl
theorem eX6_shelf_76 : (76, Instr.getfield 116, 3, 6, 11, 580) ∈ kX6_shelf := List.mem_of_getElem? (i := 42) rfl
theorem eX6_shelf_79 : (79, Instr.iload 4, 2, 0, 0, 0) ∈ kX6_shelf := List.mem_of_getElem? (i := 43) rfl
theorem eX6_shelf_81 : (81, Instr.iastore, 1, 0, 0, 0) ∈ kX6_shelf := List.mem_of_getElem? (i := 44) rfl
theorem eX6_shelf_82 : (82, Instr.aload_n 0, 1, 0, 0, 0) ∈ kX6_shelf := List.mem_of_getElem? (i := 45) rfl
theorem eX6_shelf_83 : (83, Instr.dup, 1, 0, 0, 0) ∈ kX6_shelf := List.mem_of_getElem? (i := 46) rfl
theorem eX6_shelf_84 : (84, Instr.getfield 116, 3, 6, 11, 580) ∈ kX6_shelf := List.mem_of_getElem? (i := 47) rfl
theorem eX6_shelf_87 : (87, Instr.iconst 1, 1, 0, 0, 0) ∈ kX6_shelf := List.mem_of_getElem? (i := 48) rfl
theorem eX6_shelf_88 : (88, Instr.iadd, 1, 0, 0, 0) ∈ kX6_shelf := List.mem_of_getElem? (i := 49) rfl
theorem eX6_shelf_89 : (89, Instr.putfield 116, 3, 6, 11, 580) ∈ kX6_shelf := List.mem_of_getElem? (i := 50) rfl
theorem eX6_shelf_92 : (92, Instr.aload_n 0, 1, 0, 0, 0) ∈ kX6_shelf := List.mem_of_getElem? (i := 51) rfl
theorem eX6_shelf_93 : (93, Instr.getfield 116, 3, 6, 11, 580) ∈ kX6_shelf := List.mem_of_getElem? (i := 52) rfl
theorem eX6_shelf_96 : (96, Instr.iconst 1, 1, 0, 0, 0) ∈ kX6_shelf := List.mem_of_getElem? (i := 53) rfl
theorem eX6_shelf_97 : (97, Instr.isub, 1, 0, 0, 0) ∈ kX6_shelf := List.mem_of_getElem? (i := 54) rfl
theorem eX6_shelf_98 : (98, Instr.ireturn, 1, 0, 0, 0) ∈ kX6_shelf := List.mem_of_getElem? (i := 55) rfl
theorem aX6_free : am_m nX6_free = mX6_free := rfl
theorem eX6_free_0 : (0, Instr.aload_n 0, 1, 0, 0, 0) ∈ kX6_free := List.mem_of_getElem? (i := 0) rfl
theorem eX6_free_1 : (1, Instr.getfield 29, 3, 6, 13, 582) ∈ kX6_free := List.mem_of_getElem? (i := 1) rfl
theorem eX6_free_4 : (4, Instr.iload_n 1, 1, 0, 0, 0) ∈ kX6_free := List.mem_of_getElem? (i := 2) rfl
theorem eX6_free_5 : (5, Instr.iaload, 1, 0, 0, 0) ∈ kX6_free := List.mem_of_getElem? (i := 3) rfl
theorem eX6_free_6 : (6, Instr.istore_n 2, 1, 0, 0, 0) ∈ kX6_free := List.mem_of_getElem? (i := 4) rfl
theorem eX6_free_7 : (7, Instr.iconst 0, 1, 0, 0, 0) ∈ kX6_free := List.mem_of_getElem? (i := 5) rfl
theorem eX6_free_8 : (8, Instr.istore_n 3, 1, 0, 0, 0) ∈ kX6_free := List.mem_of_getElem? (i := 6) rfl
theorem eX6_free_9 : (9, Instr.iload_n 3, 1, 0, 0, 0) ∈ kX6_free := List.mem_of_getElem? (i := 7) rfl
theorem eX6_free_10 : (10, Instr.aload_n 0, 1, 0, 0, 0) ∈ kX6_free := List.mem_of_getElem? (i := 8) rfl
theorem eX6_free_11 : (11, Instr.getfield 107, 3, 6, 12, 581) ∈ kX6_free := List.mem_of_getElem? (i := 9) rfl
theorem eX6_free_14 : (14, Instr.if_icmp .ge 37, 3, 51, 0, 0) ∈ kX6_free := List.mem_of_getElem? (i := 10) rfl
theorem eX6_free_17 : (17, Instr.aload_n 0, 1, 0, 0, 0) ∈ kX6_free := List.mem_of_getElem? (i := 11) rfl
theorem eX6_free_18 : (18, Instr.getfield 60, 3, 6, 23, 592) ∈ kX6_free := List.mem_of_getElem? (i := 12) rfl
theorem eX6_free_21 : (21, Instr.iload_n 3, 1, 0, 0, 0) ∈ kX6_free := List.mem_of_getElem? (i := 13) rfl
theorem eX6_free_22 : (22, Instr.iaload, 1, 0, 0, 0) ∈ kX6_free := List.mem_of_getElem? (i := 14) rfl
theorem eX6_free_23 : (23, Instr.ifCond .ne 22, 3, 45, 0, 0) ∈ kX6_free := List.mem_of_getElem? (i := 15) rfl
theorem eX6_free_26 : (26, Instr.aload_n 0, 1, 0, 0, 0) ∈ kX6_free := List.mem_of_getElem? (i := 16) rfl
theorem eX6_free_27 : (27, Instr.getfield 63, 3, 6, 24, 593) ∈ kX6_free := List.mem_of_getElem? (i := 17) rfl
theorem eX6_free_30 : (30, Instr.iload_n 3, 1, 0, 0, 0) ∈ kX6_free := List.mem_of_getElem? (i := 18) rfl
theorem eX6_free_31 : (31, Instr.iaload, 1, 0, 0, 0) ∈ kX6_free := List.mem_of_getElem? (i := 19) rfl
theorem eX6_free_32 : (32, Instr.iload_n 1, 1, 0, 0, 0) ∈ kX6_free := List.mem_of_getElem? (i := 20) rfl
theorem eX6_free_33 : (33, Instr.if_icmp .ne 12, 3, 45, 0, 0) ∈ kX6_free := List.mem_of_getElem? (i := 21) rfl
theorem eX6_free_36 : (36, Instr.iload_n 2, 1, 0, 0, 0) ∈ kX6_free := List.mem_of_getElem? (i := 22) rfl
theorem eX6_free_37 : (37, Instr.aload_n 0, 1, 0, 0, 0) ∈ kX6_free := List.mem_of_getElem? (i := 23) rfl
theorem eX6_free_38 : (38, Instr.getfield 45, 3, 6, 18, 587) ∈ kX6_free := List.mem_of_getElem? (i := 24) rfl
theorem eX6_free_41 : (41, Instr.iload_n 3, 1, 0, 0, 0) ∈ kX6_free := List.mem_of_getElem? (i := 25) rfl
theorem eX6_free_42 : (42, Instr.iaload, 1, 0, 0, 0) ∈ kX6_free := List.mem_of_getElem? (i := 26) rfl
theorem eX6_free_43 : (43, Instr.isub, 1, 0, 0, 0) ∈ kX6_free := List.mem_of_getElem? (i := 27) rfl
theorem eX6_free_44 : (44, Instr.istore_n 2, 1, 0, 0, 0) ∈ kX6_free := List.mem_of_getElem? (i := 28) rfl
theorem eX6_free_45 : (45, Instr.iinc 3 1, 3, 0, 0, 0) ∈ kX6_free := List.mem_of_getElem? (i := 29) rfl
theorem eX6_free_48 : (48, Instr.goto (-39), 3, 9, 0, 0) ∈ kX6_free := List.mem_of_getElem? (i := 30) rfl
theorem eX6_free_51 : (51, Instr.iload_n 2, 1, 0, 0, 0) ∈ kX6_free := List.mem_of_getElem? (i := 31) rfl
theorem eX6_free_52 : (52, Instr.ireturn, 1, 0, 0, 0) ∈ kX6_free := List.mem_of_getElem? (i := 32) rfl
theorem aX6_suits : am_m nX6_suits = mX6_suits := rfl
theorem eX6_suits_0 : (0, Instr.aload_n 0, 1, 0, 0, 0) ∈ kX6_suits := List.mem_of_getElem? (i := 0) rfl
theorem eX6_suits_1 : (1, Instr.getfield 42, 3, 6, 17, 586) ∈ kX6_suits := List.mem_of_getElem? (i := 1) rfl
theorem eX6_suits_4 : (4, Instr.iload_n 2, 1, 0, 0, 0) ∈ kX6_suits := List.mem_of_getElem? (i := 2) rfl
theorem eX6_suits_5 : (5, Instr.baload, 1, 0, 0, 0) ∈ kX6_suits := List.mem_of_getElem? (i := 3) rfl
theorem eX6_suits_6 : (6, Instr.ifCond .ne 37, 3, 43, 0, 0) ∈ kX6_suits := List.mem_of_getElem? (i := 4) rfl
theorem eX6_suits_9 : (9, Instr.aload_n 0, 1, 0, 0, 0) ∈ kX6_suits := List.mem_of_getElem? (i := 5) rfl
theorem eX6_suits_10 : (10, Instr.getfield 32, 3, 6, 14, 583) ∈ kX6_suits := List.mem_of_getElem? (i := 6) rfl
theorem eX6_suits_13 : (13, Instr.iload_n 2, 1, 0, 0, 0) ∈ kX6_suits := List.mem_of_getElem? (i := 7) rfl
theorem eX6_suits_14 : (14, Instr.iaload, 1, 0, 0, 0) ∈ kX6_suits := List.mem_of_getElem? (i := 8) rfl
theorem eX6_suits_15 : (15, Instr.aload_n 0, 1, 0, 0, 0) ∈ kX6_suits := List.mem_of_getElem? (i := 9) rfl
theorem eX6_suits_16 : (16, Instr.getfield 48, 3, 6, 19, 588) ∈ kX6_suits := List.mem_of_getElem? (i := 10) rfl
theorem eX6_suits_19 : (19, Instr.iload_n 1, 1, 0, 0, 0) ∈ kX6_suits := List.mem_of_getElem? (i := 11) rfl
theorem eX6_suits_20 : (20, Instr.iaload, 1, 0, 0, 0) ∈ kX6_suits := List.mem_of_getElem? (i := 12) rfl
theorem eX6_suits_21 : (21, Instr.if_icmp .lt 22, 3, 43, 0, 0) ∈ kX6_suits := List.mem_of_getElem? (i := 13) rfl
theorem eX6_suits_24 : (24, Instr.aload_n 0, 1, 0, 0, 0) ∈ kX6_suits := List.mem_of_getElem? (i := 14) rfl
theorem eX6_suits_25 : (25, Instr.getfield 38, 3, 6, 16, 585) ∈ kX6_suits := List.mem_of_getElem? (i := 15) rfl
theorem eX6_suits_28 : (28, Instr.iload_n 2, 1, 0, 0, 0) ∈ kX6_suits := List.mem_of_getElem? (i := 16) rfl
theorem eX6_suits_29 : (29, Instr.baload, 1, 0, 0, 0) ∈ kX6_suits := List.mem_of_getElem? (i := 17) rfl
theorem eX6_suits_30 : (30, Instr.aload_n 0, 1, 0, 0, 0) ∈ kX6_suits := List.mem_of_getElem? (i := 18) rfl
theorem eX6_suits_31 : (31, Instr.getfield 72, 3, 6, 27, 596) ∈ kX6_suits := List.mem_of_getElem? (i := 19) rfl
theorem eX6_suits_34 : (34, Instr.iload_n 1, 1, 0, 0, 0) ∈ kX6_suits := List.mem_of_getElem? (i := 20) rfl
theorem eX6_suits_35 : (35, Instr.baload, 1, 0, 0, 0) ∈ kX6_suits := List.mem_of_getElem? (i := 21) rfl
theorem eX6_suits_36 : (36, Instr.if_icmp .ne 7, 3, 43, 0, 0) ∈ kX6_suits := List.mem_of_getElem? (i := 22) rfl
theorem eX6_suits_39 : (39, Instr.iconst 1, 1, 0, 0, 0) ∈ kX6_suits := List.mem_of_getElem? (i := 23) rfl
theorem eX6_suits_40 : (40, Instr.goto 4, 3, 44, 0, 0) ∈ kX6_suits := List.mem_of_getElem? (i := 24) rfl
theorem eX6_suits_43 : (43, Instr.iconst 0, 1, 0, 0, 0) ∈ kX6_suits := List.mem_of_getElem? (i := 25) rfl
theorem eX6_suits_44 : (44, Instr.ireturn, 1, 1, 0, 0) ∈ kX6_suits := List.mem_of_getElem? (i := 26) rfl
theorem aX6_fits : am_m nX6_fits = mX6_fits := rfl
theorem eX6_fits_0 : (0, Instr.aload_n 0, 1, 0, 0, 0) ∈ kX6_fits := List.mem_of_getElem? (i := 0) rfl
theorem eX6_fits_1 : (1, Instr.iload_n 1, 1, 0, 0, 0) ∈ kX6_fits := List.mem_of_getElem? (i := 1) rfl
theorem eX6_fits_2 : (2, Instr.iload_n 2, 1, 0, 0, 0) ∈ kX6_fits := List.mem_of_getElem? (i := 2) rfl
theorem eX6_fits_3 : (3, Instr.invokevirtual 119, 3, 87, 2, 712) ∈ kX6_fits := List.mem_of_getElem? (i := 3) rfl
theorem eX6_fits_6 : (6, Instr.ifCond .eq 21, 3, 27, 0, 0) ∈ kX6_fits := List.mem_of_getElem? (i := 4) rfl
theorem eX6_fits_9 : (9, Instr.aload_n 0, 1, 0, 0, 0) ∈ kX6_fits := List.mem_of_getElem? (i := 5) rfl
theorem eX6_fits_10 : (10, Instr.iload_n 2, 1, 0, 0, 0) ∈ kX6_fits := List.mem_of_getElem? (i := 6) rfl
theorem eX6_fits_11 : (11, Instr.invokevirtual 123, 3, 86, 1, 716) ∈ kX6_fits := List.mem_of_getElem? (i := 7) rfl
theorem eX6_fits_14 : (14, Instr.aload_n 0, 1, 0, 0, 0) ∈ kX6_fits := List.mem_of_getElem? (i := 8) rfl
theorem eX6_fits_15 : (15, Instr.getfield 45, 3, 6, 18, 587) ∈ kX6_fits := List.mem_of_getElem? (i := 9) rfl
theorem eX6_fits_18 : (18, Instr.iload_n 1, 1, 0, 0, 0) ∈ kX6_fits := List.mem_of_getElem? (i := 10) rfl
theorem eX6_fits_19 : (19, Instr.iaload, 1, 0, 0, 0) ∈ kX6_fits := List.mem_of_getElem? (i := 11) rfl
theorem eX6_fits_20 : (20, Instr.if_icmp .lt 7, 3, 27, 0, 0) ∈ kX6_fits := List.mem_of_getElem? (i := 12) rfl
theorem eX6_fits_23 : (23, Instr.iconst 1, 1, 0, 0, 0) ∈ kX6_fits := List.mem_of_getElem? (i := 13) rfl
theorem eX6_fits_24 : (24, Instr.goto 4, 3, 28, 0, 0) ∈ kX6_fits := List.mem_of_getElem? (i := 14) rfl
theorem eX6_fits_27 : (27, Instr.iconst 0, 1, 0, 0, 0) ∈ kX6_fits := List.mem_of_getElem? (i := 15) rfl
theorem eX6_fits_28 : (28, Instr.ireturn, 1, 1, 0, 0) ∈ kX6_fits := List.mem_of_getElem? (i := 16) rfl
theorem aX6_wanted : am_m nX6_wanted = mX6_wanted := rfl
theorem eX6_wanted_0 : (0, Instr.aload_n 0, 1, 0, 0, 0) ∈ kX6_wanted := List.mem_of_getElem? (i := 0) rfl
theorem eX6_wanted_1 : (1, Instr.getfield 54, 3, 6, 21, 590) ∈ kX6_wanted := List.mem_of_getElem? (i := 1) rfl
theorem eX6_wanted_4 : (4, Instr.iload_n 1, 1, 0, 0, 0) ∈ kX6_wanted := List.mem_of_getElem? (i := 2) rfl
theorem eX6_wanted_5 : (5, Instr.iaload, 1, 0, 0, 0) ∈ kX6_wanted := List.mem_of_getElem? (i := 3) rfl
theorem eX6_wanted_6 : (6, Instr.aload_n 0, 1, 0, 0, 0) ∈ kX6_wanted := List.mem_of_getElem? (i := 4) rfl
theorem eX6_wanted_7 : (7, Instr.getfield 96, 3, 6, 0, 569) ∈ kX6_wanted := List.mem_of_getElem? (i := 5) rfl
theorem eX6_wanted_10 : (10, Instr.if_icmp .le 20, 3, 30, 0, 0) ∈ kX6_wanted := List.mem_of_getElem? (i := 6) rfl
theorem eX6_wanted_13 : (13, Instr.aload_n 0, 1, 0, 0, 0) ∈ kX6_wanted := List.mem_of_getElem? (i := 7) rfl
theorem eX6_wanted_14 : (14, Instr.getfield 54, 3, 6, 21, 590) ∈ kX6_wanted := List.mem_of_getElem? (i := 8) rfl
theorem eX6_wanted_17 : (17, Instr.iload_n 1, 1, 0, 0, 0) ∈ kX6_wanted := List.mem_of_getElem? (i := 9) rfl
theorem eX6_wanted_18 : (18, Instr.iaload, 1, 0, 0, 0) ∈ kX6_wanted := List.mem_of_getElem? (i := 10) rfl
theorem eX6_wanted_19 : (19, Instr.aload_n 0, 1, 0, 0, 0) ∈ kX6_wanted := List.mem_of_getElem? (i := 11) rfl
theorem eX6_wanted_20 : (20, Instr.getfield 96, 3, 6, 0, 569) ∈ kX6_wanted := List.mem_of_getElem? (i := 12) rfl
theorem eX6_wanted_23 : (23, Instr.isub, 1, 0, 0, 0) ∈ kX6_wanted := List.mem_of_getElem? (i := 13) rfl
theorem eX6_wanted_24 : (24, Instr.bipush 60, 2, 0, 0, 0) ∈ kX6_wanted := List.mem_of_getElem? (i := 14) rfl
theorem eX6_wanted_26 : (26, Instr.idiv, 1, 0, 0, 0) ∈ kX6_wanted := List.mem_of_getElem? (i := 15) rfl
theorem eX6_wanted_27 : (27, Instr.goto 4, 3, 31, 0, 0) ∈ kX6_wanted := List.mem_of_getElem? (i := 16) rfl
theorem eX6_wanted_30 : (30, Instr.iconst 0, 1, 0, 0, 0) ∈ kX6_wanted := List.mem_of_getElem? (i := 17) rfl
theorem eX6_wanted_31 : (31, Instr.istore_n 2, 1, 0, 0, 0) ∈ kX6_wanted := List.mem_of_getElem? (i := 18) rfl
theorem eX6_wanted_32 : (32, Instr.iload_n 2, 1, 0, 0, 0) ∈ kX6_wanted := List.mem_of_getElem? (i := 19) rfl
theorem eX6_wanted_33 : (33, Instr.bipush 98, 2, 0, 0, 0) ∈ kX6_wanted := List.mem_of_getElem? (i := 20) rfl
theorem eX6_wanted_35 : (35, Instr.if_icmp .le 8, 3, 43, 0, 0) ∈ kX6_wanted := List.mem_of_getElem? (i := 21) rfl
theorem eX6_wanted_38 : (38, Instr.bipush 99, 2, 0, 0, 0) ∈ kX6_wanted := List.mem_of_getElem? (i := 22) rfl
theorem eX6_wanted_40 : (40, Instr.goto 6, 3, 46, 0, 0) ∈ kX6_wanted := List.mem_of_getElem? (i := 23) rfl
theorem eX6_wanted_43 : (43, Instr.iconst 1, 1, 0, 0, 0) ∈ kX6_wanted := List.mem_of_getElem? (i := 24) rfl
theorem eX6_wanted_44 : (44, Instr.iload_n 2, 1, 0, 0, 0) ∈ kX6_wanted := List.mem_of_getElem? (i := 25) rfl
theorem eX6_wanted_45 : (45, Instr.iadd, 1, 0, 0, 0) ∈ kX6_wanted := List.mem_of_getElem? (i := 26) rfl
theorem eX6_wanted_46 : (46, Instr.ireturn, 1, 0, 0, 0) ∈ kX6_wanted := List.mem_of_getElem? (i := 27) rfl
theorem aX6_misfitOn : am_m nX6_misfitOn = mX6_misfitOn := rfl
theorem eX6_misfitOn_0 : (0, Instr.aload_n 0, 1, 0, 0, 0) ∈ kX6_misfitOn := List.mem_of_getElem? (i := 0) rfl
theorem eX6_misfitOn_1 : (1, Instr.getfield 35, 3, 6, 15, 584) ∈ kX6_misfitOn := List.mem_of_getElem? (i := 1) rfl
theorem eX6_misfitOn_4 : (4, Instr.iload_n 2, 1, 0, 0, 0) ∈ kX6_misfitOn := List.mem_of_getElem? (i := 2) rfl
theorem eX6_misfitOn_5 : (5, Instr.iaload, 1, 0, 0, 0) ∈ kX6_misfitOn := List.mem_of_getElem? (i := 3) rfl
theorem eX6_misfitOn_6 : (6, Instr.aload_n 0, 1, 0, 0, 0) ∈ kX6_misfitOn := List.mem_of_getElem? (i := 4) rfl
theorem eX6_misfitOn_7 : (7, Instr.iload_n 1, 1, 0, 0, 0) ∈ kX6_misfitOn := List.mem_of_getElem? (i := 5) rfl
theorem eX6_misfitOn_8 : (8, Instr.invokevirtual 127, 3, 89, 1, 724) ∈ kX6_misfitOn := List.mem_of_getElem? (i := 6) rfl
theorem eX6_misfitOn_11 : (11, Instr.invokestatic 130, 3, 79, 2, 728) ∈ kX6_misfitOn := List.mem_of_getElem? (i := 7) rfl
theorem eX6_misfitOn_14 : (14, Instr.ireturn, 1, 0, 0, 0) ∈ kX6_misfitOn := List.mem_of_getElem? (i := 8) rfl
theorem aX6_ticketOf : am_m nX6_ticketOf = mX6_ticketOf := rfl
theorem eX6_ticketOf_0 : (0, Instr.bipush 100, 2, 0, 0, 0) ∈ kX6_ticketOf := List.mem_of_getElem? (i := 0) rfl
theorem eX6_ticketOf_2 : (2, Instr.iload_n 0, 1, 0, 0, 0) ∈ kX6_ticketOf := List.mem_of_getElem? (i := 1) rfl
theorem eX6_ticketOf_3 : (3, Instr.imul, 1, 0, 0, 0) ∈ kX6_ticketOf := List.mem_of_getElem? (i := 2) rfl
theorem eX6_ticketOf_4 : (4, Instr.bipush 37, 2, 0, 0, 0) ∈ kX6_ticketOf := List.mem_of_getElem? (i := 3) rfl
theorem eX6_ticketOf_6 : (6, Instr.iload_n 0, 1, 0, 0, 0) ∈ kX6_ticketOf := List.mem_of_getElem? (i := 4) rfl
theorem eX6_ticketOf_7 : (7, Instr.imul, 1, 0, 0, 0) ∈ kX6_ticketOf := List.mem_of_getElem? (i := 5) rfl
theorem eX6_ticketOf_8 : (8, Instr.bipush 11, 2, 0, 0, 0) ∈ kX6_ticketOf := List.mem_of_getElem? (i := 6) rfl
theorem eX6_ticketOf_10 : (10, Instr.iadd, 1, 0, 0, 0) ∈ kX6_ticketOf := List.mem_of_getElem? (i := 7) rfl
theorem eX6_ticketOf_11 : (11, Instr.bipush 97, 2, 0, 0, 0) ∈ kX6_ticketOf := List.mem_of_getElem? (i := 8) rfl
theorem eX6_ticketOf_13 : (13, Instr.irem, 1, 0, 0, 0) ∈ kX6_ticketOf := List.mem_of_getElem? (i := 9) rfl
theorem eX6_ticketOf_14 : (14, Instr.iadd, 1, 0, 0, 0) ∈ kX6_ticketOf := List.mem_of_getElem? (i := 10) rfl
theorem eX6_ticketOf_15 : (15, Instr.ireturn, 1, 0, 0, 0) ∈ kX6_ticketOf := List.mem_of_getElem? (i := 11) rfl
theorem aX6_put : am_m nX6_put = mX6_put := rfl
theorem eX6_put_0 : (0, Instr.iload_n 1, 1, 0, 0, 0) ∈ kX6_put := List.mem_of_getElem? (i := 0) rfl
theorem eX6_put_1 : (1, Instr.iconst 1, 1, 0, 0, 0) ∈ kX6_put := List.mem_of_getElem? (i := 1) rfl
theorem eX6_put_2 : (2, Instr.bipush 20, 2, 0, 0, 0) ∈ kX6_put := List.mem_of_getElem? (i := 2) rfl
theorem eX6_put_4 : (4, Instr.invokestatic 102, 3, 78, 3, 683) ∈ kX6_put := List.mem_of_getElem? (i := 3) rfl
theorem eX6_put_7 : (7, Instr.ifCond .eq 34, 3, 41, 0, 0) ∈ kX6_put := List.mem_of_getElem? (i := 4) rfl
theorem eX6_put_10 : (10, Instr.iload_n 2, 1, 0, 0, 0) ∈ kX6_put := List.mem_of_getElem? (i := 5) rfl
theorem eX6_put_11 : (11, Instr.iconst 0, 1, 0, 0, 0) ∈ kX6_put := List.mem_of_getElem? (i := 6) rfl
theorem eX6_put_12 : (12, Instr.iconst 2, 1, 0, 0, 0) ∈ kX6_put := List.mem_of_getElem? (i := 7) rfl
theorem eX6_put_13 : (13, Instr.invokestatic 102, 3, 78, 3, 683) ∈ kX6_put := List.mem_of_getElem? (i := 8) rfl
theorem eX6_put_16 : (16, Instr.ifCond .eq 25, 3, 41, 0, 0) ∈ kX6_put := List.mem_of_getElem? (i := 9) rfl
theorem eX6_put_19 : (19, Instr.iload 5, 2, 0, 0, 0) ∈ kX6_put := List.mem_of_getElem? (i := 10) rfl
theorem eX6_put_21 : (21, Instr.iconst 0, 1, 0, 0, 0) ∈ kX6_put := List.mem_of_getElem? (i := 11) rfl
theorem eX6_put_22 : (22, Instr.ldc 134, 2, 65535, 0, 703) ∈ kX6_put := List.mem_of_getElem? (i := 12) rfl
theorem eX6_put_24 : (24, Instr.invokestatic 102, 3, 78, 3, 683) ∈ kX6_put := List.mem_of_getElem? (i := 13) rfl
theorem eX6_put_27 : (27, Instr.ifCond .eq 14, 3, 41, 0, 0) ∈ kX6_put := List.mem_of_getElem? (i := 14) rfl
theorem eX6_put_30 : (30, Instr.iload 6, 2, 0, 0, 0) ∈ kX6_put := List.mem_of_getElem? (i := 15) rfl
theorem eX6_put_32 : (32, Instr.iconst 0, 1, 0, 0, 0) ∈ kX6_put := List.mem_of_getElem? (i := 16) rfl
theorem eX6_put_33 : (33, Instr.ldc 106, 2, 100000, 0, 690) ∈ kX6_put := List.mem_of_getElem? (i := 17) rfl
theorem eX6_put_35 : (35, Instr.invokestatic 102, 3, 78, 3, 683) ∈ kX6_put := List.mem_of_getElem? (i := 18) rfl
theorem eX6_put_38 : (38, Instr.ifCond .ne 6, 3, 44, 0, 0) ∈ kX6_put := List.mem_of_getElem? (i := 19) rfl
theorem eX6_put_41 : (41, Instr.bipush (-2), 2, 0, 0, 0) ∈ kX6_put := List.mem_of_getElem? (i := 20) rfl
theorem eX6_put_43 : (43, Instr.ireturn, 1, 0, 0, 0) ∈ kX6_put := List.mem_of_getElem? (i := 21) rfl
theorem eX6_put_44 : (44, Instr.aload_n 0, 1, 0, 0, 0) ∈ kX6_put := List.mem_of_getElem? (i := 22) rfl
theorem eX6_put_45 : (45, Instr.invokevirtual 135, 3, 80, 0, 704) ∈ kX6_put := List.mem_of_getElem? (i := 23) rfl
theorem eX6_put_48 : (48, Instr.ifCond .ne 6, 3, 54, 0, 0) ∈ kX6_put := List.mem_of_getElem? (i := 24) rfl
theorem eX6_put_51 : (51, Instr.bipush (-3), 2, 0, 0, 0) ∈ kX6_put := List.mem_of_getElem? (i := 25) rfl
theorem eX6_put_53 : (53, Instr.ireturn, 1, 0, 0, 0) ∈ kX6_put := List.mem_of_getElem? (i := 26) rfl
theorem eX6_put_54 : (54, Instr.aload_n 0, 1, 0, 0, 0) ∈ kX6_put := List.mem_of_getElem? (i := 27) rfl
theorem eX6_put_55 : (55, Instr.getfield 107, 3, 6, 12, 581) ∈ kX6_put := List.mem_of_getElem? (i := 28) rfl
theorem eX6_put_58 : (58, Instr.bipush 120, 2, 0, 0, 0) ∈ kX6_put := List.mem_of_getElem? (i := 29) rfl
theorem eX6_put_60 : (60, Instr.if_icmp .ne 6, 3, 66, 0, 0) ∈ kX6_put := List.mem_of_getElem? (i := 30) rfl
theorem eX6_put_63 : (63, Instr.bipush (-4), 2, 0, 0, 0) ∈ kX6_put := List.mem_of_getElem? (i := 31) rfl
theorem eX6_put_65 : (65, Instr.ireturn, 1, 0, 0, 0) ∈ kX6_put := List.mem_of_getElem? (i := 32) rfl
theorem eX6_put_66 : (66, Instr.aload_n 0, 1, 0, 0, 0) ∈ kX6_put := List.mem_of_getElem? (i := 33) rfl
theorem eX6_put_67 : (67, Instr.getfield 107, 3, 6, 12, 581) ∈ kX6_put := List.mem_of_getElem? (i := 34) rfl
theorem eX6_put_70 : (70, Instr.istore 7, 2, 0, 0, 0) ∈ kX6_put := List.mem_of_getElem? (i := 35) rfl
theorem eX6_put_72 : (72, Instr.aload_n 0, 1, 0, 0, 0) ∈ kX6_put := List.mem_of_getElem? (i := 36) rfl
theorem eX6_put_73 : (73, Instr.getfield 45, 3, 6, 18, 587) ∈ kX6_put := List.mem_of_getElem? (i := 37) rfl
theorem eX6_put_76 : (76, Instr.iload 7, 2, 0, 0, 0) ∈ kX6_put := List.mem_of_getElem? (i := 38) rfl
theorem eX6_put_78 : (78, Instr.iload_n 1, 1, 0, 0, 0) ∈ kX6_put := List.mem_of_getElem? (i := 39) rfl
theorem eX6_put_79 : (79, Instr.iastore, 1, 0, 0, 0) ∈ kX6_put := List.mem_of_getElem? (i := 40) rfl
theorem eX6_put_80 : (80, Instr.aload_n 0, 1, 0, 0, 0) ∈ kX6_put := List.mem_of_getElem? (i := 41) rfl
theorem eX6_put_81 : (81, Instr.getfield 48, 3, 6, 19, 588) ∈ kX6_put := List.mem_of_getElem? (i := 42) rfl
theorem eX6_put_84 : (84, Instr.iload 7, 2, 0, 0, 0) ∈ kX6_put := List.mem_of_getElem? (i := 43) rfl
theorem eX6_put_86 : (86, Instr.iload_n 2, 1, 0, 0, 0) ∈ kX6_put := List.mem_of_getElem? (i := 44) rfl
theorem eX6_put_87 : (87, Instr.iastore, 1, 0, 0, 0) ∈ kX6_put := List.mem_of_getElem? (i := 45) rfl
theorem eX6_put_88 : (88, Instr.aload_n 0, 1, 0, 0, 0) ∈ kX6_put := List.mem_of_getElem? (i := 46) rfl
theorem eX6_put_89 : (89, Instr.getfield 72, 3, 6, 27, 596) ∈ kX6_put := List.mem_of_getElem? (i := 47) rfl
theorem eX6_put_92 : (92, Instr.iload 7, 2, 0, 0, 0) ∈ kX6_put := List.mem_of_getElem? (i := 48) rfl
theorem eX6_put_94 : (94, Instr.iload_n 3, 1, 0, 0, 0) ∈ kX6_put := List.mem_of_getElem? (i := 49) rfl
theorem eX6_put_95 : (95, Instr.bastore, 1, 0, 0, 0) ∈ kX6_put := List.mem_of_getElem? (i := 50) rfl
theorem eX6_put_96 : (96, Instr.aload_n 0, 1, 0, 0, 0) ∈ kX6_put := List.mem_of_getElem? (i := 51) rfl
theorem eX6_put_97 : (97, Instr.getfield 75, 3, 6, 28, 597) ∈ kX6_put := List.mem_of_getElem? (i := 52) rfl
theorem eX6_put_100 : (100, Instr.iload 7, 2, 0, 0, 0) ∈ kX6_put := List.mem_of_getElem? (i := 53) rfl
theorem eX6_put_102 : (102, Instr.iload 4, 2, 0, 0, 0) ∈ kX6_put := List.mem_of_getElem? (i := 54) rfl
theorem eX6_put_104 : (104, Instr.bastore, 1, 0, 0, 0) ∈ kX6_put := List.mem_of_getElem? (i := 55) rfl
theorem eX6_put_105 : (105, Instr.aload_n 0, 1, 0, 0, 0) ∈ kX6_put := List.mem_of_getElem? (i := 56) rfl
theorem eX6_put_106 : (106, Instr.getfield 51, 3, 6, 20, 589) ∈ kX6_put := List.mem_of_getElem? (i := 57) rfl
theorem eX6_put_109 : (109, Instr.iload 7, 2, 0, 0, 0) ∈ kX6_put := List.mem_of_getElem? (i := 58) rfl
theorem eX6_put_111 : (111, Instr.iload 5, 2, 0, 0, 0) ∈ kX6_put := List.mem_of_getElem? (i := 59) rfl
theorem eX6_put_113 : (113, Instr.iastore, 1, 0, 0, 0) ∈ kX6_put := List.mem_of_getElem? (i := 60) rfl
theorem eX6_put_114 : (114, Instr.aload_n 0, 1, 0, 0, 0) ∈ kX6_put := List.mem_of_getElem? (i := 61) rfl
theorem eX6_put_115 : (115, Instr.getfield 54, 3, 6, 21, 590) ∈ kX6_put := List.mem_of_getElem? (i := 62) rfl
theorem eX6_put_118 : (118, Instr.iload 7, 2, 0, 0, 0) ∈ kX6_put := List.mem_of_getElem? (i := 63) rfl
theorem eX6_put_120 : (120, Instr.iload 6, 2, 0, 0, 0) ∈ kX6_put := List.mem_of_getElem? (i := 64) rfl
theorem eX6_put_122 : (122, Instr.iastore, 1, 0, 0, 0) ∈ kX6_put := List.mem_of_getElem? (i := 65) rfl
theorem eX6_put_123 : (123, Instr.iconst (-1), 1, 0, 0, 0) ∈ kX6_put := List.mem_of_getElem? (i := 66) rfl
theorem eX6_put_124 : (124, Instr.istore 8, 2, 0, 0, 0) ∈ kX6_put := List.mem_of_getElem? (i := 67) rfl
theorem eX6_put_126 : (126, Instr.iconst 0, 1, 0, 0, 0) ∈ kX6_put := List.mem_of_getElem? (i := 68) rfl
theorem eX6_put_127 : (127, Instr.istore 9, 2, 0, 0, 0) ∈ kX6_put := List.mem_of_getElem? (i := 69) rfl
theorem eX6_put_129 : (129, Instr.iload 9, 2, 0, 0, 0) ∈ kX6_put := List.mem_of_getElem? (i := 70) rfl
theorem eX6_put_131 : (131, Instr.aload_n 0, 1, 0, 0, 0) ∈ kX6_put := List.mem_of_getElem? (i := 71) rfl
theorem eX6_put_132 : (132, Instr.getfield 116, 3, 6, 11, 580) ∈ kX6_put := List.mem_of_getElem? (i := 72) rfl
theorem eX6_put_135 : (135, Instr.if_icmp .ge 87, 3, 222, 0, 0) ∈ kX6_put := List.mem_of_getElem? (i := 73) rfl
theorem eX6_put_138 : (138, Instr.aload_n 0, 1, 0, 0, 0) ∈ kX6_put := List.mem_of_getElem? (i := 74) rfl
theorem eX6_put_139 : (139, Instr.iload 7, 2, 0, 0, 0) ∈ kX6_put := List.mem_of_getElem? (i := 75) rfl
theorem eX6_put_141 : (141, Instr.iload 9, 2, 0, 0, 0) ∈ kX6_put := List.mem_of_getElem? (i := 76) rfl
theorem eX6_put_143 : (143, Instr.invokevirtual 139, 3, 88, 2, 708) ∈ kX6_put := List.mem_of_getElem? (i := 77) rfl
theorem eX6_put_146 : (146, Instr.ifCond .ne 6, 3, 152, 0, 0) ∈ kX6_put := List.mem_of_getElem? (i := 78) rfl
theorem eX6_put_149 : (149, Instr.goto 67, 3, 216, 0, 0) ∈ kX6_put := List.mem_of_getElem? (i := 79) rfl
theorem eX6_put_152 : (152, Instr.iload 8, 2, 0, 0, 0) ∈ kX6_put := List.mem_of_getElem? (i := 80) rfl
theorem eX6_put_154 : (154, Instr.ifCond .lt 58, 3, 212, 0, 0) ∈ kX6_put := List.mem_of_getElem? (i := 81) rfl
theorem eX6_put_157 : (157, Instr.aload_n 0, 1, 0, 0, 0) ∈ kX6_put := List.mem_of_getElem? (i := 82) rfl
theorem eX6_put_158 : (158, Instr.iload 7, 2, 0, 0, 0) ∈ kX6_put := List.mem_of_getElem? (i := 83) rfl
theorem eX6_put_160 : (160, Instr.iload 9, 2, 0, 0, 0) ∈ kX6_put := List.mem_of_getElem? (i := 84) rfl
theorem eX6_put_162 : (162, Instr.invokevirtual 142, 3, 90, 2, 720) ∈ kX6_put := List.mem_of_getElem? (i := 85) rfl
theorem eX6_put_165 : (165, Instr.aload_n 0, 1, 0, 0, 0) ∈ kX6_put := List.mem_of_getElem? (i := 86) rfl
theorem eX6_put_166 : (166, Instr.iload 7, 2, 0, 0, 0) ∈ kX6_put := List.mem_of_getElem? (i := 87) rfl
theorem eX6_put_168 : (168, Instr.iload 8, 2, 0, 0, 0) ∈ kX6_put := List.mem_of_getElem? (i := 88) rfl
theorem eX6_put_170 : (170, Instr.invokevirtual 142, 3, 90, 2, 720) ∈ kX6_put := List.mem_of_getElem? (i := 89) rfl
theorem eX6_put_173 : (173, Instr.if_icmp .lt 39, 3, 212, 0, 0) ∈ kX6_put := List.mem_of_getElem? (i := 90) rfl
theorem eX6_put_176 : (176, Instr.aload_n 0, 1, 0, 0, 0) ∈ kX6_put := List.mem_of_getElem? (i := 91) rfl
theorem eX6_put_177 : (177, Instr.iload 7, 2, 0, 0, 0) ∈ kX6_put := List.mem_of_getElem? (i := 92) rfl
theorem eX6_put_179 : (179, Instr.iload 9, 2, 0, 0, 0) ∈ kX6_put := List.mem_of_getElem? (i := 93) rfl
theorem eX6_put_181 : (181, Instr.invokevirtual 142, 3, 90, 2, 720) ∈ kX6_put := List.mem_of_getElem? (i := 94) rfl
theorem eX6_put_184 : (184, Instr.aload_n 0, 1, 0, 0, 0) ∈ kX6_put := List.mem_of_getElem? (i := 95) rfl
theorem eX6_put_185 : (185, Instr.iload 7, 2, 0, 0, 0) ∈ kX6_put := List.mem_of_getElem? (i := 96) rfl
theorem eX6_put_187 : (187, Instr.iload 8, 2, 0, 0, 0) ∈ kX6_put := List.mem_of_getElem? (i := 97) rfl
theorem eX6_put_189 : (189, Instr.invokevirtual 142, 3, 90, 2, 720) ∈ kX6_put := List.mem_of_getElem? (i := 98) rfl
theorem eX6_put_192 : (192, Instr.if_icmp .ne 24, 3, 216, 0, 0) ∈ kX6_put := List.mem_of_getElem? (i := 99) rfl
theorem eX6_put_195 : (195, Instr.aload_n 0, 1, 0, 0, 0) ∈ kX6_put := List.mem_of_getElem? (i := 100) rfl
theorem eX6_put_196 : (196, Instr.getfield 35, 3, 6, 15, 584) ∈ kX6_put := List.mem_of_getElem? (i := 101) rfl
theorem eX6_put_199 : (199, Instr.iload 9, 2, 0, 0, 0) ∈ kX6_put := List.mem_of_getElem? (i := 102) rfl
theorem eX6_put_201 : (201, Instr.iaload, 1, 0, 0, 0) ∈ kX6_put := List.mem_of_getElem? (i := 103) rfl
theorem eX6_put_202 : (202, Instr.aload_n 0, 1, 0, 0, 0) ∈ kX6_put := List.mem_of_getElem? (i := 104) rfl
theorem eX6_put_203 : (203, Instr.getfield 35, 3, 6, 15, 584) ∈ kX6_put := List.mem_of_getElem? (i := 105) rfl
theorem eX6_put_206 : (206, Instr.iload 8, 2, 0, 0, 0) ∈ kX6_put := List.mem_of_getElem? (i := 106) rfl
theorem eX6_put_208 : (208, Instr.iaload, 1, 0, 0, 0) ∈ kX6_put := List.mem_of_getElem? (i := 107) rfl
theorem eX6_put_209 : (209, Instr.if_icmp .ge 7, 3, 216, 0, 0) ∈ kX6_put := List.mem_of_getElem? (i := 108) rfl
theorem eX6_put_212 : (212, Instr.iload 9, 2, 0, 0, 0) ∈ kX6_put := List.mem_of_getElem? (i := 109) rfl
theorem eX6_put_214 : (214, Instr.istore 8, 2, 0, 0, 0) ∈ kX6_put := List.mem_of_getElem? (i := 110) rfl
theorem eX6_put_216 : (216, Instr.iinc 9 1, 3, 0, 0, 0) ∈ kX6_put := List.mem_of_getElem? (i := 111) rfl
theorem eX6_put_219 : (219, Instr.goto (-90), 3, 129, 0, 0) ∈ kX6_put := List.mem_of_getElem? (i := 112) rfl
theorem eX6_put_222 : (222, Instr.iload 8, 2, 0, 0, 0) ∈ kX6_put := List.mem_of_getElem? (i := 113) rfl
theorem eX6_put_224 : (224, Instr.ifCond .ge 6, 3, 230, 0, 0) ∈ kX6_put := List.mem_of_getElem? (i := 114) rfl
theorem eX6_put_227 : (227, Instr.bipush (-5), 2, 0, 0, 0) ∈ kX6_put := List.mem_of_getElem? (i := 115) rfl
theorem eX6_put_229 : (229, Instr.ireturn, 1, 0, 0, 0) ∈ kX6_put := List.mem_of_getElem? (i := 116) rfl
theorem eX6_put_230 : (230, Instr.aload_n 0, 1, 0, 0, 0) ∈ kX6_put := List.mem_of_getElem? (i := 117) rfl
theorem eX6_put_231 : (231, Instr.getfield 57, 3, 6, 22, 591) ∈ kX6_put := List.mem_of_getElem? (i := 118) rfl
theorem eX6_put_234 : (234, Instr.iload 7, 2, 0, 0, 0) ∈ kX6_put := List.mem_of_getElem? (i := 119) rfl
theorem eX6_put_236 : (236, Instr.aload_n 0, 1, 0, 0, 0) ∈ kX6_put := List.mem_of_getElem? (i := 120) rfl
theorem eX6_put_237 : (237, Instr.getfield 96, 3, 6, 0, 569) ∈ kX6_put := List.mem_of_getElem? (i := 121) rfl
theorem eX6_put_240 : (240, Instr.iastore, 1, 0, 0, 0) ∈ kX6_put := List.mem_of_getElem? (i := 122) rfl
theorem eX6_put_241 : (241, Instr.aload_n 0, 1, 0, 0, 0) ∈ kX6_put := List.mem_of_getElem? (i := 123) rfl
theorem eX6_put_242 : (242, Instr.getfield 60, 3, 6, 23, 592) ∈ kX6_put := List.mem_of_getElem? (i := 124) rfl
theorem eX6_put_245 : (245, Instr.iload 7, 2, 0, 0, 0) ∈ kX6_put := List.mem_of_getElem? (i := 125) rfl
theorem eX6_put_247 : (247, Instr.iconst 0, 1, 0, 0, 0) ∈ kX6_put := List.mem_of_getElem? (i := 126) rfl
theorem eX6_put_248 : (248, Instr.iastore, 1, 0, 0, 0) ∈ kX6_put := List.mem_of_getElem? (i := 127) rfl
theorem eX6_put_249 : (249, Instr.aload_n 0, 1, 0, 0, 0) ∈ kX6_put := List.mem_of_getElem? (i := 128) rfl
theorem eX6_put_250 : (250, Instr.getfield 63, 3, 6, 24, 593) ∈ kX6_put := List.mem_of_getElem? (i := 129) rfl
theorem eX6_put_253 : (253, Instr.iload 7, 2, 0, 0, 0) ∈ kX6_put := List.mem_of_getElem? (i := 130) rfl
theorem eX6_put_255 : (255, Instr.iload 8, 2, 0, 0, 0) ∈ kX6_put := List.mem_of_getElem? (i := 131) rfl
theorem eX6_put_257 : (257, Instr.iastore, 1, 0, 0, 0) ∈ kX6_put := List.mem_of_getElem? (i := 132) rfl
theorem eX6_put_258 : (258, Instr.aload_n 0, 1, 0, 0, 0) ∈ kX6_put := List.mem_of_getElem? (i := 133) rfl
theorem eX6_put_259 : (259, Instr.getfield 66, 3, 6, 25, 594) ∈ kX6_put := List.mem_of_getElem? (i := 134) rfl
theorem eX6_put_262 : (262, Instr.iload 7, 2, 0, 0, 0) ∈ kX6_put := List.mem_of_getElem? (i := 135) rfl
theorem eX6_put_264 : (264, Instr.iconst 0, 1, 0, 0, 0) ∈ kX6_put := List.mem_of_getElem? (i := 136) rfl
theorem eX6_put_265 : (265, Instr.iastore, 1, 0, 0, 0) ∈ kX6_put := List.mem_of_getElem? (i := 137) rfl
theorem eX6_put_266 : (266, Instr.aload_n 0, 1, 0, 0, 0) ∈ kX6_put := List.mem_of_getElem? (i := 138) rfl
theorem eX6_put_267 : (267, Instr.getfield 69, 3, 6, 26, 595) ∈ kX6_put := List.mem_of_getElem? (i := 139) rfl
theorem eX6_put_270 : (270, Instr.iload 7, 2, 0, 0, 0) ∈ kX6_put := List.mem_of_getElem? (i := 140) rfl
theorem eX6_put_272 : (272, Instr.iconst (-1), 1, 0, 0, 0) ∈ kX6_put := List.mem_of_getElem? (i := 141) rfl
theorem eX6_put_273 : (273, Instr.iastore, 1, 0, 0, 0) ∈ kX6_put := List.mem_of_getElem? (i := 142) rfl
theorem eX6_put_274 : (274, Instr.aload_n 0, 1, 0, 0, 0) ∈ kX6_put := List.mem_of_getElem? (i := 143) rfl
theorem eX6_put_275 : (275, Instr.dup, 1, 0, 0, 0) ∈ kX6_put := List.mem_of_getElem? (i := 144) rfl
theorem eX6_put_276 : (276, Instr.getfield 107, 3, 6, 12, 581) ∈ kX6_put := List.mem_of_getElem? (i := 145) rfl
theorem eX6_put_279 : (279, Instr.iconst 1, 1, 0, 0, 0) ∈ kX6_put := List.mem_of_getElem? (i := 146) rfl
theorem eX6_put_280 : (280, Instr.iadd, 1, 0, 0, 0) ∈ kX6_put := List.mem_of_getElem? (i := 147) rfl
theorem eX6_put_281 : (281, Instr.putfield 107, 3, 6, 12, 581) ∈ kX6_put := List.mem_of_getElem? (i := 148) rfl
theorem eX6_put_284 : (284, Instr.aload_n 0, 1, 0, 0, 0) ∈ kX6_put := List.mem_of_getElem? (i := 149) rfl
theorem eX6_put_285 : (285, Instr.dup, 1, 0, 0, 0) ∈ kX6_put := List.mem_of_getElem? (i := 150) rfl
theorem eX6_put_286 : (286, Instr.getfield 145, 3, 6, 4, 573) ∈ kX6_put := List.mem_of_getElem? (i := 151) rfl
theorem eX6_put_289 : (289, Instr.iconst 2, 1, 0, 0, 0) ∈ kX6_put := List.mem_of_getElem? (i := 152) rfl
theorem eX6_put_290 : (290, Instr.aload_n 0, 1, 0, 0, 0) ∈ kX6_put := List.mem_of_getElem? (i := 153) rfl
theorem eX6_put_291 : (291, Instr.getfield 35, 3, 6, 15, 584) ∈ kX6_put := List.mem_of_getElem? (i := 154) rfl
theorem eX6_put_294 : (294, Instr.iload 8, 2, 0, 0, 0) ∈ kX6_put := List.mem_of_getElem? (i := 155) rfl
theorem eX6_put_296 : (296, Instr.iaload, 1, 0, 0, 0) ∈ kX6_put := List.mem_of_getElem? (i := 156) rfl
theorem eX6_put_297 : (297, Instr.imul, 1, 0, 0, 0) ∈ kX6_put := List.mem_of_getElem? (i := 157) rfl
theorem eX6_put_298 : (298, Instr.iadd, 1, 0, 0, 0) ∈ kX6_put := List.mem_of_getElem? (i := 158) rfl
theorem eX6_put_299 : (299, Instr.putfield 145, 3, 6, 4, 573) ∈ kX6_put := List.mem_of_getElem? (i := 159) rfl
theorem eX6_put_302 : (302, Instr.iload 7, 2, 0, 0, 0) ∈ kX6_put := List.mem_of_getElem? (i := 160) rfl
theorem eX6_put_304 : (304, Instr.invokestatic 148, 3, 91, 1, 731) ∈ kX6_put := List.mem_of_getElem? (i := 161) rfl
theorem eX6_put_307 : (307, Instr.ireturn, 1, 0, 0, 0) ∈ kX6_put := List.mem_of_getElem? (i := 162) rfl
theorem aX6_feeOf : am_m nX6_feeOf = mX6_feeOf := rfl
theorem eX6_feeOf_0 : (0, Instr.aload_n 0, 1, 0, 0, 0) ∈ kX6_feeOf := List.mem_of_getElem? (i := 0) rfl
theorem eX6_feeOf_1 : (1, Instr.getfield 57, 3, 6, 22, 591) ∈ kX6_feeOf := List.mem_of_getElem? (i := 1) rfl
theorem eX6_feeOf_4 : (4, Instr.iload_n 1, 1, 0, 0, 0) ∈ kX6_feeOf := List.mem_of_getElem? (i := 2) rfl
theorem eX6_feeOf_5 : (5, Instr.iaload, 1, 0, 0, 0) ∈ kX6_feeOf := List.mem_of_getElem? (i := 3) rfl
theorem eX6_feeOf_6 : (6, Instr.sipush 1440, 3, 0, 0, 0) ∈ kX6_feeOf := List.mem_of_getElem? (i := 4) rfl
theorem eX6_feeOf_9 : (9, Instr.idiv, 1, 0, 0, 0) ∈ kX6_feeOf := List.mem_of_getElem? (i := 5) rfl
theorem eX6_feeOf_10 : (10, Instr.istore_n 2, 1, 0, 0, 0) ∈ kX6_feeOf := List.mem_of_getElem? (i := 6) rfl
theorem eX6_feeOf_11 : (11, Instr.aload_n 0, 1, 0, 0, 0) ∈ kX6_feeOf := List.mem_of_getElem? (i := 7) rfl
theorem eX6_feeOf_12 : (12, Instr.getfield 69, 3, 6, 26, 595) ∈ kX6_feeOf := List.mem_of_getElem? (i := 8) rfl
theorem eX6_feeOf_15 : (15, Instr.iload_n 1, 1, 0, 0, 0) ∈ kX6_feeOf := List.mem_of_getElem? (i := 9) rfl
theorem eX6_feeOf_16 : (16, Instr.iaload, 1, 0, 0, 0) ∈ kX6_feeOf := List.mem_of_getElem? (i := 10) rfl
theorem eX6_feeOf_17 : (17, Instr.ifCond .lt 12, 3, 29, 0, 0) ∈ kX6_feeOf := List.mem_of_getElem? (i := 11) rfl
theorem eX6_feeOf_20 : (20, Instr.aload_n 0, 1, 0, 0, 0) ∈ kX6_feeOf := List.mem_of_getElem? (i := 12) rfl
theorem eX6_feeOf_21 : (21, Instr.getfield 69, 3, 6, 26, 595) ∈ kX6_feeOf := List.mem_of_getElem? (i := 13) rfl
theorem eX6_feeOf_24 : (24, Instr.iload_n 1, 1, 0, 0, 0) ∈ kX6_feeOf := List.mem_of_getElem? (i := 14) rfl
theorem eX6_feeOf_25 : (25, Instr.iaload, 1, 0, 0, 0) ∈ kX6_feeOf := List.mem_of_getElem? (i := 15) rfl
theorem eX6_feeOf_26 : (26, Instr.goto 11, 3, 37, 0, 0) ∈ kX6_feeOf := List.mem_of_getElem? (i := 16) rfl
theorem eX6_feeOf_29 : (29, Instr.aload_n 0, 1, 0, 0, 0) ∈ kX6_feeOf := List.mem_of_getElem? (i := 17) rfl
theorem eX6_feeOf_30 : (30, Instr.getfield 96, 3, 6, 0, 569) ∈ kX6_feeOf := List.mem_of_getElem? (i := 18) rfl
theorem eX6_feeOf_33 : (33, Instr.sipush 1440, 3, 0, 0, 0) ∈ kX6_feeOf := List.mem_of_getElem? (i := 19) rfl
theorem eX6_feeOf_36 : (36, Instr.idiv, 1, 0, 0, 0) ∈ kX6_feeOf := List.mem_of_getElem? (i := 20) rfl
theorem eX6_feeOf_37 : (37, Instr.istore_n 3, 1, 0, 0, 0) ∈ kX6_feeOf := List.mem_of_getElem? (i := 21) rfl
theorem eX6_feeOf_38 : (38, Instr.aload_n 0, 1, 0, 0, 0) ∈ kX6_feeOf := List.mem_of_getElem? (i := 22) rfl
theorem eX6_feeOf_39 : (39, Instr.iload_n 2, 1, 0, 0, 0) ∈ kX6_feeOf := List.mem_of_getElem? (i := 23) rfl
theorem eX6_feeOf_40 : (40, Instr.invokevirtual 151, 3, 84, 1, 746) ∈ kX6_feeOf := List.mem_of_getElem? (i := 24) rfl
theorem eX6_feeOf_43 : (43, Instr.ifCond .ge 7, 3, 50, 0, 0) ∈ kX6_feeOf := List.mem_of_getElem? (i := 25) rfl
theorem eX6_feeOf_46 : (46, Instr.iconst 0, 1, 0, 0, 0) ∈ kX6_feeOf := List.mem_of_getElem? (i := 26) rfl
theorem eX6_feeOf_47 : (47, Instr.goto 13, 3, 60, 0, 0) ∈ kX6_feeOf := List.mem_of_getElem? (i := 27) rfl
theorem eX6_feeOf_50 : (50, Instr.aload_n 0, 1, 0, 0, 0) ∈ kX6_feeOf := List.mem_of_getElem? (i := 28) rfl
theorem eX6_feeOf_51 : (51, Instr.getfield 17, 3, 6, 7, 576) ∈ kX6_feeOf := List.mem_of_getElem? (i := 29) rfl
theorem eX6_feeOf_54 : (54, Instr.aload_n 0, 1, 0, 0, 0) ∈ kX6_feeOf := List.mem_of_getElem? (i := 30) rfl
theorem eX6_feeOf_55 : (55, Instr.iload_n 2, 1, 0, 0, 0) ∈ kX6_feeOf := List.mem_of_getElem? (i := 31) rfl
theorem eX6_feeOf_56 : (56, Instr.invokevirtual 151, 3, 84, 1, 746) ∈ kX6_feeOf := List.mem_of_getElem? (i := 32) rfl
theorem eX6_feeOf_59 : (59, Instr.iaload, 1, 0, 0, 0) ∈ kX6_feeOf := List.mem_of_getElem? (i := 33) rfl
theorem eX6_feeOf_60 : (60, Instr.istore 4, 2, 0, 0, 0) ∈ kX6_feeOf := List.mem_of_getElem? (i := 34) rfl
theorem eX6_feeOf_62 : (62, Instr.iload_n 2, 1, 0, 0, 0) ∈ kX6_feeOf := List.mem_of_getElem? (i := 35) rfl
theorem eX6_feeOf_63 : (63, Instr.istore 5, 2, 0, 0, 0) ∈ kX6_feeOf := List.mem_of_getElem? (i := 36) rfl
theorem eX6_feeOf_65 : (65, Instr.iload 5, 2, 0, 0, 0) ∈ kX6_feeOf := List.mem_of_getElem? (i := 37) rfl
theorem eX6_feeOf_67 : (67, Instr.iload_n 3, 1, 0, 0, 0) ∈ kX6_feeOf := List.mem_of_getElem? (i := 38) rfl
theorem eX6_feeOf_68 : (68, Instr.if_icmp .gt 99, 3, 167, 0, 0) ∈ kX6_feeOf := List.mem_of_getElem? (i := 39) rfl
theorem eX6_feeOf_71 : (71, Instr.aload_n 0, 1, 0, 0, 0) ∈ kX6_feeOf := List.mem_of_getElem? (i := 40) rfl
theorem eX6_feeOf_72 : (72, Instr.iload 5, 2, 0, 0, 0) ∈ kX6_feeOf := List.mem_of_getElem? (i := 41) rfl
theorem eX6_feeOf_74 : (74, Instr.invokevirtual 151, 3, 84, 1, 746) ∈ kX6_feeOf := List.mem_of_getElem? (i := 42) rfl
theorem eX6_feeOf_77 : (77, Instr.istore 6, 2, 0, 0, 0) ∈ kX6_feeOf := List.mem_of_getElem? (i := 43) rfl
theorem eX6_feeOf_79 : (79, Instr.iload 6, 2, 0, 0, 0) ∈ kX6_feeOf := List.mem_of_getElem? (i := 44) rfl
theorem eX6_feeOf_81 : (81, Instr.ifCond .ge 6, 3, 87, 0, 0) ∈ kX6_feeOf := List.mem_of_getElem? (i := 45) rfl
theorem eX6_feeOf_84 : (84, Instr.goto 77, 3, 161, 0, 0) ∈ kX6_feeOf := List.mem_of_getElem? (i := 46) rfl
theorem eX6_feeOf_87 : (87, Instr.aload_n 0, 1, 0, 0, 0) ∈ kX6_feeOf := List.mem_of_getElem? (i := 47) rfl
theorem eX6_feeOf_88 : (88, Instr.getfield 20, 3, 6, 8, 577) ∈ kX6_feeOf := List.mem_of_getElem? (i := 48) rfl
theorem eX6_feeOf_91 : (91, Instr.iload 6, 2, 0, 0, 0) ∈ kX6_feeOf := List.mem_of_getElem? (i := 49) rfl
theorem eX6_feeOf_93 : (93, Instr.iaload, 1, 0, 0, 0) ∈ kX6_feeOf := List.mem_of_getElem? (i := 50) rfl
theorem eX6_feeOf_94 : (94, Instr.aload_n 0, 1, 0, 0, 0) ∈ kX6_feeOf := List.mem_of_getElem? (i := 51) rfl
theorem eX6_feeOf_95 : (95, Instr.getfield 23, 3, 6, 9, 578) ∈ kX6_feeOf := List.mem_of_getElem? (i := 52) rfl
theorem eX6_feeOf_98 : (98, Instr.iload 6, 2, 0, 0, 0) ∈ kX6_feeOf := List.mem_of_getElem? (i := 53) rfl
theorem eX6_feeOf_100 : (100, Instr.iaload, 1, 0, 0, 0) ∈ kX6_feeOf := List.mem_of_getElem? (i := 54) rfl
theorem eX6_feeOf_101 : (101, Instr.aload_n 0, 1, 0, 0, 0) ∈ kX6_feeOf := List.mem_of_getElem? (i := 55) rfl
theorem eX6_feeOf_102 : (102, Instr.getfield 45, 3, 6, 18, 587) ∈ kX6_feeOf := List.mem_of_getElem? (i := 56) rfl
theorem eX6_feeOf_105 : (105, Instr.iload_n 1, 1, 0, 0, 0) ∈ kX6_feeOf := List.mem_of_getElem? (i := 57) rfl
theorem eX6_feeOf_106 : (106, Instr.iaload, 1, 0, 0, 0) ∈ kX6_feeOf := List.mem_of_getElem? (i := 58) rfl
theorem eX6_feeOf_107 : (107, Instr.imul, 1, 0, 0, 0) ∈ kX6_feeOf := List.mem_of_getElem? (i := 59) rfl
theorem eX6_feeOf_108 : (108, Instr.iadd, 1, 0, 0, 0) ∈ kX6_feeOf := List.mem_of_getElem? (i := 60) rfl
theorem eX6_feeOf_109 : (109, Instr.aload_n 0, 1, 0, 0, 0) ∈ kX6_feeOf := List.mem_of_getElem? (i := 61) rfl
theorem eX6_feeOf_110 : (110, Instr.getfield 72, 3, 6, 27, 596) ∈ kX6_feeOf := List.mem_of_getElem? (i := 62) rfl
theorem eX6_feeOf_113 : (113, Instr.iload_n 1, 1, 0, 0, 0) ∈ kX6_feeOf := List.mem_of_getElem? (i := 63) rfl
theorem eX6_feeOf_114 : (114, Instr.baload, 1, 0, 0, 0) ∈ kX6_feeOf := List.mem_of_getElem? (i := 64) rfl
theorem eX6_feeOf_115 : (115, Instr.ifCond .eq 13, 3, 128, 0, 0) ∈ kX6_feeOf := List.mem_of_getElem? (i := 65) rfl
theorem eX6_feeOf_118 : (118, Instr.aload_n 0, 1, 0, 0, 0) ∈ kX6_feeOf := List.mem_of_getElem? (i := 66) rfl
theorem eX6_feeOf_119 : (119, Instr.getfield 26, 3, 6, 10, 579) ∈ kX6_feeOf := List.mem_of_getElem? (i := 67) rfl
theorem eX6_feeOf_122 : (122, Instr.iload 6, 2, 0, 0, 0) ∈ kX6_feeOf := List.mem_of_getElem? (i := 68) rfl
theorem eX6_feeOf_124 : (124, Instr.iaload, 1, 0, 0, 0) ∈ kX6_feeOf := List.mem_of_getElem? (i := 69) rfl
theorem eX6_feeOf_125 : (125, Instr.goto 4, 3, 129, 0, 0) ∈ kX6_feeOf := List.mem_of_getElem? (i := 70) rfl
theorem eX6_feeOf_128 : (128, Instr.iconst 0, 1, 0, 0, 0) ∈ kX6_feeOf := List.mem_of_getElem? (i := 71) rfl
theorem eX6_feeOf_129 : (129, Instr.iadd, 1, 0, 0, 0) ∈ kX6_feeOf := List.mem_of_getElem? (i := 72) rfl
theorem eX6_feeOf_130 : (130, Instr.istore 7, 2, 0, 0, 0) ∈ kX6_feeOf := List.mem_of_getElem? (i := 73) rfl
theorem eX6_feeOf_132 : (132, Instr.iload 4, 2, 0, 0, 0) ∈ kX6_feeOf := List.mem_of_getElem? (i := 74) rfl
theorem eX6_feeOf_134 : (134, Instr.iload 5, 2, 0, 0, 0) ∈ kX6_feeOf := List.mem_of_getElem? (i := 75) rfl
theorem eX6_feeOf_136 : (136, Instr.aload_n 0, 1, 0, 0, 0) ∈ kX6_feeOf := List.mem_of_getElem? (i := 76) rfl
theorem eX6_feeOf_137 : (137, Instr.getfield 54, 3, 6, 21, 590) ∈ kX6_feeOf := List.mem_of_getElem? (i := 77) rfl
theorem eX6_feeOf_140 : (140, Instr.iload_n 1, 1, 0, 0, 0) ∈ kX6_feeOf := List.mem_of_getElem? (i := 78) rfl
theorem eX6_feeOf_141 : (141, Instr.iaload, 1, 0, 0, 0) ∈ kX6_feeOf := List.mem_of_getElem? (i := 79) rfl
theorem eX6_feeOf_142 : (142, Instr.sipush 1440, 3, 0, 0, 0) ∈ kX6_feeOf := List.mem_of_getElem? (i := 80) rfl
theorem eX6_feeOf_145 : (145, Instr.idiv, 1, 0, 0, 0) ∈ kX6_feeOf := List.mem_of_getElem? (i := 81) rfl
theorem eX6_feeOf_146 : (146, Instr.if_icmp .le 10, 3, 156, 0, 0) ∈ kX6_feeOf := List.mem_of_getElem? (i := 82) rfl
theorem eX6_feeOf_149 : (149, Instr.iconst 2, 1, 0, 0, 0) ∈ kX6_feeOf := List.mem_of_getElem? (i := 83) rfl
theorem eX6_feeOf_150 : (150, Instr.iload 7, 2, 0, 0, 0) ∈ kX6_feeOf := List.mem_of_getElem? (i := 84) rfl
theorem eX6_feeOf_152 : (152, Instr.imul, 1, 0, 0, 0) ∈ kX6_feeOf := List.mem_of_getElem? (i := 85) rfl
theorem eX6_feeOf_153 : (153, Instr.goto 5, 3, 158, 0, 0) ∈ kX6_feeOf := List.mem_of_getElem? (i := 86) rfl
theorem eX6_feeOf_156 : (156, Instr.iload 7, 2, 0, 0, 0) ∈ kX6_feeOf := List.mem_of_getElem? (i := 87) rfl
theorem eX6_feeOf_158 : (158, Instr.iadd, 1, 0, 0, 0) ∈ kX6_feeOf := List.mem_of_getElem? (i := 88) rfl
theorem eX6_feeOf_159 : (159, Instr.istore 4, 2, 0, 0, 0) ∈ kX6_feeOf := List.mem_of_getElem? (i := 89) rfl
theorem eX6_feeOf_161 : (161, Instr.iinc 5 1, 3, 0, 0, 0) ∈ kX6_feeOf := List.mem_of_getElem? (i := 90) rfl
theorem eX6_feeOf_164 : (164, Instr.goto (-99), 3, 65, 0, 0) ∈ kX6_feeOf := List.mem_of_getElem? (i := 91) rfl
theorem eX6_feeOf_167 : (167, Instr.iload 4, 2, 0, 0, 0) ∈ kX6_feeOf := List.mem_of_getElem? (i := 92) rfl
theorem eX6_feeOf_169 : (169, Instr.ireturn, 1, 0, 0, 0) ∈ kX6_feeOf := List.mem_of_getElem? (i := 93) rfl
theorem aX6_thingOf : am_m nX6_thingOf = mX6_thingOf := rfl
theorem eX6_thingOf_0 : (0, Instr.iload_n 1, 1, 0, 0, 0) ∈ kX6_thingOf := List.mem_of_getElem? (i := 0) rfl
theorem eX6_thingOf_1 : (1, Instr.ifCond .lt 23, 3, 24, 0, 0) ∈ kX6_thingOf := List.mem_of_getElem? (i := 1) rfl
theorem eX6_thingOf_4 : (4, Instr.iload_n 1, 1, 0, 0, 0) ∈ kX6_thingOf := List.mem_of_getElem? (i := 2) rfl
theorem eX6_thingOf_5 : (5, Instr.bipush 100, 2, 0, 0, 0) ∈ kX6_thingOf := List.mem_of_getElem? (i := 3) rfl
theorem eX6_thingOf_7 : (7, Instr.irem, 1, 0, 0, 0) ∈ kX6_thingOf := List.mem_of_getElem? (i := 4) rfl
theorem eX6_thingOf_8 : (8, Instr.bipush 37, 2, 0, 0, 0) ∈ kX6_thingOf := List.mem_of_getElem? (i := 5) rfl
theorem eX6_thingOf_10 : (10, Instr.iload_n 1, 1, 0, 0, 0) ∈ kX6_thingOf := List.mem_of_getElem? (i := 6) rfl
theorem eX6_thingOf_11 : (11, Instr.bipush 100, 2, 0, 0, 0) ∈ kX6_thingOf := List.mem_of_getElem? (i := 7) rfl
theorem eX6_thingOf_13 : (13, Instr.idiv, 1, 0, 0, 0) ∈ kX6_thingOf := List.mem_of_getElem? (i := 8) rfl
theorem eX6_thingOf_14 : (14, Instr.imul, 1, 0, 0, 0) ∈ kX6_thingOf := List.mem_of_getElem? (i := 9) rfl
theorem eX6_thingOf_15 : (15, Instr.bipush 11, 2, 0, 0, 0) ∈ kX6_thingOf := List.mem_of_getElem? (i := 10) rfl
theorem eX6_thingOf_17 : (17, Instr.iadd, 1, 0, 0, 0) ∈ kX6_thingOf := List.mem_of_getElem? (i := 11) rfl
theorem eX6_thingOf_18 : (18, Instr.bipush 97, 2, 0, 0, 0) ∈ kX6_thingOf := List.mem_of_getElem? (i := 12) rfl
theorem eX6_thingOf_20 : (20, Instr.irem, 1, 0, 0, 0) ∈ kX6_thingOf := List.mem_of_getElem? (i := 13) rfl
theorem eX6_thingOf_21 : (21, Instr.if_icmp .eq 6, 3, 27, 0, 0) ∈ kX6_thingOf := List.mem_of_getElem? (i := 14) rfl
theorem eX6_thingOf_24 : (24, Instr.bipush (-2), 2, 0, 0, 0) ∈ kX6_thingOf := List.mem_of_getElem? (i := 15) rfl
theorem eX6_thingOf_26 : (26, Instr.ireturn, 1, 0, 0, 0) ∈ kX6_thingOf := List.mem_of_getElem? (i := 16) rfl
theorem eX6_thingOf_27 : (27, Instr.iload_n 1, 1, 0, 0, 0) ∈ kX6_thingOf := List.mem_of_getElem? (i := 17) rfl
theorem eX6_thingOf_28 : (28, Instr.bipush 100, 2, 0, 0, 0) ∈ kX6_thingOf := List.mem_of_getElem? (i := 18) rfl
theorem eX6_thingOf_30 : (30, Instr.idiv, 1, 0, 0, 0) ∈ kX6_thingOf := List.mem_of_getElem? (i := 19) rfl
theorem eX6_thingOf_31 : (31, Instr.aload_n 0, 1, 0, 0, 0) ∈ kX6_thingOf := List.mem_of_getElem? (i := 20) rfl
theorem eX6_thingOf_32 : (32, Instr.getfield 107, 3, 6, 12, 581) ∈ kX6_thingOf := List.mem_of_getElem? (i := 21) rfl
theorem eX6_thingOf_35 : (35, Instr.if_icmp .ge 10, 3, 45, 0, 0) ∈ kX6_thingOf := List.mem_of_getElem? (i := 22) rfl
theorem eX6_thingOf_38 : (38, Instr.iload_n 1, 1, 0, 0, 0) ∈ kX6_thingOf := List.mem_of_getElem? (i := 23) rfl
theorem eX6_thingOf_39 : (39, Instr.bipush 100, 2, 0, 0, 0) ∈ kX6_thingOf := List.mem_of_getElem? (i := 24) rfl
theorem eX6_thingOf_41 : (41, Instr.idiv, 1, 0, 0, 0) ∈ kX6_thingOf := List.mem_of_getElem? (i := 25) rfl
theorem eX6_thingOf_42 : (42, Instr.goto 5, 3, 47, 0, 0) ∈ kX6_thingOf := List.mem_of_getElem? (i := 26) rfl
theorem eX6_thingOf_45 : (45, Instr.bipush (-3), 2, 0, 0, 0) ∈ kX6_thingOf := List.mem_of_getElem? (i := 27) rfl
theorem eX6_thingOf_47 : (47, Instr.ireturn, 1, 0, 0, 0) ∈ kX6_thingOf := List.mem_of_getElem? (i := 28) rfl
theorem aX6_fee : am_m nX6_fee = mX6_fee := rfl
theorem eX6_fee_0 : (0, Instr.aload_n 0, 1, 0, 0, 0) ∈ kX6_fee := List.mem_of_getElem? (i := 0) rfl
theorem eX6_fee_1 : (1, Instr.iload_n 1, 1, 0, 0, 0) ∈ kX6_fee := List.mem_of_getElem? (i := 1) rfl
theorem eX6_fee_2 : (2, Instr.invokevirtual 154, 3, 94, 1, 738) ∈ kX6_fee := List.mem_of_getElem? (i := 2) rfl
theorem eX6_fee_5 : (5, Instr.istore_n 2, 1, 0, 0, 0) ∈ kX6_fee := List.mem_of_getElem? (i := 3) rfl
theorem eX6_fee_6 : (6, Instr.iload_n 2, 1, 0, 0, 0) ∈ kX6_fee := List.mem_of_getElem? (i := 4) rfl
theorem eX6_fee_7 : (7, Instr.ifCond .ge 5, 3, 12, 0, 0) ∈ kX6_fee := List.mem_of_getElem? (i := 5) rfl
theorem eX6_fee_10 : (10, Instr.iload_n 2, 1, 0, 0, 0) ∈ kX6_fee := List.mem_of_getElem? (i := 6) rfl
theorem eX6_fee_11 : (11, Instr.ireturn, 1, 0, 0, 0) ∈ kX6_fee := List.mem_of_getElem? (i := 7) rfl
theorem eX6_fee_12 : (12, Instr.aload_n 0, 1, 0, 0, 0) ∈ kX6_fee := List.mem_of_getElem? (i := 8) rfl
theorem eX6_fee_13 : (13, Instr.getfield 60, 3, 6, 23, 592) ∈ kX6_fee := List.mem_of_getElem? (i := 9) rfl
theorem eX6_fee_16 : (16, Instr.iload_n 2, 1, 0, 0, 0) ∈ kX6_fee := List.mem_of_getElem? (i := 10) rfl
theorem eX6_fee_17 : (17, Instr.iaload, 1, 0, 0, 0) ∈ kX6_fee := List.mem_of_getElem? (i := 11) rfl
theorem eX6_fee_18 : (18, Instr.ifCond .eq 13, 3, 31, 0, 0) ∈ kX6_fee := List.mem_of_getElem? (i := 12) rfl
theorem eX6_fee_21 : (21, Instr.aload_n 0, 1, 0, 0, 0) ∈ kX6_fee := List.mem_of_getElem? (i := 13) rfl
theorem eX6_fee_22 : (22, Instr.getfield 60, 3, 6, 23, 592) ∈ kX6_fee := List.mem_of_getElem? (i := 14) rfl
theorem eX6_fee_25 : (25, Instr.iload_n 2, 1, 0, 0, 0) ∈ kX6_fee := List.mem_of_getElem? (i := 15) rfl
theorem eX6_fee_26 : (26, Instr.iaload, 1, 0, 0, 0) ∈ kX6_fee := List.mem_of_getElem? (i := 16) rfl
theorem eX6_fee_27 : (27, Instr.iconst 2, 1, 0, 0, 0) ∈ kX6_fee := List.mem_of_getElem? (i := 17) rfl
theorem eX6_fee_28 : (28, Instr.if_icmp .ne 11, 3, 39, 0, 0) ∈ kX6_fee := List.mem_of_getElem? (i := 18) rfl
theorem eX6_fee_31 : (31, Instr.aload_n 0, 1, 0, 0, 0) ∈ kX6_fee := List.mem_of_getElem? (i := 19) rfl
theorem eX6_fee_32 : (32, Instr.iload_n 2, 1, 0, 0, 0) ∈ kX6_fee := List.mem_of_getElem? (i := 20) rfl
theorem eX6_fee_33 : (33, Instr.invokevirtual 157, 3, 93, 1, 742) ∈ kX6_fee := List.mem_of_getElem? (i := 21) rfl
theorem eX6_fee_36 : (36, Instr.goto 5, 3, 41, 0, 0) ∈ kX6_fee := List.mem_of_getElem? (i := 22) rfl
theorem eX6_fee_39 : (39, Instr.bipush (-4), 2, 0, 0, 0) ∈ kX6_fee := List.mem_of_getElem? (i := 23) rfl
theorem eX6_fee_41 : (41, Instr.ireturn, 1, 0, 0, 0) ∈ kX6_fee := List.mem_of_getElem? (i := 24) rfl
theorem aX6_leaves : am_m nX6_leaves = mX6_leaves := rfl
theorem eX6_leaves_0 : (0, Instr.aload_n 0, 1, 0, 0, 0) ∈ kX6_leaves := List.mem_of_getElem? (i := 0) rfl
theorem eX6_leaves_1 : (1, Instr.dup, 1, 0, 0, 0) ∈ kX6_leaves := List.mem_of_getElem? (i := 1) rfl
theorem eX6_leaves_2 : (2, Instr.getfield 145, 3, 6, 4, 573) ∈ kX6_leaves := List.mem_of_getElem? (i := 2) rfl
theorem eX6_leaves_5 : (5, Instr.iconst 2, 1, 0, 0, 0) ∈ kX6_leaves := List.mem_of_getElem? (i := 3) rfl
theorem eX6_leaves_6 : (6, Instr.aload_n 0, 1, 0, 0, 0) ∈ kX6_leaves := List.mem_of_getElem? (i := 4) rfl
theorem eX6_leaves_7 : (7, Instr.getfield 35, 3, 6, 15, 584) ∈ kX6_leaves := List.mem_of_getElem? (i := 5) rfl
theorem eX6_leaves_10 : (10, Instr.aload_n 0, 1, 0, 0, 0) ∈ kX6_leaves := List.mem_of_getElem? (i := 6) rfl
theorem eX6_leaves_11 : (11, Instr.getfield 63, 3, 6, 24, 593) ∈ kX6_leaves := List.mem_of_getElem? (i := 7) rfl
theorem eX6_leaves_14 : (14, Instr.iload_n 1, 1, 0, 0, 0) ∈ kX6_leaves := List.mem_of_getElem? (i := 8) rfl
theorem eX6_leaves_15 : (15, Instr.iaload, 1, 0, 0, 0) ∈ kX6_leaves := List.mem_of_getElem? (i := 9) rfl
theorem eX6_leaves_16 : (16, Instr.iaload, 1, 0, 0, 0) ∈ kX6_leaves := List.mem_of_getElem? (i := 10) rfl
theorem eX6_leaves_17 : (17, Instr.imul, 1, 0, 0, 0) ∈ kX6_leaves := List.mem_of_getElem? (i := 11) rfl
theorem eX6_leaves_18 : (18, Instr.iadd, 1, 0, 0, 0) ∈ kX6_leaves := List.mem_of_getElem? (i := 12) rfl
theorem eX6_leaves_19 : (19, Instr.putfield 145, 3, 6, 4, 573) ∈ kX6_leaves := List.mem_of_getElem? (i := 13) rfl
theorem eX6_leaves_22 : (22, Instr.aload_n 0, 1, 0, 0, 0) ∈ kX6_leaves := List.mem_of_getElem? (i := 14) rfl
theorem eX6_leaves_23 : (23, Instr.getfield 60, 3, 6, 23, 592) ∈ kX6_leaves := List.mem_of_getElem? (i := 15) rfl
theorem eX6_leaves_26 : (26, Instr.iload_n 1, 1, 0, 0, 0) ∈ kX6_leaves := List.mem_of_getElem? (i := 16) rfl
theorem eX6_leaves_27 : (27, Instr.iload_n 2, 1, 0, 0, 0) ∈ kX6_leaves := List.mem_of_getElem? (i := 17) rfl
theorem eX6_leaves_28 : (28, Instr.iastore, 1, 0, 0, 0) ∈ kX6_leaves := List.mem_of_getElem? (i := 18) rfl
theorem eX6_leaves_29 : (29, Instr.return_, 1, 0, 0, 0) ∈ kX6_leaves := List.mem_of_getElem? (i := 19) rfl
theorem aX6_give : am_m nX6_give = mX6_give := rfl
theorem eX6_give_0 : (0, Instr.aload_n 0, 1, 0, 0, 0) ∈ kX6_give := List.mem_of_getElem? (i := 0) rfl
theorem eX6_give_1 : (1, Instr.iload_n 1, 1, 0, 0, 0) ∈ kX6_give := List.mem_of_getElem? (i := 1) rfl
theorem eX6_give_2 : (2, Instr.invokevirtual 160, 3, 95, 1, 754) ∈ kX6_give := List.mem_of_getElem? (i := 2) rfl
theorem eX6_give_5 : (5, Instr.istore_n 2, 1, 0, 0, 0) ∈ kX6_give := List.mem_of_getElem? (i := 3) rfl
theorem eX6_give_6 : (6, Instr.iload_n 2, 1, 0, 0, 0) ∈ kX6_give := List.mem_of_getElem? (i := 4) rfl
theorem eX6_give_7 : (7, Instr.ifCond .ge 5, 3, 12, 0, 0) ∈ kX6_give := List.mem_of_getElem? (i := 5) rfl
theorem eX6_give_10 : (10, Instr.iload_n 2, 1, 0, 0, 0) ∈ kX6_give := List.mem_of_getElem? (i := 6) rfl
theorem eX6_give_11 : (11, Instr.ireturn, 1, 0, 0, 0) ∈ kX6_give := List.mem_of_getElem? (i := 7) rfl
theorem eX6_give_12 : (12, Instr.aload_n 0, 1, 0, 0, 0) ∈ kX6_give := List.mem_of_getElem? (i := 8) rfl
theorem eX6_give_13 : (13, Instr.iload_n 1, 1, 0, 0, 0) ∈ kX6_give := List.mem_of_getElem? (i := 9) rfl
theorem eX6_give_14 : (14, Instr.invokevirtual 154, 3, 94, 1, 738) ∈ kX6_give := List.mem_of_getElem? (i := 10) rfl
theorem eX6_give_17 : (17, Instr.istore_n 3, 1, 0, 0, 0) ∈ kX6_give := List.mem_of_getElem? (i := 11) rfl
theorem eX6_give_18 : (18, Instr.aload_n 0, 1, 0, 0, 0) ∈ kX6_give := List.mem_of_getElem? (i := 12) rfl
theorem eX6_give_19 : (19, Instr.getfield 60, 3, 6, 23, 592) ∈ kX6_give := List.mem_of_getElem? (i := 13) rfl
theorem eX6_give_22 : (22, Instr.iload_n 3, 1, 0, 0, 0) ∈ kX6_give := List.mem_of_getElem? (i := 14) rfl
theorem eX6_give_23 : (23, Instr.iaload, 1, 0, 0, 0) ∈ kX6_give := List.mem_of_getElem? (i := 15) rfl
theorem eX6_give_24 : (24, Instr.iconst 2, 1, 0, 0, 0) ∈ kX6_give := List.mem_of_getElem? (i := 16) rfl
theorem eX6_give_25 : (25, Instr.if_icmp .ne 6, 3, 31, 0, 0) ∈ kX6_give := List.mem_of_getElem? (i := 17) rfl
theorem eX6_give_28 : (28, Instr.bipush (-5), 2, 0, 0, 0) ∈ kX6_give := List.mem_of_getElem? (i := 18) rfl
theorem eX6_give_30 : (30, Instr.ireturn, 1, 0, 0, 0) ∈ kX6_give := List.mem_of_getElem? (i := 19) rfl
theorem eX6_give_31 : (31, Instr.aload_n 0, 1, 0, 0, 0) ∈ kX6_give := List.mem_of_getElem? (i := 20) rfl
theorem eX6_give_32 : (32, Instr.invokevirtual 135, 3, 80, 0, 704) ∈ kX6_give := List.mem_of_getElem? (i := 21) rfl
theorem eX6_give_35 : (35, Instr.ifCond .ne 6, 3, 41, 0, 0) ∈ kX6_give := List.mem_of_getElem? (i := 22) rfl
theorem eX6_give_38 : (38, Instr.bipush (-6), 2, 0, 0, 0) ∈ kX6_give := List.mem_of_getElem? (i := 23) rfl
theorem eX6_give_40 : (40, Instr.ireturn, 1, 0, 0, 0) ∈ kX6_give := List.mem_of_getElem? (i := 24) rfl
theorem eX6_give_41 : (41, Instr.aload_n 0, 1, 0, 0, 0) ∈ kX6_give := List.mem_of_getElem? (i := 25) rfl
theorem eX6_give_42 : (42, Instr.getfield 42, 3, 6, 17, 586) ∈ kX6_give := List.mem_of_getElem? (i := 26) rfl
theorem eX6_give_45 : (45, Instr.aload_n 0, 1, 0, 0, 0) ∈ kX6_give := List.mem_of_getElem? (i := 27) rfl
theorem eX6_give_46 : (46, Instr.getfield 63, 3, 6, 24, 593) ∈ kX6_give := List.mem_of_getElem? (i := 28) rfl
theorem eX6_give_49 : (49, Instr.iload_n 3, 1, 0, 0, 0) ∈ kX6_give := List.mem_of_getElem? (i := 29) rfl
theorem eX6_give_50 : (50, Instr.iaload, 1, 0, 0, 0) ∈ kX6_give := List.mem_of_getElem? (i := 30) rfl
theorem eX6_give_51 : (51, Instr.baload, 1, 0, 0, 0) ∈ kX6_give := List.mem_of_getElem? (i := 31) rfl
theorem eX6_give_52 : (52, Instr.ifCond .eq 6, 3, 58, 0, 0) ∈ kX6_give := List.mem_of_getElem? (i := 32) rfl
theorem eX6_give_55 : (55, Instr.bipush (-7), 2, 0, 0, 0) ∈ kX6_give := List.mem_of_getElem? (i := 33) rfl
theorem eX6_give_57 : (57, Instr.ireturn, 1, 0, 0, 0) ∈ kX6_give := List.mem_of_getElem? (i := 34) rfl
theorem eX6_give_58 : (58, Instr.aload_n 0, 1, 0, 0, 0) ∈ kX6_give := List.mem_of_getElem? (i := 35) rfl
theorem eX6_give_59 : (59, Instr.dup, 1, 0, 0, 0) ∈ kX6_give := List.mem_of_getElem? (i := 36) rfl
theorem eX6_give_60 : (60, Instr.getfield 110, 3, 6, 3, 572) ∈ kX6_give := List.mem_of_getElem? (i := 37) rfl
theorem eX6_give_63 : (63, Instr.iload_n 2, 1, 0, 0, 0) ∈ kX6_give := List.mem_of_getElem? (i := 38) rfl
theorem eX6_give_64 : (64, Instr.iadd, 1, 0, 0, 0) ∈ kX6_give := List.mem_of_getElem? (i := 39) rfl
theorem eX6_give_65 : (65, Instr.putfield 110, 3, 6, 3, 572) ∈ kX6_give := List.mem_of_getElem? (i := 40) rfl
theorem eX6_give_68 : (68, Instr.aload_n 0, 1, 0, 0, 0) ∈ kX6_give := List.mem_of_getElem? (i := 41) rfl
theorem eX6_give_69 : (69, Instr.iload_n 3, 1, 0, 0, 0) ∈ kX6_give := List.mem_of_getElem? (i := 42) rfl
theorem eX6_give_70 : (70, Instr.iconst 1, 1, 0, 0, 0) ∈ kX6_give := List.mem_of_getElem? (i := 43) rfl
theorem eX6_give_71 : (71, Instr.invokevirtual 163, 3, 96, 2, 755) ∈ kX6_give := List.mem_of_getElem? (i := 44) rfl
theorem eX6_give_74 : (74, Instr.iload_n 2, 1, 0, 0, 0) ∈ kX6_give := List.mem_of_getElem? (i := 45) rfl
theorem eX6_give_75 : (75, Instr.ireturn, 1, 0, 0, 0) ∈ kX6_give := List.mem_of_getElem? (i := 46) rfl
theorem aX6_claim : am_m nX6_claim = mX6_claim := rfl
theorem eX6_claim_0 : (0, Instr.aload_n 0, 1, 0, 0, 0) ∈ kX6_claim := List.mem_of_getElem? (i := 0) rfl
theorem eX6_claim_1 : (1, Instr.getfield 167, 3, 6, 29, 598) ∈ kX6_claim := List.mem_of_getElem? (i := 1) rfl
theorem eX6_claim_4 : (4, Instr.bipush 40, 2, 0, 0, 0) ∈ kX6_claim := List.mem_of_getElem? (i := 2) rfl
theorem eX6_claim_6 : (6, Instr.if_icmp .ne 5, 3, 11, 0, 0) ∈ kX6_claim := List.mem_of_getElem? (i := 3) rfl
theorem eX6_claim_9 : (9, Instr.iconst (-1), 1, 0, 0, 0) ∈ kX6_claim := List.mem_of_getElem? (i := 4) rfl
theorem eX6_claim_10 : (10, Instr.ireturn, 1, 0, 0, 0) ∈ kX6_claim := List.mem_of_getElem? (i := 5) rfl
theorem eX6_claim_11 : (11, Instr.iconst 0, 1, 0, 0, 0) ∈ kX6_claim := List.mem_of_getElem? (i := 6) rfl
theorem eX6_claim_12 : (12, Instr.istore_n 1, 1, 0, 0, 0) ∈ kX6_claim := List.mem_of_getElem? (i := 7) rfl
theorem eX6_claim_13 : (13, Instr.iload_n 1, 1, 0, 0, 0) ∈ kX6_claim := List.mem_of_getElem? (i := 8) rfl
theorem eX6_claim_14 : (14, Instr.iconst 4, 1, 0, 0, 0) ∈ kX6_claim := List.mem_of_getElem? (i := 9) rfl
theorem eX6_claim_15 : (15, Instr.if_icmp .ge 23, 3, 38, 0, 0) ∈ kX6_claim := List.mem_of_getElem? (i := 10) rfl
theorem eX6_claim_18 : (18, Instr.aload_n 0, 1, 0, 0, 0) ∈ kX6_claim := List.mem_of_getElem? (i := 11) rfl
theorem eX6_claim_19 : (19, Instr.getfield 78, 3, 6, 30, 599) ∈ kX6_claim := List.mem_of_getElem? (i := 12) rfl
theorem eX6_claim_22 : (22, Instr.iconst 4, 1, 0, 0, 0) ∈ kX6_claim := List.mem_of_getElem? (i := 13) rfl
theorem eX6_claim_23 : (23, Instr.aload_n 0, 1, 0, 0, 0) ∈ kX6_claim := List.mem_of_getElem? (i := 14) rfl
theorem eX6_claim_24 : (24, Instr.getfield 167, 3, 6, 29, 598) ∈ kX6_claim := List.mem_of_getElem? (i := 15) rfl
theorem eX6_claim_27 : (27, Instr.imul, 1, 0, 0, 0) ∈ kX6_claim := List.mem_of_getElem? (i := 16) rfl
theorem eX6_claim_28 : (28, Instr.iload_n 1, 1, 0, 0, 0) ∈ kX6_claim := List.mem_of_getElem? (i := 17) rfl
theorem eX6_claim_29 : (29, Instr.iadd, 1, 0, 0, 0) ∈ kX6_claim := List.mem_of_getElem? (i := 18) rfl
theorem eX6_claim_30 : (30, Instr.iconst (-1), 1, 0, 0, 0) ∈ kX6_claim := List.mem_of_getElem? (i := 19) rfl
theorem eX6_claim_31 : (31, Instr.iastore, 1, 0, 0, 0) ∈ kX6_claim := List.mem_of_getElem? (i := 20) rfl
theorem eX6_claim_32 : (32, Instr.iinc 1 1, 3, 0, 0, 0) ∈ kX6_claim := List.mem_of_getElem? (i := 21) rfl
theorem eX6_claim_35 : (35, Instr.goto (-22), 3, 13, 0, 0) ∈ kX6_claim := List.mem_of_getElem? (i := 22) rfl
theorem eX6_claim_38 : (38, Instr.aload_n 0, 1, 0, 0, 0) ∈ kX6_claim := List.mem_of_getElem? (i := 23) rfl
theorem eX6_claim_39 : (39, Instr.getfield 81, 3, 6, 31, 600) ∈ kX6_claim := List.mem_of_getElem? (i := 24) rfl
theorem eX6_claim_42 : (42, Instr.aload_n 0, 1, 0, 0, 0) ∈ kX6_claim := List.mem_of_getElem? (i := 25) rfl
theorem eX6_claim_43 : (43, Instr.getfield 167, 3, 6, 29, 598) ∈ kX6_claim := List.mem_of_getElem? (i := 26) rfl
theorem eX6_claim_46 : (46, Instr.iconst (-1), 1, 0, 0, 0) ∈ kX6_claim := List.mem_of_getElem? (i := 27) rfl
theorem eX6_claim_47 : (47, Instr.iastore, 1, 0, 0, 0) ∈ kX6_claim := List.mem_of_getElem? (i := 28) rfl
theorem eX6_claim_48 : (48, Instr.aload_n 0, 1, 0, 0, 0) ∈ kX6_claim := List.mem_of_getElem? (i := 29) rfl
theorem eX6_claim_49 : (49, Instr.dup, 1, 0, 0, 0) ∈ kX6_claim := List.mem_of_getElem? (i := 30) rfl
theorem eX6_claim_50 : (50, Instr.getfield 167, 3, 6, 29, 598) ∈ kX6_claim := List.mem_of_getElem? (i := 31) rfl
theorem eX6_claim_53 : (53, Instr.iconst 1, 1, 0, 0, 0) ∈ kX6_claim := List.mem_of_getElem? (i := 32) rfl
theorem eX6_claim_54 : (54, Instr.iadd, 1, 0, 0, 0) ∈ kX6_claim := List.mem_of_getElem? (i := 33) rfl
theorem eX6_claim_55 : (55, Instr.putfield 167, 3, 6, 29, 598) ∈ kX6_claim := List.mem_of_getElem? (i := 34) rfl
theorem eX6_claim_58 : (58, Instr.aload_n 0, 1, 0, 0, 0) ∈ kX6_claim := List.mem_of_getElem? (i := 35) rfl
theorem eX6_claim_59 : (59, Instr.getfield 167, 3, 6, 29, 598) ∈ kX6_claim := List.mem_of_getElem? (i := 36) rfl
theorem eX6_claim_62 : (62, Instr.iconst 1, 1, 0, 0, 0) ∈ kX6_claim := List.mem_of_getElem? (i := 37) rfl
theorem eX6_claim_63 : (63, Instr.isub, 1, 0, 0, 0) ∈ kX6_claim := List.mem_of_getElem? (i := 38) rfl
theorem eX6_claim_64 : (64, Instr.ireturn, 1, 0, 0, 0) ∈ kX6_claim := List.mem_of_getElem? (i := 39) rfl
theorem aX6_isClaim : am_m nX6_isClaim = mX6_isClaim := rfl
theorem eX6_isClaim_0 : (0, Instr.iload_n 1, 1, 0, 0, 0) ∈ kX6_isClaim := List.mem_of_getElem? (i := 0) rfl
theorem eX6_isClaim_1 : (1, Instr.iconst 0, 1, 0, 0, 0) ∈ kX6_isClaim := List.mem_of_getElem? (i := 1) rfl
theorem eX6_isClaim_2 : (2, Instr.aload_n 0, 1, 0, 0, 0) ∈ kX6_isClaim := List.mem_of_getElem? (i := 2) rfl
theorem eX6_isClaim_3 : (3, Instr.getfield 167, 3, 6, 29, 598) ∈ kX6_isClaim := List.mem_of_getElem? (i := 3) rfl
theorem eX6_isClaim_6 : (6, Instr.iconst 1, 1, 0, 0, 0) ∈ kX6_isClaim := List.mem_of_getElem? (i := 4) rfl
theorem eX6_isClaim_7 : (7, Instr.isub, 1, 0, 0, 0) ∈ kX6_isClaim := List.mem_of_getElem? (i := 5) rfl
theorem eX6_isClaim_8 : (8, Instr.invokestatic 102, 3, 78, 3, 683) ∈ kX6_isClaim := List.mem_of_getElem? (i := 6) rfl
theorem eX6_isClaim_11 : (11, Instr.ireturn, 1, 1, 0, 0) ∈ kX6_isClaim := List.mem_of_getElem? (i := 7) rfl
theorem aX6_markOf : am_m nX6_markOf = mX6_markOf := rfl
theorem eX6_markOf_0 : (0, Instr.iload_n 0, 1, 0, 0, 0) ∈ kX6_markOf := List.mem_of_getElem? (i := 0) rfl
theorem eX6_markOf_1 : (1, Instr.iconst 4, 1, 0, 0, 0) ∈ kX6_markOf := List.mem_of_getElem? (i := 1) rfl
theorem eX6_markOf_2 : (2, Instr.iload_n 1, 1, 0, 0, 0) ∈ kX6_markOf := List.mem_of_getElem? (i := 2) rfl
theorem eX6_markOf_3 : (3, Instr.imul, 1, 0, 0, 0) ∈ kX6_markOf := List.mem_of_getElem? (i := 3) rfl
theorem eX6_markOf_4 : (4, Instr.ishr, 1, 0, 0, 0) ∈ kX6_markOf := List.mem_of_getElem? (i := 4) rfl
theorem eX6_markOf_5 : (5, Instr.bipush 15, 2, 0, 0, 0) ∈ kX6_markOf := List.mem_of_getElem? (i := 5) rfl
theorem eX6_markOf_7 : (7, Instr.iand, 1, 0, 0, 0) ∈ kX6_markOf := List.mem_of_getElem? (i := 6) rfl
theorem eX6_markOf_8 : (8, Instr.ireturn, 1, 0, 0, 0) ∈ kX6_markOf := List.mem_of_getElem? (i := 7) rfl
theorem aX6_isMeant : am_m nX6_isMeant = mX6_isMeant := rfl
theorem eX6_isMeant_0 : (0, Instr.aload_n 0, 1, 0, 0, 0) ∈ kX6_isMeant := List.mem_of_getElem? (i := 0) rfl
theorem eX6_isMeant_1 : (1, Instr.getfield 60, 3, 6, 23, 592) ∈ kX6_isMeant := List.mem_of_getElem? (i := 1) rfl
theorem eX6_isMeant_4 : (4, Instr.iload_n 2, 1, 0, 0, 0) ∈ kX6_isMeant := List.mem_of_getElem? (i := 2) rfl
theorem eX6_isMeant_5 : (5, Instr.iaload, 1, 0, 0, 0) ∈ kX6_isMeant := List.mem_of_getElem? (i := 3) rfl
theorem eX6_isMeant_6 : (6, Instr.ifCond .eq 5, 3, 11, 0, 0) ∈ kX6_isMeant := List.mem_of_getElem? (i := 4) rfl
theorem eX6_isMeant_9 : (9, Instr.iconst 0, 1, 0, 0, 0) ∈ kX6_isMeant := List.mem_of_getElem? (i := 5) rfl
theorem eX6_isMeant_10 : (10, Instr.ireturn, 1, 1, 0, 0) ∈ kX6_isMeant := List.mem_of_getElem? (i := 6) rfl
theorem eX6_isMeant_11 : (11, Instr.iconst 0, 1, 0, 0, 0) ∈ kX6_isMeant := List.mem_of_getElem? (i := 7) rfl
theorem eX6_isMeant_12 : (12, Instr.istore_n 3, 1, 0, 0, 0) ∈ kX6_isMeant := List.mem_of_getElem? (i := 8) rfl
theorem eX6_isMeant_13 : (13, Instr.iload_n 3, 1, 0, 0, 0) ∈ kX6_isMeant := List.mem_of_getElem? (i := 9) rfl
theorem eX6_isMeant_14 : (14, Instr.iconst 4, 1, 0, 0, 0) ∈ kX6_isMeant := List.mem_of_getElem? (i := 10) rfl
theorem eX6_isMeant_15 : (15, Instr.if_icmp .ge 47, 3, 62, 0, 0) ∈ kX6_isMeant := List.mem_of_getElem? (i := 11) rfl
theorem eX6_isMeant_18 : (18, Instr.aload_n 0, 1, 0, 0, 0) ∈ kX6_isMeant := List.mem_of_getElem? (i := 12) rfl
theorem eX6_isMeant_19 : (19, Instr.getfield 78, 3, 6, 30, 599) ∈ kX6_isMeant := List.mem_of_getElem? (i := 13) rfl
theorem eX6_isMeant_22 : (22, Instr.iconst 4, 1, 0, 0, 0) ∈ kX6_isMeant := List.mem_of_getElem? (i := 14) rfl
theorem eX6_isMeant_23 : (23, Instr.iload_n 1, 1, 0, 0, 0) ∈ kX6_isMeant := List.mem_of_getElem? (i := 15) rfl
theorem eX6_isMeant_24 : (24, Instr.imul, 1, 0, 0, 0) ∈ kX6_isMeant := List.mem_of_getElem? (i := 16) rfl
theorem eX6_isMeant_25 : (25, Instr.iload_n 3, 1, 0, 0, 0) ∈ kX6_isMeant := List.mem_of_getElem? (i := 17) rfl
theorem eX6_isMeant_26 : (26, Instr.iadd, 1, 0, 0, 0) ∈ kX6_isMeant := List.mem_of_getElem? (i := 18) rfl
theorem eX6_isMeant_27 : (27, Instr.iaload, 1, 0, 0, 0) ∈ kX6_isMeant := List.mem_of_getElem? (i := 19) rfl
theorem eX6_isMeant_28 : (28, Instr.ifCond .lt 28, 3, 56, 0, 0) ∈ kX6_isMeant := List.mem_of_getElem? (i := 20) rfl
theorem eX6_isMeant_31 : (31, Instr.aload_n 0, 1, 0, 0, 0) ∈ kX6_isMeant := List.mem_of_getElem? (i := 21) rfl
theorem eX6_isMeant_32 : (32, Instr.getfield 78, 3, 6, 30, 599) ∈ kX6_isMeant := List.mem_of_getElem? (i := 22) rfl
theorem eX6_isMeant_35 : (35, Instr.iconst 4, 1, 0, 0, 0) ∈ kX6_isMeant := List.mem_of_getElem? (i := 23) rfl
theorem eX6_isMeant_36 : (36, Instr.iload_n 1, 1, 0, 0, 0) ∈ kX6_isMeant := List.mem_of_getElem? (i := 24) rfl
theorem eX6_isMeant_37 : (37, Instr.imul, 1, 0, 0, 0) ∈ kX6_isMeant := List.mem_of_getElem? (i := 25) rfl
theorem eX6_isMeant_38 : (38, Instr.iload_n 3, 1, 0, 0, 0) ∈ kX6_isMeant := List.mem_of_getElem? (i := 26) rfl
theorem eX6_isMeant_39 : (39, Instr.iadd, 1, 0, 0, 0) ∈ kX6_isMeant := List.mem_of_getElem? (i := 27) rfl
theorem eX6_isMeant_40 : (40, Instr.iaload, 1, 0, 0, 0) ∈ kX6_isMeant := List.mem_of_getElem? (i := 28) rfl
theorem eX6_isMeant_41 : (41, Instr.aload_n 0, 1, 0, 0, 0) ∈ kX6_isMeant := List.mem_of_getElem? (i := 29) rfl
theorem eX6_isMeant_42 : (42, Instr.getfield 51, 3, 6, 20, 589) ∈ kX6_isMeant := List.mem_of_getElem? (i := 30) rfl
theorem eX6_isMeant_45 : (45, Instr.iload_n 2, 1, 0, 0, 0) ∈ kX6_isMeant := List.mem_of_getElem? (i := 31) rfl
theorem eX6_isMeant_46 : (46, Instr.iaload, 1, 0, 0, 0) ∈ kX6_isMeant := List.mem_of_getElem? (i := 32) rfl
theorem eX6_isMeant_47 : (47, Instr.iload_n 3, 1, 0, 0, 0) ∈ kX6_isMeant := List.mem_of_getElem? (i := 33) rfl
theorem eX6_isMeant_48 : (48, Instr.invokestatic 170, 3, 100, 2, 775) ∈ kX6_isMeant := List.mem_of_getElem? (i := 34) rfl
theorem eX6_isMeant_51 : (51, Instr.if_icmp .eq 5, 3, 56, 0, 0) ∈ kX6_isMeant := List.mem_of_getElem? (i := 35) rfl
theorem eX6_isMeant_54 : (54, Instr.iconst 0, 1, 0, 0, 0) ∈ kX6_isMeant := List.mem_of_getElem? (i := 36) rfl
theorem eX6_isMeant_55 : (55, Instr.ireturn, 1, 1, 0, 0) ∈ kX6_isMeant := List.mem_of_getElem? (i := 37) rfl
theorem eX6_isMeant_56 : (56, Instr.iinc 3 1, 3, 0, 0, 0) ∈ kX6_isMeant := List.mem_of_getElem? (i := 38) rfl
theorem eX6_isMeant_59 : (59, Instr.goto (-46), 3, 13, 0, 0) ∈ kX6_isMeant := List.mem_of_getElem? (i := 39) rfl
theorem eX6_isMeant_62 : (62, Instr.iconst 1, 1, 0, 0, 0) ∈ kX6_isMeant := List.mem_of_getElem? (i := 40) rfl
theorem eX6_isMeant_63 : (63, Instr.ireturn, 1, 1, 0, 0) ∈ kX6_isMeant := List.mem_of_getElem? (i := 41) rfl
theorem aX6_meant : am_m nX6_meant = mX6_meant := rfl
theorem eX6_meant_0 : (0, Instr.iconst (-1), 1, 0, 0, 0) ∈ kX6_meant := List.mem_of_getElem? (i := 0) rfl
theorem eX6_meant_1 : (1, Instr.istore_n 2, 1, 0, 0, 0) ∈ kX6_meant := List.mem_of_getElem? (i := 1) rfl
theorem eX6_meant_2 : (2, Instr.iconst 0, 1, 0, 0, 0) ∈ kX6_meant := List.mem_of_getElem? (i := 2) rfl
theorem eX6_meant_3 : (3, Instr.istore_n 3, 1, 0, 0, 0) ∈ kX6_meant := List.mem_of_getElem? (i := 3) rfl
theorem eX6_meant_4 : (4, Instr.iload_n 3, 1, 0, 0, 0) ∈ kX6_meant := List.mem_of_getElem? (i := 4) rfl
theorem eX6_meant_5 : (5, Instr.aload_n 0, 1, 0, 0, 0) ∈ kX6_meant := List.mem_of_getElem? (i := 5) rfl
theorem eX6_meant_6 : (6, Instr.getfield 107, 3, 6, 12, 581) ∈ kX6_meant := List.mem_of_getElem? (i := 6) rfl
theorem eX6_meant_9 : (9, Instr.if_icmp .ge 20, 3, 29, 0, 0) ∈ kX6_meant := List.mem_of_getElem? (i := 7) rfl
theorem eX6_meant_12 : (12, Instr.aload_n 0, 1, 0, 0, 0) ∈ kX6_meant := List.mem_of_getElem? (i := 8) rfl
theorem eX6_meant_13 : (13, Instr.iload_n 1, 1, 0, 0, 0) ∈ kX6_meant := List.mem_of_getElem? (i := 9) rfl
theorem eX6_meant_14 : (14, Instr.iload_n 3, 1, 0, 0, 0) ∈ kX6_meant := List.mem_of_getElem? (i := 10) rfl
theorem eX6_meant_15 : (15, Instr.invokevirtual 173, 3, 101, 2, 771) ∈ kX6_meant := List.mem_of_getElem? (i := 11) rfl
theorem eX6_meant_18 : (18, Instr.ifCond .eq 5, 3, 23, 0, 0) ∈ kX6_meant := List.mem_of_getElem? (i := 12) rfl
theorem eX6_meant_21 : (21, Instr.iload_n 3, 1, 0, 0, 0) ∈ kX6_meant := List.mem_of_getElem? (i := 13) rfl
theorem eX6_meant_22 : (22, Instr.istore_n 2, 1, 0, 0, 0) ∈ kX6_meant := List.mem_of_getElem? (i := 14) rfl
theorem eX6_meant_23 : (23, Instr.iinc 3 1, 3, 0, 0, 0) ∈ kX6_meant := List.mem_of_getElem? (i := 15) rfl
theorem eX6_meant_26 : (26, Instr.goto (-22), 3, 4, 0, 0) ∈ kX6_meant := List.mem_of_getElem? (i := 16) rfl
theorem eX6_meant_29 : (29, Instr.iload_n 2, 1, 0, 0, 0) ∈ kX6_meant := List.mem_of_getElem? (i := 17) rfl
theorem eX6_meant_30 : (30, Instr.ireturn, 1, 0, 0, 0) ∈ kX6_meant := List.mem_of_getElem? (i := 18) rfl
theorem aX6_manyTold : am_m nX6_manyTold = mX6_manyTold := rfl
theorem eX6_manyTold_0 : (0, Instr.iconst 0, 1, 0, 0, 0) ∈ kX6_manyTold := List.mem_of_getElem? (i := 0) rfl
theorem eX6_manyTold_1 : (1, Instr.istore_n 2, 1, 0, 0, 0) ∈ kX6_manyTold := List.mem_of_getElem? (i := 1) rfl
theorem eX6_manyTold_2 : (2, Instr.iconst 0, 1, 0, 0, 0) ∈ kX6_manyTold := List.mem_of_getElem? (i := 2) rfl
theorem eX6_manyTold_3 : (3, Instr.istore_n 3, 1, 0, 0, 0) ∈ kX6_manyTold := List.mem_of_getElem? (i := 3) rfl
theorem eX6_manyTold_4 : (4, Instr.iload_n 3, 1, 0, 0, 0) ∈ kX6_manyTold := List.mem_of_getElem? (i := 4) rfl
theorem eX6_manyTold_5 : (5, Instr.iconst 4, 1, 0, 0, 0) ∈ kX6_manyTold := List.mem_of_getElem? (i := 5) rfl
theorem eX6_manyTold_6 : (6, Instr.if_icmp .ge 30, 3, 36, 0, 0) ∈ kX6_manyTold := List.mem_of_getElem? (i := 6) rfl
theorem eX6_manyTold_9 : (9, Instr.iload_n 2, 1, 0, 0, 0) ∈ kX6_manyTold := List.mem_of_getElem? (i := 7) rfl
theorem eX6_manyTold_10 : (10, Instr.aload_n 0, 1, 0, 0, 0) ∈ kX6_manyTold := List.mem_of_getElem? (i := 8) rfl
theorem eX6_manyTold_11 : (11, Instr.getfield 78, 3, 6, 30, 599) ∈ kX6_manyTold := List.mem_of_getElem? (i := 9) rfl
theorem eX6_manyTold_14 : (14, Instr.iconst 4, 1, 0, 0, 0) ∈ kX6_manyTold := List.mem_of_getElem? (i := 10) rfl
theorem eX6_manyTold_15 : (15, Instr.iload_n 1, 1, 0, 0, 0) ∈ kX6_manyTold := List.mem_of_getElem? (i := 11) rfl
theorem eX6_manyTold_16 : (16, Instr.imul, 1, 0, 0, 0) ∈ kX6_manyTold := List.mem_of_getElem? (i := 12) rfl
theorem eX6_manyTold_17 : (17, Instr.iload_n 3, 1, 0, 0, 0) ∈ kX6_manyTold := List.mem_of_getElem? (i := 13) rfl
theorem eX6_manyTold_18 : (18, Instr.iadd, 1, 0, 0, 0) ∈ kX6_manyTold := List.mem_of_getElem? (i := 14) rfl
theorem eX6_manyTold_19 : (19, Instr.iaload, 1, 0, 0, 0) ∈ kX6_manyTold := List.mem_of_getElem? (i := 15) rfl
theorem eX6_manyTold_20 : (20, Instr.ifCond .lt 7, 3, 27, 0, 0) ∈ kX6_manyTold := List.mem_of_getElem? (i := 16) rfl
theorem eX6_manyTold_23 : (23, Instr.iconst 1, 1, 0, 0, 0) ∈ kX6_manyTold := List.mem_of_getElem? (i := 17) rfl
theorem eX6_manyTold_24 : (24, Instr.goto 4, 3, 28, 0, 0) ∈ kX6_manyTold := List.mem_of_getElem? (i := 18) rfl
theorem eX6_manyTold_27 : (27, Instr.iconst 0, 1, 0, 0, 0) ∈ kX6_manyTold := List.mem_of_getElem? (i := 19) rfl
theorem eX6_manyTold_28 : (28, Instr.iadd, 1, 0, 0, 0) ∈ kX6_manyTold := List.mem_of_getElem? (i := 20) rfl
theorem eX6_manyTold_29 : (29, Instr.istore_n 2, 1, 0, 0, 0) ∈ kX6_manyTold := List.mem_of_getElem? (i := 21) rfl
theorem eX6_manyTold_30 : (30, Instr.iinc 3 1, 3, 0, 0, 0) ∈ kX6_manyTold := List.mem_of_getElem? (i := 22) rfl
theorem eX6_manyTold_33 : (33, Instr.goto (-29), 3, 4, 0, 0) ∈ kX6_manyTold := List.mem_of_getElem? (i := 23) rfl
theorem eX6_manyTold_36 : (36, Instr.iload_n 2, 1, 0, 0, 0) ∈ kX6_manyTold := List.mem_of_getElem? (i := 24) rfl
theorem eX6_manyTold_37 : (37, Instr.ireturn, 1, 0, 0, 0) ∈ kX6_manyTold := List.mem_of_getElem? (i := 25) rfl
theorem aX6_means : am_m nX6_means = mX6_means := rfl
theorem eX6_means_0 : (0, Instr.aload_n 0, 1, 0, 0, 0) ∈ kX6_means := List.mem_of_getElem? (i := 0) rfl
theorem eX6_means_1 : (1, Instr.iload_n 1, 1, 0, 0, 0) ∈ kX6_means := List.mem_of_getElem? (i := 1) rfl
theorem eX6_means_2 : (2, Instr.invokevirtual 176, 3, 99, 1, 767) ∈ kX6_means := List.mem_of_getElem? (i := 2) rfl
theorem eX6_means_5 : (5, Instr.ifCond .ne 5, 3, 10, 0, 0) ∈ kX6_means := List.mem_of_getElem? (i := 3) rfl
theorem eX6_means_8 : (8, Instr.iconst (-1), 1, 0, 0, 0) ∈ kX6_means := List.mem_of_getElem? (i := 4) rfl
theorem eX6_means_9 : (9, Instr.ireturn, 1, 0, 0, 0) ∈ kX6_means := List.mem_of_getElem? (i := 5) rfl
theorem eX6_means_10 : (10, Instr.iconst 0, 1, 0, 0, 0) ∈ kX6_means := List.mem_of_getElem? (i := 6) rfl
theorem eX6_means_11 : (11, Instr.istore_n 2, 1, 0, 0, 0) ∈ kX6_means := List.mem_of_getElem? (i := 7) rfl
theorem eX6_means_12 : (12, Instr.iconst 0, 1, 0, 0, 0) ∈ kX6_means := List.mem_of_getElem? (i := 8) rfl
theorem eX6_means_13 : (13, Instr.istore_n 3, 1, 0, 0, 0) ∈ kX6_means := List.mem_of_getElem? (i := 9) rfl
theorem eX6_means_14 : (14, Instr.iload_n 3, 1, 0, 0, 0) ∈ kX6_means := List.mem_of_getElem? (i := 10) rfl
theorem eX6_means_15 : (15, Instr.aload_n 0, 1, 0, 0, 0) ∈ kX6_means := List.mem_of_getElem? (i := 11) rfl
theorem eX6_means_16 : (16, Instr.getfield 107, 3, 6, 12, 581) ∈ kX6_means := List.mem_of_getElem? (i := 12) rfl
theorem eX6_means_19 : (19, Instr.if_icmp .ge 26, 3, 45, 0, 0) ∈ kX6_means := List.mem_of_getElem? (i := 13) rfl
theorem eX6_means_22 : (22, Instr.iload_n 2, 1, 0, 0, 0) ∈ kX6_means := List.mem_of_getElem? (i := 14) rfl
theorem eX6_means_23 : (23, Instr.aload_n 0, 1, 0, 0, 0) ∈ kX6_means := List.mem_of_getElem? (i := 15) rfl
theorem eX6_means_24 : (24, Instr.iload_n 1, 1, 0, 0, 0) ∈ kX6_means := List.mem_of_getElem? (i := 16) rfl
theorem eX6_means_25 : (25, Instr.iload_n 3, 1, 0, 0, 0) ∈ kX6_means := List.mem_of_getElem? (i := 17) rfl
theorem eX6_means_26 : (26, Instr.invokevirtual 173, 3, 101, 2, 771) ∈ kX6_means := List.mem_of_getElem? (i := 18) rfl
theorem eX6_means_29 : (29, Instr.ifCond .eq 7, 3, 36, 0, 0) ∈ kX6_means := List.mem_of_getElem? (i := 19) rfl
theorem eX6_means_32 : (32, Instr.iconst 1, 1, 0, 0, 0) ∈ kX6_means := List.mem_of_getElem? (i := 20) rfl
theorem eX6_means_33 : (33, Instr.goto 4, 3, 37, 0, 0) ∈ kX6_means := List.mem_of_getElem? (i := 21) rfl
theorem eX6_means_36 : (36, Instr.iconst 0, 1, 0, 0, 0) ∈ kX6_means := List.mem_of_getElem? (i := 22) rfl
theorem eX6_means_37 : (37, Instr.iadd, 1, 0, 0, 0) ∈ kX6_means := List.mem_of_getElem? (i := 23) rfl
theorem eX6_means_38 : (38, Instr.istore_n 2, 1, 0, 0, 0) ∈ kX6_means := List.mem_of_getElem? (i := 24) rfl
theorem eX6_means_39 : (39, Instr.iinc 3 1, 3, 0, 0, 0) ∈ kX6_means := List.mem_of_getElem? (i := 25) rfl
theorem eX6_means_42 : (42, Instr.goto (-28), 3, 14, 0, 0) ∈ kX6_means := List.mem_of_getElem? (i := 26) rfl
theorem eX6_means_45 : (45, Instr.iload_n 2, 1, 0, 0, 0) ∈ kX6_means := List.mem_of_getElem? (i := 27) rfl
theorem eX6_means_46 : (46, Instr.ireturn, 1, 0, 0, 0) ∈ kX6_means := List.mem_of_getElem? (i := 28) rfl
theorem aX6_mark : am_m nX6_mark = mX6_mark := rfl
theorem eX6_mark_0 : (0, Instr.aload_n 0, 1, 0, 0, 0) ∈ kX6_mark := List.mem_of_getElem? (i := 0) rfl
theorem eX6_mark_1 : (1, Instr.iload_n 1, 1, 0, 0, 0) ∈ kX6_mark := List.mem_of_getElem? (i := 1) rfl
theorem eX6_mark_2 : (2, Instr.invokevirtual 176, 3, 99, 1, 767) ∈ kX6_mark := List.mem_of_getElem? (i := 2) rfl
theorem eX6_mark_5 : (5, Instr.ifCond .eq 31, 3, 36, 0, 0) ∈ kX6_mark := List.mem_of_getElem? (i := 3) rfl
theorem eX6_mark_8 : (8, Instr.aload_n 0, 1, 0, 0, 0) ∈ kX6_mark := List.mem_of_getElem? (i := 4) rfl
theorem eX6_mark_9 : (9, Instr.getfield 84, 3, 6, 32, 601) ∈ kX6_mark := List.mem_of_getElem? (i := 5) rfl
theorem eX6_mark_12 : (12, Instr.iload_n 1, 1, 0, 0, 0) ∈ kX6_mark := List.mem_of_getElem? (i := 6) rfl
theorem eX6_mark_13 : (13, Instr.baload, 1, 0, 0, 0) ∈ kX6_mark := List.mem_of_getElem? (i := 7) rfl
theorem eX6_mark_14 : (14, Instr.ifCond .ne 22, 3, 36, 0, 0) ∈ kX6_mark := List.mem_of_getElem? (i := 8) rfl
theorem eX6_mark_17 : (17, Instr.iload_n 2, 1, 0, 0, 0) ∈ kX6_mark := List.mem_of_getElem? (i := 9) rfl
theorem eX6_mark_18 : (18, Instr.iconst 0, 1, 0, 0, 0) ∈ kX6_mark := List.mem_of_getElem? (i := 10) rfl
theorem eX6_mark_19 : (19, Instr.iconst 3, 1, 0, 0, 0) ∈ kX6_mark := List.mem_of_getElem? (i := 11) rfl
theorem eX6_mark_20 : (20, Instr.invokestatic 102, 3, 78, 3, 683) ∈ kX6_mark := List.mem_of_getElem? (i := 12) rfl
theorem eX6_mark_23 : (23, Instr.ifCond .eq 13, 3, 36, 0, 0) ∈ kX6_mark := List.mem_of_getElem? (i := 13) rfl
theorem eX6_mark_26 : (26, Instr.iload_n 3, 1, 0, 0, 0) ∈ kX6_mark := List.mem_of_getElem? (i := 14) rfl
theorem eX6_mark_27 : (27, Instr.iconst (-1), 1, 0, 0, 0) ∈ kX6_mark := List.mem_of_getElem? (i := 15) rfl
theorem eX6_mark_28 : (28, Instr.bipush 15, 2, 0, 0, 0) ∈ kX6_mark := List.mem_of_getElem? (i := 16) rfl
theorem eX6_mark_30 : (30, Instr.invokestatic 102, 3, 78, 3, 683) ∈ kX6_mark := List.mem_of_getElem? (i := 17) rfl
theorem eX6_mark_33 : (33, Instr.ifCond .ne 5, 3, 38, 0, 0) ∈ kX6_mark := List.mem_of_getElem? (i := 18) rfl
theorem eX6_mark_36 : (36, Instr.iconst (-1), 1, 0, 0, 0) ∈ kX6_mark := List.mem_of_getElem? (i := 19) rfl
theorem eX6_mark_37 : (37, Instr.ireturn, 1, 0, 0, 0) ∈ kX6_mark := List.mem_of_getElem? (i := 20) rfl
theorem eX6_mark_38 : (38, Instr.aload_n 0, 1, 0, 0, 0) ∈ kX6_mark := List.mem_of_getElem? (i := 21) rfl
theorem eX6_mark_39 : (39, Instr.getfield 78, 3, 6, 30, 599) ∈ kX6_mark := List.mem_of_getElem? (i := 22) rfl
theorem eX6_mark_42 : (42, Instr.iconst 4, 1, 0, 0, 0) ∈ kX6_mark := List.mem_of_getElem? (i := 23) rfl
theorem eX6_mark_43 : (43, Instr.iload_n 1, 1, 0, 0, 0) ∈ kX6_mark := List.mem_of_getElem? (i := 24) rfl
theorem eX6_mark_44 : (44, Instr.imul, 1, 0, 0, 0) ∈ kX6_mark := List.mem_of_getElem? (i := 25) rfl
theorem eX6_mark_45 : (45, Instr.iload_n 2, 1, 0, 0, 0) ∈ kX6_mark := List.mem_of_getElem? (i := 26) rfl
theorem eX6_mark_46 : (46, Instr.iadd, 1, 0, 0, 0) ∈ kX6_mark := List.mem_of_getElem? (i := 27) rfl
theorem eX6_mark_47 : (47, Instr.iload_n 3, 1, 0, 0, 0) ∈ kX6_mark := List.mem_of_getElem? (i := 28) rfl
theorem eX6_mark_48 : (48, Instr.iastore, 1, 0, 0, 0) ∈ kX6_mark := List.mem_of_getElem? (i := 29) rfl
theorem eX6_mark_49 : (49, Instr.aload_n 0, 1, 0, 0, 0) ∈ kX6_mark := List.mem_of_getElem? (i := 30) rfl
theorem eX6_mark_50 : (50, Instr.iload_n 1, 1, 0, 0, 0) ∈ kX6_mark := List.mem_of_getElem? (i := 31) rfl
theorem eX6_mark_51 : (51, Instr.invokevirtual 180, 3, 104, 1, 782) ∈ kX6_mark := List.mem_of_getElem? (i := 32) rfl
theorem eX6_mark_54 : (54, Instr.ireturn, 1, 0, 0, 0) ∈ kX6_mark := List.mem_of_getElem? (i := 33) rfl
theorem aX6_ask : am_m nX6_ask = mX6_ask := rfl
theorem eX6_ask_0 : (0, Instr.aload_n 0, 1, 0, 0, 0) ∈ kX6_ask := List.mem_of_getElem? (i := 0) rfl
theorem eX6_ask_1 : (1, Instr.iload_n 1, 1, 0, 0, 0) ∈ kX6_ask := List.mem_of_getElem? (i := 1) rfl
theorem eX6_ask_2 : (2, Instr.invokevirtual 176, 3, 99, 1, 767) ∈ kX6_ask := List.mem_of_getElem? (i := 2) rfl
theorem eX6_ask_5 : (5, Instr.ifCond .eq 21, 3, 26, 0, 0) ∈ kX6_ask := List.mem_of_getElem? (i := 3) rfl
theorem eX6_ask_8 : (8, Instr.aload_n 0, 1, 0, 0, 0) ∈ kX6_ask := List.mem_of_getElem? (i := 4) rfl
theorem eX6_ask_9 : (9, Instr.getfield 84, 3, 6, 32, 601) ∈ kX6_ask := List.mem_of_getElem? (i := 5) rfl
theorem eX6_ask_12 : (12, Instr.iload_n 1, 1, 0, 0, 0) ∈ kX6_ask := List.mem_of_getElem? (i := 6) rfl
theorem eX6_ask_13 : (13, Instr.baload, 1, 0, 0, 0) ∈ kX6_ask := List.mem_of_getElem? (i := 7) rfl
theorem eX6_ask_14 : (14, Instr.ifCond .ne 12, 3, 26, 0, 0) ∈ kX6_ask := List.mem_of_getElem? (i := 8) rfl
theorem eX6_ask_17 : (17, Instr.aload_n 0, 1, 0, 0, 0) ∈ kX6_ask := List.mem_of_getElem? (i := 9) rfl
theorem eX6_ask_18 : (18, Instr.iload_n 1, 1, 0, 0, 0) ∈ kX6_ask := List.mem_of_getElem? (i := 10) rfl
theorem eX6_ask_19 : (19, Instr.invokevirtual 180, 3, 104, 1, 782) ∈ kX6_ask := List.mem_of_getElem? (i := 11) rfl
theorem eX6_ask_22 : (22, Instr.iconst 2, 1, 0, 0, 0) ∈ kX6_ask := List.mem_of_getElem? (i := 12) rfl
theorem eX6_ask_23 : (23, Instr.if_icmp .ge 5, 3, 28, 0, 0) ∈ kX6_ask := List.mem_of_getElem? (i := 13) rfl
theorem eX6_ask_26 : (26, Instr.iconst (-1), 1, 0, 0, 0) ∈ kX6_ask := List.mem_of_getElem? (i := 14) rfl
theorem eX6_ask_27 : (27, Instr.ireturn, 1, 0, 0, 0) ∈ kX6_ask := List.mem_of_getElem? (i := 15) rfl
theorem eX6_ask_28 : (28, Instr.iconst (-1), 1, 0, 0, 0) ∈ kX6_ask := List.mem_of_getElem? (i := 16) rfl
theorem eX6_ask_29 : (29, Instr.istore_n 2, 1, 0, 0, 0) ∈ kX6_ask := List.mem_of_getElem? (i := 17) rfl
theorem eX6_ask_30 : (30, Instr.iconst 0, 1, 0, 0, 0) ∈ kX6_ask := List.mem_of_getElem? (i := 18) rfl
theorem eX6_ask_31 : (31, Instr.istore_n 3, 1, 0, 0, 0) ∈ kX6_ask := List.mem_of_getElem? (i := 19) rfl
theorem eX6_ask_32 : (32, Instr.iconst 0, 1, 0, 0, 0) ∈ kX6_ask := List.mem_of_getElem? (i := 20) rfl
theorem eX6_ask_33 : (33, Instr.istore 4, 2, 0, 0, 0) ∈ kX6_ask := List.mem_of_getElem? (i := 21) rfl
theorem eX6_ask_35 : (35, Instr.iload 4, 2, 0, 0, 0) ∈ kX6_ask := List.mem_of_getElem? (i := 22) rfl
theorem eX6_ask_37 : (37, Instr.iconst 4, 1, 0, 0, 0) ∈ kX6_ask := List.mem_of_getElem? (i := 23) rfl
theorem eX6_ask_38 : (38, Instr.if_icmp .ge 138, 3, 176, 0, 0) ∈ kX6_ask := List.mem_of_getElem? (i := 24) rfl
theorem eX6_ask_41 : (41, Instr.aload_n 0, 1, 0, 0, 0) ∈ kX6_ask := List.mem_of_getElem? (i := 25) rfl
theorem eX6_ask_42 : (42, Instr.getfield 78, 3, 6, 30, 599) ∈ kX6_ask := List.mem_of_getElem? (i := 26) rfl
theorem eX6_ask_45 : (45, Instr.iconst 4, 1, 0, 0, 0) ∈ kX6_ask := List.mem_of_getElem? (i := 27) rfl
theorem eX6_ask_46 : (46, Instr.iload_n 1, 1, 0, 0, 0) ∈ kX6_ask := List.mem_of_getElem? (i := 28) rfl
theorem eX6_ask_47 : (47, Instr.imul, 1, 0, 0, 0) ∈ kX6_ask := List.mem_of_getElem? (i := 29) rfl
theorem eX6_ask_48 : (48, Instr.iload 4, 2, 0, 0, 0) ∈ kX6_ask := List.mem_of_getElem? (i := 30) rfl
theorem eX6_ask_50 : (50, Instr.iadd, 1, 0, 0, 0) ∈ kX6_ask := List.mem_of_getElem? (i := 31) rfl
theorem eX6_ask_51 : (51, Instr.iaload, 1, 0, 0, 0) ∈ kX6_ask := List.mem_of_getElem? (i := 32) rfl
theorem eX6_ask_52 : (52, Instr.ifCond .lt 6, 3, 58, 0, 0) ∈ kX6_ask := List.mem_of_getElem? (i := 33) rfl
theorem eX6_ask_55 : (55, Instr.goto 115, 3, 170, 0, 0) ∈ kX6_ask := List.mem_of_getElem? (i := 34) rfl
theorem eX6_ask_58 : (58, Instr.iconst 0, 1, 0, 0, 0) ∈ kX6_ask := List.mem_of_getElem? (i := 35) rfl
theorem eX6_ask_59 : (59, Instr.istore 5, 2, 0, 0, 0) ∈ kX6_ask := List.mem_of_getElem? (i := 36) rfl
theorem eX6_ask_61 : (61, Instr.iconst 0, 1, 0, 0, 0) ∈ kX6_ask := List.mem_of_getElem? (i := 37) rfl
theorem eX6_ask_62 : (62, Instr.istore 6, 2, 0, 0, 0) ∈ kX6_ask := List.mem_of_getElem? (i := 38) rfl
theorem eX6_ask_64 : (64, Instr.iload 6, 2, 0, 0, 0) ∈ kX6_ask := List.mem_of_getElem? (i := 39) rfl
theorem eX6_ask_66 : (66, Instr.bipush 16, 2, 0, 0, 0) ∈ kX6_ask := List.mem_of_getElem? (i := 40) rfl
theorem eX6_ask_68 : (68, Instr.if_icmp .ge 83, 3, 151, 0, 0) ∈ kX6_ask := List.mem_of_getElem? (i := 41) rfl
theorem eX6_ask_71 : (71, Instr.iconst 0, 1, 0, 0, 0) ∈ kX6_ask := List.mem_of_getElem? (i := 42) rfl
theorem eX6_ask_72 : (72, Instr.istore 7, 2, 0, 0, 0) ∈ kX6_ask := List.mem_of_getElem? (i := 43) rfl
theorem eX6_ask_74 : (74, Instr.iconst 0, 1, 0, 0, 0) ∈ kX6_ask := List.mem_of_getElem? (i := 44) rfl
theorem eX6_ask_75 : (75, Instr.istore 8, 2, 0, 0, 0) ∈ kX6_ask := List.mem_of_getElem? (i := 45) rfl
theorem eX6_ask_77 : (77, Instr.iload 8, 2, 0, 0, 0) ∈ kX6_ask := List.mem_of_getElem? (i := 46) rfl
theorem eX6_ask_79 : (79, Instr.aload_n 0, 1, 0, 0, 0) ∈ kX6_ask := List.mem_of_getElem? (i := 47) rfl
theorem eX6_ask_80 : (80, Instr.getfield 107, 3, 6, 12, 581) ∈ kX6_ask := List.mem_of_getElem? (i := 48) rfl
theorem eX6_ask_83 : (83, Instr.if_icmp .ge 46, 3, 129, 0, 0) ∈ kX6_ask := List.mem_of_getElem? (i := 49) rfl
theorem eX6_ask_86 : (86, Instr.iload 7, 2, 0, 0, 0) ∈ kX6_ask := List.mem_of_getElem? (i := 50) rfl
theorem eX6_ask_88 : (88, Instr.aload_n 0, 1, 0, 0, 0) ∈ kX6_ask := List.mem_of_getElem? (i := 51) rfl
theorem eX6_ask_89 : (89, Instr.iload_n 1, 1, 0, 0, 0) ∈ kX6_ask := List.mem_of_getElem? (i := 52) rfl
theorem eX6_ask_90 : (90, Instr.iload 8, 2, 0, 0, 0) ∈ kX6_ask := List.mem_of_getElem? (i := 53) rfl
theorem eX6_ask_92 : (92, Instr.invokevirtual 173, 3, 101, 2, 771) ∈ kX6_ask := List.mem_of_getElem? (i := 54) rfl
theorem eX6_ask_95 : (95, Instr.ifCond .eq 24, 3, 119, 0, 0) ∈ kX6_ask := List.mem_of_getElem? (i := 55) rfl
theorem eX6_ask_98 : (98, Instr.aload_n 0, 1, 0, 0, 0) ∈ kX6_ask := List.mem_of_getElem? (i := 56) rfl
theorem eX6_ask_99 : (99, Instr.getfield 51, 3, 6, 20, 589) ∈ kX6_ask := List.mem_of_getElem? (i := 57) rfl
theorem eX6_ask_102 : (102, Instr.iload 8, 2, 0, 0, 0) ∈ kX6_ask := List.mem_of_getElem? (i := 58) rfl
theorem eX6_ask_104 : (104, Instr.iaload, 1, 0, 0, 0) ∈ kX6_ask := List.mem_of_getElem? (i := 59) rfl
theorem eX6_ask_105 : (105, Instr.iload 4, 2, 0, 0, 0) ∈ kX6_ask := List.mem_of_getElem? (i := 60) rfl
theorem eX6_ask_107 : (107, Instr.invokestatic 170, 3, 100, 2, 775) ∈ kX6_ask := List.mem_of_getElem? (i := 61) rfl
theorem eX6_ask_110 : (110, Instr.iload 6, 2, 0, 0, 0) ∈ kX6_ask := List.mem_of_getElem? (i := 62) rfl
theorem eX6_ask_112 : (112, Instr.if_icmp .ne 7, 3, 119, 0, 0) ∈ kX6_ask := List.mem_of_getElem? (i := 63) rfl
theorem eX6_ask_115 : (115, Instr.iconst 1, 1, 0, 0, 0) ∈ kX6_ask := List.mem_of_getElem? (i := 64) rfl
theorem eX6_ask_116 : (116, Instr.goto 4, 3, 120, 0, 0) ∈ kX6_ask := List.mem_of_getElem? (i := 65) rfl
theorem eX6_ask_119 : (119, Instr.iconst 0, 1, 0, 0, 0) ∈ kX6_ask := List.mem_of_getElem? (i := 66) rfl
theorem eX6_ask_120 : (120, Instr.iadd, 1, 0, 0, 0) ∈ kX6_ask := List.mem_of_getElem? (i := 67) rfl
theorem eX6_ask_121 : (121, Instr.istore 7, 2, 0, 0, 0) ∈ kX6_ask := List.mem_of_getElem? (i := 68) rfl
theorem eX6_ask_123 : (123, Instr.iinc 8 1, 3, 0, 0, 0) ∈ kX6_ask := List.mem_of_getElem? (i := 69) rfl
theorem eX6_ask_126 : (126, Instr.goto (-49), 3, 77, 0, 0) ∈ kX6_ask := List.mem_of_getElem? (i := 70) rfl
theorem eX6_ask_129 : (129, Instr.iload 7, 2, 0, 0, 0) ∈ kX6_ask := List.mem_of_getElem? (i := 71) rfl
theorem eX6_ask_131 : (131, Instr.iload 5, 2, 0, 0, 0) ∈ kX6_ask := List.mem_of_getElem? (i := 72) rfl
theorem eX6_ask_133 : (133, Instr.if_icmp .le 8, 3, 141, 0, 0) ∈ kX6_ask := List.mem_of_getElem? (i := 73) rfl
theorem eX6_ask_136 : (136, Instr.iload 7, 2, 0, 0, 0) ∈ kX6_ask := List.mem_of_getElem? (i := 74) rfl
theorem eX6_ask_138 : (138, Instr.goto 5, 3, 143, 0, 0) ∈ kX6_ask := List.mem_of_getElem? (i := 75) rfl
theorem eX6_ask_141 : (141, Instr.iload 5, 2, 0, 0, 0) ∈ kX6_ask := List.mem_of_getElem? (i := 76) rfl
theorem eX6_ask_143 : (143, Instr.istore 5, 2, 0, 0, 0) ∈ kX6_ask := List.mem_of_getElem? (i := 77) rfl
theorem eX6_ask_145 : (145, Instr.iinc 6 1, 3, 0, 0, 0) ∈ kX6_ask := List.mem_of_getElem? (i := 78) rfl
theorem eX6_ask_148 : (148, Instr.goto (-84), 3, 64, 0, 0) ∈ kX6_ask := List.mem_of_getElem? (i := 79) rfl
theorem eX6_ask_151 : (151, Instr.iload_n 2, 1, 0, 0, 0) ∈ kX6_ask := List.mem_of_getElem? (i := 80) rfl
theorem eX6_ask_152 : (152, Instr.ifCond .lt 12, 3, 164, 0, 0) ∈ kX6_ask := List.mem_of_getElem? (i := 81) rfl
theorem eX6_ask_155 : (155, Instr.iload 5, 2, 0, 0, 0) ∈ kX6_ask := List.mem_of_getElem? (i := 82) rfl
theorem eX6_ask_157 : (157, Instr.iload_n 3, 1, 0, 0, 0) ∈ kX6_ask := List.mem_of_getElem? (i := 83) rfl
theorem eX6_ask_158 : (158, Instr.if_icmp .lt 6, 3, 164, 0, 0) ∈ kX6_ask := List.mem_of_getElem? (i := 84) rfl
theorem eX6_ask_161 : (161, Instr.goto 9, 3, 170, 0, 0) ∈ kX6_ask := List.mem_of_getElem? (i := 85) rfl
theorem eX6_ask_164 : (164, Instr.iload 4, 2, 0, 0, 0) ∈ kX6_ask := List.mem_of_getElem? (i := 86) rfl
theorem eX6_ask_166 : (166, Instr.istore_n 2, 1, 0, 0, 0) ∈ kX6_ask := List.mem_of_getElem? (i := 87) rfl
theorem eX6_ask_167 : (167, Instr.iload 5, 2, 0, 0, 0) ∈ kX6_ask := List.mem_of_getElem? (i := 88) rfl
theorem eX6_ask_169 : (169, Instr.istore_n 3, 1, 0, 0, 0) ∈ kX6_ask := List.mem_of_getElem? (i := 89) rfl
theorem eX6_ask_170 : (170, Instr.iinc 4 1, 3, 0, 0, 0) ∈ kX6_ask := List.mem_of_getElem? (i := 90) rfl
theorem eX6_ask_173 : (173, Instr.goto (-138), 3, 35, 0, 0) ∈ kX6_ask := List.mem_of_getElem? (i := 91) rfl
theorem eX6_ask_176 : (176, Instr.iload_n 2, 1, 0, 0, 0) ∈ kX6_ask := List.mem_of_getElem? (i := 92) rfl
theorem eX6_ask_177 : (177, Instr.ireturn, 1, 0, 0, 0) ∈ kX6_ask := List.mem_of_getElem? (i := 93) rfl
theorem aX6_settle : am_m nX6_settle = mX6_settle := rfl
theorem eX6_settle_0 : (0, Instr.aload_n 0, 1, 0, 0, 0) ∈ kX6_settle := List.mem_of_getElem? (i := 0) rfl
theorem eX6_settle_1 : (1, Instr.iload_n 1, 1, 0, 0, 0) ∈ kX6_settle := List.mem_of_getElem? (i := 1) rfl
theorem eX6_settle_2 : (2, Instr.invokevirtual 176, 3, 99, 1, 767) ∈ kX6_settle := List.mem_of_getElem? (i := 2) rfl
theorem eX6_settle_5 : (5, Instr.ifCond .eq 12, 3, 17, 0, 0) ∈ kX6_settle := List.mem_of_getElem? (i := 3) rfl
theorem eX6_settle_8 : (8, Instr.aload_n 0, 1, 0, 0, 0) ∈ kX6_settle := List.mem_of_getElem? (i := 4) rfl
theorem eX6_settle_9 : (9, Instr.getfield 84, 3, 6, 32, 601) ∈ kX6_settle := List.mem_of_getElem? (i := 5) rfl
theorem eX6_settle_12 : (12, Instr.iload_n 1, 1, 0, 0, 0) ∈ kX6_settle := List.mem_of_getElem? (i := 6) rfl
theorem eX6_settle_13 : (13, Instr.baload, 1, 0, 0, 0) ∈ kX6_settle := List.mem_of_getElem? (i := 7) rfl
theorem eX6_settle_14 : (14, Instr.ifCond .eq 6, 3, 20, 0, 0) ∈ kX6_settle := List.mem_of_getElem? (i := 8) rfl
theorem eX6_settle_17 : (17, Instr.bipush (-2), 2, 0, 0, 0) ∈ kX6_settle := List.mem_of_getElem? (i := 9) rfl
theorem eX6_settle_19 : (19, Instr.ireturn, 1, 0, 0, 0) ∈ kX6_settle := List.mem_of_getElem? (i := 10) rfl
theorem eX6_settle_20 : (20, Instr.aload_n 0, 1, 0, 0, 0) ∈ kX6_settle := List.mem_of_getElem? (i := 11) rfl
theorem eX6_settle_21 : (21, Instr.iload_n 1, 1, 0, 0, 0) ∈ kX6_settle := List.mem_of_getElem? (i := 12) rfl
theorem eX6_settle_22 : (22, Instr.invokevirtual 183, 3, 103, 1, 791) ∈ kX6_settle := List.mem_of_getElem? (i := 13) rfl
theorem eX6_settle_25 : (25, Instr.iconst 3, 1, 0, 0, 0) ∈ kX6_settle := List.mem_of_getElem? (i := 14) rfl
theorem eX6_settle_26 : (26, Instr.if_icmp .ge 6, 3, 32, 0, 0) ∈ kX6_settle := List.mem_of_getElem? (i := 15) rfl
theorem eX6_settle_29 : (29, Instr.bipush (-3), 2, 0, 0, 0) ∈ kX6_settle := List.mem_of_getElem? (i := 16) rfl
theorem eX6_settle_31 : (31, Instr.ireturn, 1, 0, 0, 0) ∈ kX6_settle := List.mem_of_getElem? (i := 17) rfl
theorem eX6_settle_32 : (32, Instr.aload_n 0, 1, 0, 0, 0) ∈ kX6_settle := List.mem_of_getElem? (i := 18) rfl
theorem eX6_settle_33 : (33, Instr.iload_n 1, 1, 0, 0, 0) ∈ kX6_settle := List.mem_of_getElem? (i := 19) rfl
theorem eX6_settle_34 : (34, Instr.invokevirtual 180, 3, 104, 1, 782) ∈ kX6_settle := List.mem_of_getElem? (i := 20) rfl
theorem eX6_settle_37 : (37, Instr.istore_n 2, 1, 0, 0, 0) ∈ kX6_settle := List.mem_of_getElem? (i := 21) rfl
theorem eX6_settle_38 : (38, Instr.iload_n 2, 1, 0, 0, 0) ∈ kX6_settle := List.mem_of_getElem? (i := 22) rfl
theorem eX6_settle_39 : (39, Instr.iconst 1, 1, 0, 0, 0) ∈ kX6_settle := List.mem_of_getElem? (i := 23) rfl
theorem eX6_settle_40 : (40, Instr.if_icmp .eq 15, 3, 55, 0, 0) ∈ kX6_settle := List.mem_of_getElem? (i := 24) rfl
theorem eX6_settle_43 : (43, Instr.iload_n 2, 1, 0, 0, 0) ∈ kX6_settle := List.mem_of_getElem? (i := 25) rfl
theorem eX6_settle_44 : (44, Instr.ifCond .ne 8, 3, 52, 0, 0) ∈ kX6_settle := List.mem_of_getElem? (i := 26) rfl
theorem eX6_settle_47 : (47, Instr.bipush (-4), 2, 0, 0, 0) ∈ kX6_settle := List.mem_of_getElem? (i := 27) rfl
theorem eX6_settle_49 : (49, Instr.goto 5, 3, 54, 0, 0) ∈ kX6_settle := List.mem_of_getElem? (i := 28) rfl
theorem eX6_settle_52 : (52, Instr.bipush (-5), 2, 0, 0, 0) ∈ kX6_settle := List.mem_of_getElem? (i := 29) rfl
theorem eX6_settle_54 : (54, Instr.ireturn, 1, 0, 0, 0) ∈ kX6_settle := List.mem_of_getElem? (i := 30) rfl
theorem eX6_settle_55 : (55, Instr.aload_n 0, 1, 0, 0, 0) ∈ kX6_settle := List.mem_of_getElem? (i := 31) rfl
theorem eX6_settle_56 : (56, Instr.iload_n 1, 1, 0, 0, 0) ∈ kX6_settle := List.mem_of_getElem? (i := 32) rfl
theorem eX6_settle_57 : (57, Instr.invokevirtual 186, 3, 102, 1, 795) ∈ kX6_settle := List.mem_of_getElem? (i := 33) rfl
theorem eX6_settle_60 : (60, Instr.istore_n 3, 1, 0, 0, 0) ∈ kX6_settle := List.mem_of_getElem? (i := 34) rfl
theorem eX6_settle_61 : (61, Instr.iconst 0, 1, 0, 0, 0) ∈ kX6_settle := List.mem_of_getElem? (i := 35) rfl
theorem eX6_settle_62 : (62, Instr.istore 4, 2, 0, 0, 0) ∈ kX6_settle := List.mem_of_getElem? (i := 36) rfl
theorem eX6_settle_64 : (64, Instr.iload 4, 2, 0, 0, 0) ∈ kX6_settle := List.mem_of_getElem? (i := 37) rfl
theorem eX6_settle_66 : (66, Instr.aload_n 0, 1, 0, 0, 0) ∈ kX6_settle := List.mem_of_getElem? (i := 38) rfl
theorem eX6_settle_67 : (67, Instr.getfield 167, 3, 6, 29, 598) ∈ kX6_settle := List.mem_of_getElem? (i := 39) rfl
theorem eX6_settle_70 : (70, Instr.if_icmp .ge 58, 3, 128, 0, 0) ∈ kX6_settle := List.mem_of_getElem? (i := 40) rfl
theorem eX6_settle_73 : (73, Instr.iload 4, 2, 0, 0, 0) ∈ kX6_settle := List.mem_of_getElem? (i := 41) rfl
theorem eX6_settle_75 : (75, Instr.iload_n 1, 1, 0, 0, 0) ∈ kX6_settle := List.mem_of_getElem? (i := 42) rfl
theorem eX6_settle_76 : (76, Instr.if_icmp .eq 46, 3, 122, 0, 0) ∈ kX6_settle := List.mem_of_getElem? (i := 43) rfl
theorem eX6_settle_79 : (79, Instr.aload_n 0, 1, 0, 0, 0) ∈ kX6_settle := List.mem_of_getElem? (i := 44) rfl
theorem eX6_settle_80 : (80, Instr.getfield 84, 3, 6, 32, 601) ∈ kX6_settle := List.mem_of_getElem? (i := 45) rfl
theorem eX6_settle_83 : (83, Instr.iload 4, 2, 0, 0, 0) ∈ kX6_settle := List.mem_of_getElem? (i := 46) rfl
theorem eX6_settle_85 : (85, Instr.baload, 1, 0, 0, 0) ∈ kX6_settle := List.mem_of_getElem? (i := 47) rfl
theorem eX6_settle_86 : (86, Instr.ifCond .ne 36, 3, 122, 0, 0) ∈ kX6_settle := List.mem_of_getElem? (i := 48) rfl
theorem eX6_settle_89 : (89, Instr.aload_n 0, 1, 0, 0, 0) ∈ kX6_settle := List.mem_of_getElem? (i := 49) rfl
theorem eX6_settle_90 : (90, Instr.iload 4, 2, 0, 0, 0) ∈ kX6_settle := List.mem_of_getElem? (i := 50) rfl
theorem eX6_settle_92 : (92, Instr.invokevirtual 183, 3, 103, 1, 791) ∈ kX6_settle := List.mem_of_getElem? (i := 51) rfl
theorem eX6_settle_95 : (95, Instr.iconst 3, 1, 0, 0, 0) ∈ kX6_settle := List.mem_of_getElem? (i := 52) rfl
theorem eX6_settle_96 : (96, Instr.if_icmp .lt 26, 3, 122, 0, 0) ∈ kX6_settle := List.mem_of_getElem? (i := 53) rfl
theorem eX6_settle_99 : (99, Instr.aload_n 0, 1, 0, 0, 0) ∈ kX6_settle := List.mem_of_getElem? (i := 54) rfl
theorem eX6_settle_100 : (100, Instr.iload 4, 2, 0, 0, 0) ∈ kX6_settle := List.mem_of_getElem? (i := 55) rfl
theorem eX6_settle_102 : (102, Instr.invokevirtual 180, 3, 104, 1, 782) ∈ kX6_settle := List.mem_of_getElem? (i := 56) rfl
theorem eX6_settle_105 : (105, Instr.iconst 1, 1, 0, 0, 0) ∈ kX6_settle := List.mem_of_getElem? (i := 57) rfl
theorem eX6_settle_106 : (106, Instr.if_icmp .ne 16, 3, 122, 0, 0) ∈ kX6_settle := List.mem_of_getElem? (i := 58) rfl
theorem eX6_settle_109 : (109, Instr.aload_n 0, 1, 0, 0, 0) ∈ kX6_settle := List.mem_of_getElem? (i := 59) rfl
theorem eX6_settle_110 : (110, Instr.iload 4, 2, 0, 0, 0) ∈ kX6_settle := List.mem_of_getElem? (i := 60) rfl
theorem eX6_settle_112 : (112, Instr.invokevirtual 186, 3, 102, 1, 795) ∈ kX6_settle := List.mem_of_getElem? (i := 61) rfl
theorem eX6_settle_115 : (115, Instr.iload_n 3, 1, 0, 0, 0) ∈ kX6_settle := List.mem_of_getElem? (i := 62) rfl
theorem eX6_settle_116 : (116, Instr.if_icmp .ne 6, 3, 122, 0, 0) ∈ kX6_settle := List.mem_of_getElem? (i := 63) rfl
theorem eX6_settle_119 : (119, Instr.bipush (-6), 2, 0, 0, 0) ∈ kX6_settle := List.mem_of_getElem? (i := 64) rfl
theorem eX6_settle_121 : (121, Instr.ireturn, 1, 0, 0, 0) ∈ kX6_settle := List.mem_of_getElem? (i := 65) rfl
theorem eX6_settle_122 : (122, Instr.iinc 4 1, 3, 0, 0, 0) ∈ kX6_settle := List.mem_of_getElem? (i := 66) rfl
theorem eX6_settle_125 : (125, Instr.goto (-61), 3, 64, 0, 0) ∈ kX6_settle := List.mem_of_getElem? (i := 67) rfl
theorem eX6_settle_128 : (128, Instr.aload_n 0, 1, 0, 0, 0) ∈ kX6_settle := List.mem_of_getElem? (i := 68) rfl
theorem eX6_settle_129 : (129, Instr.invokevirtual 135, 3, 80, 0, 704) ∈ kX6_settle := List.mem_of_getElem? (i := 69) rfl
theorem eX6_settle_132 : (132, Instr.ifCond .ne 6, 3, 138, 0, 0) ∈ kX6_settle := List.mem_of_getElem? (i := 70) rfl
theorem eX6_settle_135 : (135, Instr.bipush (-7), 2, 0, 0, 0) ∈ kX6_settle := List.mem_of_getElem? (i := 71) rfl
theorem eX6_settle_137 : (137, Instr.ireturn, 1, 0, 0, 0) ∈ kX6_settle := List.mem_of_getElem? (i := 72) rfl
theorem eX6_settle_138 : (138, Instr.aload_n 0, 1, 0, 0, 0) ∈ kX6_settle := List.mem_of_getElem? (i := 73) rfl
theorem eX6_settle_139 : (139, Instr.getfield 42, 3, 6, 17, 586) ∈ kX6_settle := List.mem_of_getElem? (i := 74) rfl
theorem eX6_settle_142 : (142, Instr.aload_n 0, 1, 0, 0, 0) ∈ kX6_settle := List.mem_of_getElem? (i := 75) rfl
theorem eX6_settle_143 : (143, Instr.getfield 63, 3, 6, 24, 593) ∈ kX6_settle := List.mem_of_getElem? (i := 76) rfl
theorem eX6_settle_146 : (146, Instr.iload_n 3, 1, 0, 0, 0) ∈ kX6_settle := List.mem_of_getElem? (i := 77) rfl
theorem eX6_settle_147 : (147, Instr.iaload, 1, 0, 0, 0) ∈ kX6_settle := List.mem_of_getElem? (i := 78) rfl
theorem eX6_settle_148 : (148, Instr.baload, 1, 0, 0, 0) ∈ kX6_settle := List.mem_of_getElem? (i := 79) rfl
theorem eX6_settle_149 : (149, Instr.ifCond .eq 6, 3, 155, 0, 0) ∈ kX6_settle := List.mem_of_getElem? (i := 80) rfl
theorem eX6_settle_152 : (152, Instr.bipush (-8), 2, 0, 0, 0) ∈ kX6_settle := List.mem_of_getElem? (i := 81) rfl
theorem eX6_settle_154 : (154, Instr.ireturn, 1, 0, 0, 0) ∈ kX6_settle := List.mem_of_getElem? (i := 82) rfl
theorem eX6_settle_155 : (155, Instr.aload_n 0, 1, 0, 0, 0) ∈ kX6_settle := List.mem_of_getElem? (i := 83) rfl
theorem eX6_settle_156 : (156, Instr.iload_n 3, 1, 0, 0, 0) ∈ kX6_settle := List.mem_of_getElem? (i := 84) rfl
theorem eX6_settle_157 : (157, Instr.invokevirtual 157, 3, 93, 1, 742) ∈ kX6_settle := List.mem_of_getElem? (i := 85) rfl
theorem eX6_settle_160 : (160, Instr.sipush 500, 3, 0, 0, 0) ∈ kX6_settle := List.mem_of_getElem? (i := 86) rfl
theorem eX6_settle_163 : (163, Instr.iadd, 1, 0, 0, 0) ∈ kX6_settle := List.mem_of_getElem? (i := 87) rfl
theorem eX6_settle_164 : (164, Instr.istore 4, 2, 0, 0, 0) ∈ kX6_settle := List.mem_of_getElem? (i := 88) rfl
theorem eX6_settle_166 : (166, Instr.aload_n 0, 1, 0, 0, 0) ∈ kX6_settle := List.mem_of_getElem? (i := 89) rfl
theorem eX6_settle_167 : (167, Instr.dup, 1, 0, 0, 0) ∈ kX6_settle := List.mem_of_getElem? (i := 90) rfl
theorem eX6_settle_168 : (168, Instr.getfield 110, 3, 6, 3, 572) ∈ kX6_settle := List.mem_of_getElem? (i := 91) rfl
theorem eX6_settle_171 : (171, Instr.iload 4, 2, 0, 0, 0) ∈ kX6_settle := List.mem_of_getElem? (i := 92) rfl
theorem eX6_settle_173 : (173, Instr.iadd, 1, 0, 0, 0) ∈ kX6_settle := List.mem_of_getElem? (i := 93) rfl
theorem eX6_settle_174 : (174, Instr.putfield 110, 3, 6, 3, 572) ∈ kX6_settle := List.mem_of_getElem? (i := 94) rfl
theorem eX6_settle_177 : (177, Instr.aload_n 0, 1, 0, 0, 0) ∈ kX6_settle := List.mem_of_getElem? (i := 95) rfl
theorem eX6_settle_178 : (178, Instr.iload_n 3, 1, 0, 0, 0) ∈ kX6_settle := List.mem_of_getElem? (i := 96) rfl
theorem eX6_settle_179 : (179, Instr.iconst 1, 1, 0, 0, 0) ∈ kX6_settle := List.mem_of_getElem? (i := 97) rfl
theorem eX6_settle_180 : (180, Instr.invokevirtual 163, 3, 96, 2, 755) ∈ kX6_settle := List.mem_of_getElem? (i := 98) rfl
theorem eX6_settle_183 : (183, Instr.aload_n 0, 1, 0, 0, 0) ∈ kX6_settle := List.mem_of_getElem? (i := 99) rfl
theorem eX6_settle_184 : (184, Instr.getfield 84, 3, 6, 32, 601) ∈ kX6_settle := List.mem_of_getElem? (i := 100) rfl
theorem eX6_settle_187 : (187, Instr.iload_n 1, 1, 0, 0, 0) ∈ kX6_settle := List.mem_of_getElem? (i := 101) rfl
theorem eX6_settle_188 : (188, Instr.iconst 1, 1, 0, 0, 0) ∈ kX6_settle := List.mem_of_getElem? (i := 102) rfl
theorem eX6_settle_189 : (189, Instr.bastore, 1, 0, 0, 0) ∈ kX6_settle := List.mem_of_getElem? (i := 103) rfl
theorem eX6_settle_190 : (190, Instr.aload_n 0, 1, 0, 0, 0) ∈ kX6_settle := List.mem_of_getElem? (i := 104) rfl
theorem eX6_settle_191 : (191, Instr.getfield 81, 3, 6, 31, 600) ∈ kX6_settle := List.mem_of_getElem? (i := 105) rfl
theorem eX6_settle_194 : (194, Instr.iload_n 1, 1, 0, 0, 0) ∈ kX6_settle := List.mem_of_getElem? (i := 106) rfl
theorem eX6_settle_195 : (195, Instr.iload_n 3, 1, 0, 0, 0) ∈ kX6_settle := List.mem_of_getElem? (i := 107) rfl
theorem eX6_settle_196 : (196, Instr.iastore, 1, 0, 0, 0) ∈ kX6_settle := List.mem_of_getElem? (i := 108) rfl
theorem eX6_settle_197 : (197, Instr.iload 4, 2, 0, 0, 0) ∈ kX6_settle := List.mem_of_getElem? (i := 109) rfl
theorem eX6_settle_199 : (199, Instr.ireturn, 1, 0, 0, 0) ∈ kX6_settle := List.mem_of_getElem? (i := 110) rfl
theorem aX6_misfit : am_m nX6_misfit = mX6_misfit := rfl
theorem eX6_misfit_0 : (0, Instr.iconst 0, 1, 0, 0, 0) ∈ kX6_misfit := List.mem_of_getElem? (i := 0) rfl
theorem eX6_misfit_1 : (1, Instr.istore_n 1, 1, 0, 0, 0) ∈ kX6_misfit := List.mem_of_getElem? (i := 1) rfl
theorem eX6_misfit_2 : (2, Instr.iconst 0, 1, 0, 0, 0) ∈ kX6_misfit := List.mem_of_getElem? (i := 2) rfl
theorem eX6_misfit_3 : (3, Instr.istore_n 2, 1, 0, 0, 0) ∈ kX6_misfit := List.mem_of_getElem? (i := 3) rfl
theorem eX6_misfit_4 : (4, Instr.iload_n 2, 1, 0, 0, 0) ∈ kX6_misfit := List.mem_of_getElem? (i := 4) rfl
theorem eX6_misfit_5 : (5, Instr.aload_n 0, 1, 0, 0, 0) ∈ kX6_misfit := List.mem_of_getElem? (i := 5) rfl
theorem eX6_misfit_6 : (6, Instr.getfield 107, 3, 6, 12, 581) ∈ kX6_misfit := List.mem_of_getElem? (i := 6) rfl
theorem eX6_misfit_9 : (9, Instr.if_icmp .ge 32, 3, 41, 0, 0) ∈ kX6_misfit := List.mem_of_getElem? (i := 7) rfl
theorem eX6_misfit_12 : (12, Instr.aload_n 0, 1, 0, 0, 0) ∈ kX6_misfit := List.mem_of_getElem? (i := 8) rfl
theorem eX6_misfit_13 : (13, Instr.getfield 60, 3, 6, 23, 592) ∈ kX6_misfit := List.mem_of_getElem? (i := 9) rfl
theorem eX6_misfit_16 : (16, Instr.iload_n 2, 1, 0, 0, 0) ∈ kX6_misfit := List.mem_of_getElem? (i := 10) rfl
theorem eX6_misfit_17 : (17, Instr.iaload, 1, 0, 0, 0) ∈ kX6_misfit := List.mem_of_getElem? (i := 11) rfl
theorem eX6_misfit_18 : (18, Instr.ifCond .ne 17, 3, 35, 0, 0) ∈ kX6_misfit := List.mem_of_getElem? (i := 12) rfl
theorem eX6_misfit_21 : (21, Instr.iload_n 1, 1, 0, 0, 0) ∈ kX6_misfit := List.mem_of_getElem? (i := 13) rfl
theorem eX6_misfit_22 : (22, Instr.aload_n 0, 1, 0, 0, 0) ∈ kX6_misfit := List.mem_of_getElem? (i := 14) rfl
theorem eX6_misfit_23 : (23, Instr.iload_n 2, 1, 0, 0, 0) ∈ kX6_misfit := List.mem_of_getElem? (i := 15) rfl
theorem eX6_misfit_24 : (24, Instr.aload_n 0, 1, 0, 0, 0) ∈ kX6_misfit := List.mem_of_getElem? (i := 16) rfl
theorem eX6_misfit_25 : (25, Instr.getfield 63, 3, 6, 24, 593) ∈ kX6_misfit := List.mem_of_getElem? (i := 17) rfl
theorem eX6_misfit_28 : (28, Instr.iload_n 2, 1, 0, 0, 0) ∈ kX6_misfit := List.mem_of_getElem? (i := 18) rfl
theorem eX6_misfit_29 : (29, Instr.iaload, 1, 0, 0, 0) ∈ kX6_misfit := List.mem_of_getElem? (i := 19) rfl
theorem eX6_misfit_30 : (30, Instr.invokevirtual 142, 3, 90, 2, 720) ∈ kX6_misfit := List.mem_of_getElem? (i := 20) rfl
theorem eX6_misfit_33 : (33, Instr.iadd, 1, 0, 0, 0) ∈ kX6_misfit := List.mem_of_getElem? (i := 21) rfl
theorem eX6_misfit_34 : (34, Instr.istore_n 1, 1, 0, 0, 0) ∈ kX6_misfit := List.mem_of_getElem? (i := 22) rfl
theorem eX6_misfit_35 : (35, Instr.iinc 2 1, 3, 0, 0, 0) ∈ kX6_misfit := List.mem_of_getElem? (i := 23) rfl
theorem eX6_misfit_38 : (38, Instr.goto (-34), 3, 4, 0, 0) ∈ kX6_misfit := List.mem_of_getElem? (i := 24) rfl
theorem eX6_misfit_41 : (41, Instr.iload_n 1, 1, 0, 0, 0) ∈ kX6_misfit := List.mem_of_getElem? (i := 25) rfl
theorem eX6_misfit_42 : (42, Instr.ireturn, 1, 0, 0, 0) ∈ kX6_misfit := List.mem_of_getElem? (i := 26) rfl
theorem aX6_tidy : am_m nX6_tidy = mX6_tidy := rfl
theorem eX6_tidy_0 : (0, Instr.iload_n 1, 1, 0, 0, 0) ∈ kX6_tidy := List.mem_of_getElem? (i := 0) rfl
theorem eX6_tidy_1 : (1, Instr.iconst 0, 1, 0, 0, 0) ∈ kX6_tidy := List.mem_of_getElem? (i := 1) rfl
theorem eX6_tidy_2 : (2, Instr.bipush 50, 2, 0, 0, 0) ∈ kX6_tidy := List.mem_of_getElem? (i := 2) rfl
theorem eX6_tidy_4 : (4, Instr.invokestatic 102, 3, 78, 3, 683) ∈ kX6_tidy := List.mem_of_getElem? (i := 3) rfl
theorem eX6_tidy_7 : (7, Instr.ifCond .eq 10, 3, 17, 0, 0) ∈ kX6_tidy := List.mem_of_getElem? (i := 4) rfl
theorem eX6_tidy_10 : (10, Instr.aload_n 0, 1, 0, 0, 0) ∈ kX6_tidy := List.mem_of_getElem? (i := 5) rfl
theorem eX6_tidy_11 : (11, Instr.invokevirtual 135, 3, 80, 0, 704) ∈ kX6_tidy := List.mem_of_getElem? (i := 6) rfl
theorem eX6_tidy_14 : (14, Instr.ifCond .eq 5, 3, 19, 0, 0) ∈ kX6_tidy := List.mem_of_getElem? (i := 7) rfl
theorem eX6_tidy_17 : (17, Instr.iconst (-1), 1, 0, 0, 0) ∈ kX6_tidy := List.mem_of_getElem? (i := 8) rfl
theorem eX6_tidy_18 : (18, Instr.ireturn, 1, 0, 0, 0) ∈ kX6_tidy := List.mem_of_getElem? (i := 9) rfl
theorem eX6_tidy_19 : (19, Instr.iconst 0, 1, 0, 0, 0) ∈ kX6_tidy := List.mem_of_getElem? (i := 10) rfl
theorem eX6_tidy_20 : (20, Instr.istore_n 2, 1, 0, 0, 0) ∈ kX6_tidy := List.mem_of_getElem? (i := 11) rfl
theorem eX6_tidy_21 : (21, Instr.iconst 1, 1, 0, 0, 0) ∈ kX6_tidy := List.mem_of_getElem? (i := 12) rfl
theorem eX6_tidy_22 : (22, Instr.istore_n 3, 1, 0, 0, 0) ∈ kX6_tidy := List.mem_of_getElem? (i := 13) rfl
theorem eX6_tidy_23 : (23, Instr.iload_n 3, 1, 0, 0, 0) ∈ kX6_tidy := List.mem_of_getElem? (i := 14) rfl
theorem eX6_tidy_24 : (24, Instr.ifCond .eq 212, 3, 236, 0, 0) ∈ kX6_tidy := List.mem_of_getElem? (i := 15) rfl
theorem eX6_tidy_27 : (27, Instr.iload_n 2, 1, 0, 0, 0) ∈ kX6_tidy := List.mem_of_getElem? (i := 16) rfl
theorem eX6_tidy_28 : (28, Instr.iload_n 1, 1, 0, 0, 0) ∈ kX6_tidy := List.mem_of_getElem? (i := 17) rfl
theorem eX6_tidy_29 : (29, Instr.if_icmp .ge 207, 3, 236, 0, 0) ∈ kX6_tidy := List.mem_of_getElem? (i := 18) rfl
theorem eX6_tidy_32 : (32, Instr.iconst 0, 1, 0, 0, 0) ∈ kX6_tidy := List.mem_of_getElem? (i := 19) rfl
theorem eX6_tidy_33 : (33, Instr.istore 4, 2, 0, 0, 0) ∈ kX6_tidy := List.mem_of_getElem? (i := 20) rfl
theorem eX6_tidy_35 : (35, Instr.iconst (-1), 1, 0, 0, 0) ∈ kX6_tidy := List.mem_of_getElem? (i := 21) rfl
theorem eX6_tidy_36 : (36, Instr.istore 5, 2, 0, 0, 0) ∈ kX6_tidy := List.mem_of_getElem? (i := 22) rfl
theorem eX6_tidy_38 : (38, Instr.iconst (-1), 1, 0, 0, 0) ∈ kX6_tidy := List.mem_of_getElem? (i := 23) rfl
theorem eX6_tidy_39 : (39, Instr.istore 6, 2, 0, 0, 0) ∈ kX6_tidy := List.mem_of_getElem? (i := 24) rfl
theorem eX6_tidy_41 : (41, Instr.iconst 0, 1, 0, 0, 0) ∈ kX6_tidy := List.mem_of_getElem? (i := 25) rfl
theorem eX6_tidy_42 : (42, Instr.istore 7, 2, 0, 0, 0) ∈ kX6_tidy := List.mem_of_getElem? (i := 26) rfl
theorem eX6_tidy_44 : (44, Instr.iload 7, 2, 0, 0, 0) ∈ kX6_tidy := List.mem_of_getElem? (i := 27) rfl
theorem eX6_tidy_46 : (46, Instr.aload_n 0, 1, 0, 0, 0) ∈ kX6_tidy := List.mem_of_getElem? (i := 28) rfl
theorem eX6_tidy_47 : (47, Instr.getfield 107, 3, 6, 12, 581) ∈ kX6_tidy := List.mem_of_getElem? (i := 29) rfl
theorem eX6_tidy_50 : (50, Instr.if_icmp .ge 124, 3, 174, 0, 0) ∈ kX6_tidy := List.mem_of_getElem? (i := 30) rfl
theorem eX6_tidy_53 : (53, Instr.aload_n 0, 1, 0, 0, 0) ∈ kX6_tidy := List.mem_of_getElem? (i := 31) rfl
theorem eX6_tidy_54 : (54, Instr.getfield 60, 3, 6, 23, 592) ∈ kX6_tidy := List.mem_of_getElem? (i := 32) rfl
theorem eX6_tidy_57 : (57, Instr.iload 7, 2, 0, 0, 0) ∈ kX6_tidy := List.mem_of_getElem? (i := 33) rfl
theorem eX6_tidy_59 : (59, Instr.iaload, 1, 0, 0, 0) ∈ kX6_tidy := List.mem_of_getElem? (i := 34) rfl
theorem eX6_tidy_60 : (60, Instr.ifCond .ne 108, 3, 168, 0, 0) ∈ kX6_tidy := List.mem_of_getElem? (i := 35) rfl
theorem eX6_tidy_63 : (63, Instr.aload_n 0, 1, 0, 0, 0) ∈ kX6_tidy := List.mem_of_getElem? (i := 36) rfl
theorem eX6_tidy_64 : (64, Instr.getfield 42, 3, 6, 17, 586) ∈ kX6_tidy := List.mem_of_getElem? (i := 37) rfl
theorem eX6_tidy_67 : (67, Instr.aload_n 0, 1, 0, 0, 0) ∈ kX6_tidy := List.mem_of_getElem? (i := 38) rfl
theorem eX6_tidy_68 : (68, Instr.getfield 63, 3, 6, 24, 593) ∈ kX6_tidy := List.mem_of_getElem? (i := 39) rfl
theorem eX6_tidy_71 : (71, Instr.iload 7, 2, 0, 0, 0) ∈ kX6_tidy := List.mem_of_getElem? (i := 40) rfl
theorem eX6_tidy_73 : (73, Instr.iaload, 1, 0, 0, 0) ∈ kX6_tidy := List.mem_of_getElem? (i := 41) rfl
theorem eX6_tidy_74 : (74, Instr.baload, 1, 0, 0, 0) ∈ kX6_tidy := List.mem_of_getElem? (i := 42) rfl
theorem eX6_tidy_75 : (75, Instr.ifCond .eq 6, 3, 81, 0, 0) ∈ kX6_tidy := List.mem_of_getElem? (i := 43) rfl
theorem eX6_tidy_78 : (78, Instr.goto 90, 3, 168, 0, 0) ∈ kX6_tidy := List.mem_of_getElem? (i := 44) rfl
theorem eX6_tidy_81 : (81, Instr.iconst 0, 1, 0, 0, 0) ∈ kX6_tidy := List.mem_of_getElem? (i := 45) rfl
theorem eX6_tidy_82 : (82, Instr.istore 8, 2, 0, 0, 0) ∈ kX6_tidy := List.mem_of_getElem? (i := 46) rfl
theorem eX6_tidy_84 : (84, Instr.iload 8, 2, 0, 0, 0) ∈ kX6_tidy := List.mem_of_getElem? (i := 47) rfl
theorem eX6_tidy_86 : (86, Instr.aload_n 0, 1, 0, 0, 0) ∈ kX6_tidy := List.mem_of_getElem? (i := 48) rfl
theorem eX6_tidy_87 : (87, Instr.getfield 116, 3, 6, 11, 580) ∈ kX6_tidy := List.mem_of_getElem? (i := 49) rfl
theorem eX6_tidy_90 : (90, Instr.if_icmp .ge 78, 3, 168, 0, 0) ∈ kX6_tidy := List.mem_of_getElem? (i := 50) rfl
theorem eX6_tidy_93 : (93, Instr.aload_n 0, 1, 0, 0, 0) ∈ kX6_tidy := List.mem_of_getElem? (i := 51) rfl
theorem eX6_tidy_94 : (94, Instr.iload 7, 2, 0, 0, 0) ∈ kX6_tidy := List.mem_of_getElem? (i := 52) rfl
theorem eX6_tidy_96 : (96, Instr.aload_n 0, 1, 0, 0, 0) ∈ kX6_tidy := List.mem_of_getElem? (i := 53) rfl
theorem eX6_tidy_97 : (97, Instr.getfield 63, 3, 6, 24, 593) ∈ kX6_tidy := List.mem_of_getElem? (i := 54) rfl
theorem eX6_tidy_100 : (100, Instr.iload 7, 2, 0, 0, 0) ∈ kX6_tidy := List.mem_of_getElem? (i := 55) rfl
theorem eX6_tidy_102 : (102, Instr.iaload, 1, 0, 0, 0) ∈ kX6_tidy := List.mem_of_getElem? (i := 56) rfl
theorem eX6_tidy_103 : (103, Instr.invokevirtual 142, 3, 90, 2, 720) ∈ kX6_tidy := List.mem_of_getElem? (i := 57) rfl
theorem eX6_tidy_106 : (106, Instr.aload_n 0, 1, 0, 0, 0) ∈ kX6_tidy := List.mem_of_getElem? (i := 58) rfl
theorem eX6_tidy_107 : (107, Instr.iload 7, 2, 0, 0, 0) ∈ kX6_tidy := List.mem_of_getElem? (i := 59) rfl
theorem eX6_tidy_109 : (109, Instr.iload 8, 2, 0, 0, 0) ∈ kX6_tidy := List.mem_of_getElem? (i := 60) rfl
theorem eX6_tidy_111 : (111, Instr.invokevirtual 142, 3, 90, 2, 720) ∈ kX6_tidy := List.mem_of_getElem? (i := 61) rfl
theorem eX6_tidy_114 : (114, Instr.isub, 1, 0, 0, 0) ∈ kX6_tidy := List.mem_of_getElem? (i := 62) rfl
theorem eX6_tidy_115 : (115, Instr.istore 9, 2, 0, 0, 0) ∈ kX6_tidy := List.mem_of_getElem? (i := 63) rfl
theorem eX6_tidy_117 : (117, Instr.iload 9, 2, 0, 0, 0) ∈ kX6_tidy := List.mem_of_getElem? (i := 64) rfl
theorem eX6_tidy_119 : (119, Instr.iload 4, 2, 0, 0, 0) ∈ kX6_tidy := List.mem_of_getElem? (i := 65) rfl
theorem eX6_tidy_121 : (121, Instr.if_icmp .le 41, 3, 162, 0, 0) ∈ kX6_tidy := List.mem_of_getElem? (i := 66) rfl
theorem eX6_tidy_124 : (124, Instr.iload 8, 2, 0, 0, 0) ∈ kX6_tidy := List.mem_of_getElem? (i := 67) rfl
theorem eX6_tidy_126 : (126, Instr.aload_n 0, 1, 0, 0, 0) ∈ kX6_tidy := List.mem_of_getElem? (i := 68) rfl
theorem eX6_tidy_127 : (127, Instr.getfield 63, 3, 6, 24, 593) ∈ kX6_tidy := List.mem_of_getElem? (i := 69) rfl
theorem eX6_tidy_130 : (130, Instr.iload 7, 2, 0, 0, 0) ∈ kX6_tidy := List.mem_of_getElem? (i := 70) rfl
theorem eX6_tidy_132 : (132, Instr.iaload, 1, 0, 0, 0) ∈ kX6_tidy := List.mem_of_getElem? (i := 71) rfl
theorem eX6_tidy_133 : (133, Instr.if_icmp .eq 29, 3, 162, 0, 0) ∈ kX6_tidy := List.mem_of_getElem? (i := 72) rfl
theorem eX6_tidy_136 : (136, Instr.aload_n 0, 1, 0, 0, 0) ∈ kX6_tidy := List.mem_of_getElem? (i := 73) rfl
theorem eX6_tidy_137 : (137, Instr.iload 7, 2, 0, 0, 0) ∈ kX6_tidy := List.mem_of_getElem? (i := 74) rfl
theorem eX6_tidy_139 : (139, Instr.iload 8, 2, 0, 0, 0) ∈ kX6_tidy := List.mem_of_getElem? (i := 75) rfl
theorem eX6_tidy_141 : (141, Instr.invokevirtual 139, 3, 88, 2, 708) ∈ kX6_tidy := List.mem_of_getElem? (i := 76) rfl
theorem eX6_tidy_144 : (144, Instr.ifCond .ne 6, 3, 150, 0, 0) ∈ kX6_tidy := List.mem_of_getElem? (i := 77) rfl
theorem eX6_tidy_147 : (147, Instr.goto 15, 3, 162, 0, 0) ∈ kX6_tidy := List.mem_of_getElem? (i := 78) rfl
theorem eX6_tidy_150 : (150, Instr.iload 9, 2, 0, 0, 0) ∈ kX6_tidy := List.mem_of_getElem? (i := 79) rfl
theorem eX6_tidy_152 : (152, Instr.istore 4, 2, 0, 0, 0) ∈ kX6_tidy := List.mem_of_getElem? (i := 80) rfl
theorem eX6_tidy_154 : (154, Instr.iload 7, 2, 0, 0, 0) ∈ kX6_tidy := List.mem_of_getElem? (i := 81) rfl
theorem eX6_tidy_156 : (156, Instr.istore 5, 2, 0, 0, 0) ∈ kX6_tidy := List.mem_of_getElem? (i := 82) rfl
theorem eX6_tidy_158 : (158, Instr.iload 8, 2, 0, 0, 0) ∈ kX6_tidy := List.mem_of_getElem? (i := 83) rfl
theorem eX6_tidy_160 : (160, Instr.istore 6, 2, 0, 0, 0) ∈ kX6_tidy := List.mem_of_getElem? (i := 84) rfl
theorem eX6_tidy_162 : (162, Instr.iinc 8 1, 3, 0, 0, 0) ∈ kX6_tidy := List.mem_of_getElem? (i := 85) rfl
theorem eX6_tidy_165 : (165, Instr.goto (-81), 3, 84, 0, 0) ∈ kX6_tidy := List.mem_of_getElem? (i := 86) rfl
theorem eX6_tidy_168 : (168, Instr.iinc 7 1, 3, 0, 0, 0) ∈ kX6_tidy := List.mem_of_getElem? (i := 87) rfl
theorem eX6_tidy_171 : (171, Instr.goto (-127), 3, 44, 0, 0) ∈ kX6_tidy := List.mem_of_getElem? (i := 88) rfl
theorem eX6_tidy_174 : (174, Instr.iload 5, 2, 0, 0, 0) ∈ kX6_tidy := List.mem_of_getElem? (i := 89) rfl
theorem eX6_tidy_176 : (176, Instr.ifCond .lt 7, 3, 183, 0, 0) ∈ kX6_tidy := List.mem_of_getElem? (i := 90) rfl
theorem eX6_tidy_179 : (179, Instr.iconst 1, 1, 0, 0, 0) ∈ kX6_tidy := List.mem_of_getElem? (i := 91) rfl
theorem eX6_tidy_180 : (180, Instr.goto 4, 3, 184, 0, 0) ∈ kX6_tidy := List.mem_of_getElem? (i := 92) rfl
theorem eX6_tidy_183 : (183, Instr.iconst 0, 1, 0, 0, 0) ∈ kX6_tidy := List.mem_of_getElem? (i := 93) rfl
theorem eX6_tidy_184 : (184, Instr.istore_n 3, 1, 0, 0, 0) ∈ kX6_tidy := List.mem_of_getElem? (i := 94) rfl
theorem eX6_tidy_185 : (185, Instr.iload_n 3, 1, 0, 0, 0) ∈ kX6_tidy := List.mem_of_getElem? (i := 95) rfl
theorem eX6_tidy_186 : (186, Instr.ifCond .ne 6, 3, 192, 0, 0) ∈ kX6_tidy := List.mem_of_getElem? (i := 96) rfl
theorem eX6_tidy_189 : (189, Instr.goto (-166), 3, 23, 0, 0) ∈ kX6_tidy := List.mem_of_getElem? (i := 97) rfl
theorem eX6_tidy_192 : (192, Instr.aload_n 0, 1, 0, 0, 0) ∈ kX6_tidy := List.mem_of_getElem? (i := 98) rfl
theorem eX6_tidy_193 : (193, Instr.dup, 1, 0, 0, 0) ∈ kX6_tidy := List.mem_of_getElem? (i := 99) rfl
theorem eX6_tidy_194 : (194, Instr.getfield 145, 3, 6, 4, 573) ∈ kX6_tidy := List.mem_of_getElem? (i := 100) rfl
theorem eX6_tidy_197 : (197, Instr.aload_n 0, 1, 0, 0, 0) ∈ kX6_tidy := List.mem_of_getElem? (i := 101) rfl
theorem eX6_tidy_198 : (198, Instr.getfield 35, 3, 6, 15, 584) ∈ kX6_tidy := List.mem_of_getElem? (i := 102) rfl
theorem eX6_tidy_201 : (201, Instr.aload_n 0, 1, 0, 0, 0) ∈ kX6_tidy := List.mem_of_getElem? (i := 103) rfl
theorem eX6_tidy_202 : (202, Instr.getfield 63, 3, 6, 24, 593) ∈ kX6_tidy := List.mem_of_getElem? (i := 104) rfl
theorem eX6_tidy_205 : (205, Instr.iload 5, 2, 0, 0, 0) ∈ kX6_tidy := List.mem_of_getElem? (i := 105) rfl
theorem eX6_tidy_207 : (207, Instr.iaload, 1, 0, 0, 0) ∈ kX6_tidy := List.mem_of_getElem? (i := 106) rfl
theorem eX6_tidy_208 : (208, Instr.iaload, 1, 0, 0, 0) ∈ kX6_tidy := List.mem_of_getElem? (i := 107) rfl
theorem eX6_tidy_209 : (209, Instr.aload_n 0, 1, 0, 0, 0) ∈ kX6_tidy := List.mem_of_getElem? (i := 108) rfl
theorem eX6_tidy_210 : (210, Instr.getfield 35, 3, 6, 15, 584) ∈ kX6_tidy := List.mem_of_getElem? (i := 109) rfl
theorem eX6_tidy_213 : (213, Instr.iload 6, 2, 0, 0, 0) ∈ kX6_tidy := List.mem_of_getElem? (i := 110) rfl
theorem eX6_tidy_215 : (215, Instr.iaload, 1, 0, 0, 0) ∈ kX6_tidy := List.mem_of_getElem? (i := 111) rfl
theorem eX6_tidy_216 : (216, Instr.iadd, 1, 0, 0, 0) ∈ kX6_tidy := List.mem_of_getElem? (i := 112) rfl
theorem eX6_tidy_217 : (217, Instr.iadd, 1, 0, 0, 0) ∈ kX6_tidy := List.mem_of_getElem? (i := 113) rfl
theorem eX6_tidy_218 : (218, Instr.putfield 145, 3, 6, 4, 573) ∈ kX6_tidy := List.mem_of_getElem? (i := 114) rfl
theorem eX6_tidy_221 : (221, Instr.aload_n 0, 1, 0, 0, 0) ∈ kX6_tidy := List.mem_of_getElem? (i := 115) rfl
theorem eX6_tidy_222 : (222, Instr.getfield 63, 3, 6, 24, 593) ∈ kX6_tidy := List.mem_of_getElem? (i := 116) rfl
theorem eX6_tidy_225 : (225, Instr.iload 5, 2, 0, 0, 0) ∈ kX6_tidy := List.mem_of_getElem? (i := 117) rfl
theorem eX6_tidy_227 : (227, Instr.iload 6, 2, 0, 0, 0) ∈ kX6_tidy := List.mem_of_getElem? (i := 118) rfl
theorem eX6_tidy_229 : (229, Instr.iastore, 1, 0, 0, 0) ∈ kX6_tidy := List.mem_of_getElem? (i := 119) rfl
theorem eX6_tidy_230 : (230, Instr.iinc 2 1, 3, 0, 0, 0) ∈ kX6_tidy := List.mem_of_getElem? (i := 120) rfl
theorem eX6_tidy_233 : (233, Instr.goto (-210), 3, 23, 0, 0) ∈ kX6_tidy := List.mem_of_getElem? (i := 121) rfl
theorem eX6_tidy_236 : (236, Instr.iload_n 2, 1, 0, 0, 0) ∈ kX6_tidy := List.mem_of_getElem? (i := 122) rfl
theorem eX6_tidy_237 : (237, Instr.ireturn, 1, 0, 0, 0) ∈ kX6_tidy := List.mem_of_getElem? (i := 123) rfl
theorem aX6_least : am_m nX6_least = mX6_least := rfl
theorem eX6_least_0 : (0, Instr.iconst 0, 1, 0, 0, 0) ∈ kX6_least := List.mem_of_getElem? (i := 0) rfl
theorem eX6_least_1 : (1, Instr.istore_n 1, 1, 0, 0, 0) ∈ kX6_least := List.mem_of_getElem? (i := 1) rfl
theorem eX6_least_2 : (2, Instr.iconst 0, 1, 0, 0, 0) ∈ kX6_least := List.mem_of_getElem? (i := 2) rfl
theorem eX6_least_3 : (3, Instr.istore_n 2, 1, 0, 0, 0) ∈ kX6_least := List.mem_of_getElem? (i := 3) rfl
theorem eX6_least_4 : (4, Instr.iconst 0, 1, 0, 0, 0) ∈ kX6_least := List.mem_of_getElem? (i := 4) rfl
theorem eX6_least_5 : (5, Instr.istore_n 3, 1, 0, 0, 0) ∈ kX6_least := List.mem_of_getElem? (i := 5) rfl
theorem eX6_least_6 : (6, Instr.iload_n 3, 1, 0, 0, 0) ∈ kX6_least := List.mem_of_getElem? (i := 6) rfl
theorem eX6_least_7 : (7, Instr.aload_n 0, 1, 0, 0, 0) ∈ kX6_least := List.mem_of_getElem? (i := 7) rfl
theorem eX6_least_8 : (8, Instr.getfield 107, 3, 6, 12, 581) ∈ kX6_least := List.mem_of_getElem? (i := 8) rfl
theorem eX6_least_11 : (11, Instr.if_icmp .ge 69, 3, 80, 0, 0) ∈ kX6_least := List.mem_of_getElem? (i := 9) rfl
theorem eX6_least_14 : (14, Instr.aload_n 0, 1, 0, 0, 0) ∈ kX6_least := List.mem_of_getElem? (i := 10) rfl
theorem eX6_least_15 : (15, Instr.getfield 60, 3, 6, 23, 592) ∈ kX6_least := List.mem_of_getElem? (i := 11) rfl
theorem eX6_least_18 : (18, Instr.iload_n 3, 1, 0, 0, 0) ∈ kX6_least := List.mem_of_getElem? (i := 12) rfl
theorem eX6_least_19 : (19, Instr.iaload, 1, 0, 0, 0) ∈ kX6_least := List.mem_of_getElem? (i := 13) rfl
theorem eX6_least_20 : (20, Instr.ifCond .eq 6, 3, 26, 0, 0) ∈ kX6_least := List.mem_of_getElem? (i := 14) rfl
theorem eX6_least_23 : (23, Instr.goto 51, 3, 74, 0, 0) ∈ kX6_least := List.mem_of_getElem? (i := 15) rfl
theorem eX6_least_26 : (26, Instr.aload_n 0, 1, 0, 0, 0) ∈ kX6_least := List.mem_of_getElem? (i := 16) rfl
theorem eX6_least_27 : (27, Instr.getfield 42, 3, 6, 17, 586) ∈ kX6_least := List.mem_of_getElem? (i := 17) rfl
theorem eX6_least_30 : (30, Instr.aload_n 0, 1, 0, 0, 0) ∈ kX6_least := List.mem_of_getElem? (i := 18) rfl
theorem eX6_least_31 : (31, Instr.getfield 63, 3, 6, 24, 593) ∈ kX6_least := List.mem_of_getElem? (i := 19) rfl
theorem eX6_least_34 : (34, Instr.iload_n 3, 1, 0, 0, 0) ∈ kX6_least := List.mem_of_getElem? (i := 20) rfl
theorem eX6_least_35 : (35, Instr.iaload, 1, 0, 0, 0) ∈ kX6_least := List.mem_of_getElem? (i := 21) rfl
theorem eX6_least_36 : (36, Instr.baload, 1, 0, 0, 0) ∈ kX6_least := List.mem_of_getElem? (i := 22) rfl
theorem eX6_least_37 : (37, Instr.ifCond .eq 20, 3, 57, 0, 0) ∈ kX6_least := List.mem_of_getElem? (i := 23) rfl
theorem eX6_least_40 : (40, Instr.iload_n 2, 1, 0, 0, 0) ∈ kX6_least := List.mem_of_getElem? (i := 24) rfl
theorem eX6_least_41 : (41, Instr.aload_n 0, 1, 0, 0, 0) ∈ kX6_least := List.mem_of_getElem? (i := 25) rfl
theorem eX6_least_42 : (42, Instr.iload_n 3, 1, 0, 0, 0) ∈ kX6_least := List.mem_of_getElem? (i := 26) rfl
theorem eX6_least_43 : (43, Instr.aload_n 0, 1, 0, 0, 0) ∈ kX6_least := List.mem_of_getElem? (i := 27) rfl
theorem eX6_least_44 : (44, Instr.getfield 63, 3, 6, 24, 593) ∈ kX6_least := List.mem_of_getElem? (i := 28) rfl
theorem eX6_least_47 : (47, Instr.iload_n 3, 1, 0, 0, 0) ∈ kX6_least := List.mem_of_getElem? (i := 29) rfl
theorem eX6_least_48 : (48, Instr.iaload, 1, 0, 0, 0) ∈ kX6_least := List.mem_of_getElem? (i := 30) rfl
theorem eX6_least_49 : (49, Instr.invokevirtual 142, 3, 90, 2, 720) ∈ kX6_least := List.mem_of_getElem? (i := 31) rfl
theorem eX6_least_52 : (52, Instr.iadd, 1, 0, 0, 0) ∈ kX6_least := List.mem_of_getElem? (i := 32) rfl
theorem eX6_least_53 : (53, Instr.istore_n 2, 1, 0, 0, 0) ∈ kX6_least := List.mem_of_getElem? (i := 33) rfl
theorem eX6_least_54 : (54, Instr.goto 20, 3, 74, 0, 0) ∈ kX6_least := List.mem_of_getElem? (i := 34) rfl
theorem eX6_least_57 : (57, Instr.iload_n 1, 1, 0, 0, 0) ∈ kX6_least := List.mem_of_getElem? (i := 35) rfl
theorem eX6_least_58 : (58, Instr.iconst 5, 1, 0, 0, 0) ∈ kX6_least := List.mem_of_getElem? (i := 36) rfl
theorem eX6_least_59 : (59, Instr.if_icmp .ne 5, 3, 64, 0, 0) ∈ kX6_least := List.mem_of_getElem? (i := 37) rfl
theorem eX6_least_62 : (62, Instr.iconst (-1), 1, 0, 0, 0) ∈ kX6_least := List.mem_of_getElem? (i := 38) rfl
theorem eX6_least_63 : (63, Instr.ireturn, 1, 0, 0, 0) ∈ kX6_least := List.mem_of_getElem? (i := 39) rfl
theorem eX6_least_64 : (64, Instr.aload_n 0, 1, 0, 0, 0) ∈ kX6_least := List.mem_of_getElem? (i := 40) rfl
theorem eX6_least_65 : (65, Instr.getfield 87, 3, 6, 33, 602) ∈ kX6_least := List.mem_of_getElem? (i := 41) rfl
theorem eX6_least_68 : (68, Instr.iload_n 1, 1, 0, 0, 0) ∈ kX6_least := List.mem_of_getElem? (i := 42) rfl
theorem eX6_least_69 : (69, Instr.iload_n 3, 1, 0, 0, 0) ∈ kX6_least := List.mem_of_getElem? (i := 43) rfl
theorem eX6_least_70 : (70, Instr.iastore, 1, 0, 0, 0) ∈ kX6_least := List.mem_of_getElem? (i := 44) rfl
theorem eX6_least_71 : (71, Instr.iinc 1 1, 3, 0, 0, 0) ∈ kX6_least := List.mem_of_getElem? (i := 45) rfl
theorem eX6_least_74 : (74, Instr.iinc 3 1, 3, 0, 0, 0) ∈ kX6_least := List.mem_of_getElem? (i := 46) rfl
theorem eX6_least_77 : (77, Instr.goto (-71), 3, 6, 0, 0) ∈ kX6_least := List.mem_of_getElem? (i := 47) rfl
theorem eX6_least_80 : (80, Instr.iconst 0, 1, 0, 0, 0) ∈ kX6_least := List.mem_of_getElem? (i := 48) rfl
theorem eX6_least_81 : (81, Instr.istore_n 3, 1, 0, 0, 0) ∈ kX6_least := List.mem_of_getElem? (i := 49) rfl
theorem eX6_least_82 : (82, Instr.iload_n 3, 1, 0, 0, 0) ∈ kX6_least := List.mem_of_getElem? (i := 50) rfl
theorem eX6_least_83 : (83, Instr.aload_n 0, 1, 0, 0, 0) ∈ kX6_least := List.mem_of_getElem? (i := 51) rfl
theorem eX6_least_84 : (84, Instr.getfield 116, 3, 6, 11, 580) ∈ kX6_least := List.mem_of_getElem? (i := 52) rfl
theorem eX6_least_87 : (87, Instr.if_icmp .ge 21, 3, 108, 0, 0) ∈ kX6_least := List.mem_of_getElem? (i := 53) rfl
theorem eX6_least_90 : (90, Instr.aload_n 0, 1, 0, 0, 0) ∈ kX6_least := List.mem_of_getElem? (i := 54) rfl
theorem eX6_least_91 : (91, Instr.getfield 93, 3, 6, 35, 604) ∈ kX6_least := List.mem_of_getElem? (i := 55) rfl
theorem eX6_least_94 : (94, Instr.iload_n 3, 1, 0, 0, 0) ∈ kX6_least := List.mem_of_getElem? (i := 56) rfl
theorem eX6_least_95 : (95, Instr.aload_n 0, 1, 0, 0, 0) ∈ kX6_least := List.mem_of_getElem? (i := 57) rfl
theorem eX6_least_96 : (96, Instr.getfield 29, 3, 6, 13, 582) ∈ kX6_least := List.mem_of_getElem? (i := 58) rfl
theorem eX6_least_99 : (99, Instr.iload_n 3, 1, 0, 0, 0) ∈ kX6_least := List.mem_of_getElem? (i := 59) rfl
theorem eX6_least_100 : (100, Instr.iaload, 1, 0, 0, 0) ∈ kX6_least := List.mem_of_getElem? (i := 60) rfl
theorem eX6_least_101 : (101, Instr.iastore, 1, 0, 0, 0) ∈ kX6_least := List.mem_of_getElem? (i := 61) rfl
theorem eX6_least_102 : (102, Instr.iinc 3 1, 3, 0, 0, 0) ∈ kX6_least := List.mem_of_getElem? (i := 62) rfl
theorem eX6_least_105 : (105, Instr.goto (-23), 3, 82, 0, 0) ∈ kX6_least := List.mem_of_getElem? (i := 63) rfl
theorem eX6_least_108 : (108, Instr.iconst (-1), 1, 0, 0, 0) ∈ kX6_least := List.mem_of_getElem? (i := 64) rfl
theorem eX6_least_109 : (109, Instr.istore_n 3, 1, 0, 0, 0) ∈ kX6_least := List.mem_of_getElem? (i := 65) rfl
theorem eX6_least_110 : (110, Instr.iconst 0, 1, 0, 0, 0) ∈ kX6_least := List.mem_of_getElem? (i := 66) rfl
theorem eX6_least_111 : (111, Instr.istore 4, 2, 0, 0, 0) ∈ kX6_least := List.mem_of_getElem? (i := 67) rfl
theorem eX6_least_113 : (113, Instr.iconst 0, 1, 0, 0, 0) ∈ kX6_least := List.mem_of_getElem? (i := 68) rfl
theorem eX6_least_114 : (114, Instr.istore 5, 2, 0, 0, 0) ∈ kX6_least := List.mem_of_getElem? (i := 69) rfl
theorem eX6_least_116 : (116, Instr.aload_n 0, 1, 0, 0, 0) ∈ kX6_least := List.mem_of_getElem? (i := 70) rfl
theorem eX6_least_117 : (117, Instr.getfield 90, 3, 6, 34, 603) ∈ kX6_least := List.mem_of_getElem? (i := 71) rfl
theorem eX6_least_120 : (120, Instr.iconst 0, 1, 0, 0, 0) ∈ kX6_least := List.mem_of_getElem? (i := 72) rfl
theorem eX6_least_121 : (121, Instr.iconst (-1), 1, 0, 0, 0) ∈ kX6_least := List.mem_of_getElem? (i := 73) rfl
theorem eX6_least_122 : (122, Instr.iastore, 1, 0, 0, 0) ∈ kX6_least := List.mem_of_getElem? (i := 74) rfl
theorem eX6_least_123 : (123, Instr.iload 5, 2, 0, 0, 0) ∈ kX6_least := List.mem_of_getElem? (i := 75) rfl
theorem eX6_least_125 : (125, Instr.ifCond .lt 213, 3, 338, 0, 0) ∈ kX6_least := List.mem_of_getElem? (i := 76) rfl
theorem eX6_least_128 : (128, Instr.iload 5, 2, 0, 0, 0) ∈ kX6_least := List.mem_of_getElem? (i := 77) rfl
theorem eX6_least_130 : (130, Instr.iload_n 1, 1, 0, 0, 0) ∈ kX6_least := List.mem_of_getElem? (i := 78) rfl
theorem eX6_least_131 : (131, Instr.if_icmp .ne 26, 3, 157, 0, 0) ∈ kX6_least := List.mem_of_getElem? (i := 79) rfl
theorem eX6_least_134 : (134, Instr.iload_n 3, 1, 0, 0, 0) ∈ kX6_least := List.mem_of_getElem? (i := 80) rfl
theorem eX6_least_135 : (135, Instr.ifCond .lt 9, 3, 144, 0, 0) ∈ kX6_least := List.mem_of_getElem? (i := 81) rfl
theorem eX6_least_138 : (138, Instr.iload 4, 2, 0, 0, 0) ∈ kX6_least := List.mem_of_getElem? (i := 82) rfl
theorem eX6_least_140 : (140, Instr.iload_n 3, 1, 0, 0, 0) ∈ kX6_least := List.mem_of_getElem? (i := 83) rfl
theorem eX6_least_141 : (141, Instr.if_icmp .ge 8, 3, 149, 0, 0) ∈ kX6_least := List.mem_of_getElem? (i := 84) rfl
theorem eX6_least_144 : (144, Instr.iload 4, 2, 0, 0, 0) ∈ kX6_least := List.mem_of_getElem? (i := 85) rfl
theorem eX6_least_146 : (146, Instr.goto 4, 3, 150, 0, 0) ∈ kX6_least := List.mem_of_getElem? (i := 86) rfl
theorem eX6_least_149 : (149, Instr.iload_n 3, 1, 0, 0, 0) ∈ kX6_least := List.mem_of_getElem? (i := 87) rfl
theorem eX6_least_150 : (150, Instr.istore_n 3, 1, 0, 0, 0) ∈ kX6_least := List.mem_of_getElem? (i := 88) rfl
theorem eX6_least_151 : (151, Instr.iinc 5 (-1), 3, 0, 0, 0) ∈ kX6_least := List.mem_of_getElem? (i := 89) rfl
theorem eX6_least_154 : (154, Instr.goto (-31), 3, 123, 0, 0) ∈ kX6_least := List.mem_of_getElem? (i := 90) rfl
theorem eX6_least_157 : (157, Instr.aload_n 0, 1, 0, 0, 0) ∈ kX6_least := List.mem_of_getElem? (i := 91) rfl
theorem eX6_least_158 : (158, Instr.getfield 87, 3, 6, 33, 602) ∈ kX6_least := List.mem_of_getElem? (i := 92) rfl
theorem eX6_least_161 : (161, Instr.iload 5, 2, 0, 0, 0) ∈ kX6_least := List.mem_of_getElem? (i := 93) rfl
theorem eX6_least_163 : (163, Instr.iaload, 1, 0, 0, 0) ∈ kX6_least := List.mem_of_getElem? (i := 94) rfl
theorem eX6_least_164 : (164, Instr.istore 6, 2, 0, 0, 0) ∈ kX6_least := List.mem_of_getElem? (i := 95) rfl
theorem eX6_least_166 : (166, Instr.aload_n 0, 1, 0, 0, 0) ∈ kX6_least := List.mem_of_getElem? (i := 96) rfl
theorem eX6_least_167 : (167, Instr.getfield 90, 3, 6, 34, 603) ∈ kX6_least := List.mem_of_getElem? (i := 97) rfl
theorem eX6_least_170 : (170, Instr.iload 5, 2, 0, 0, 0) ∈ kX6_least := List.mem_of_getElem? (i := 98) rfl
theorem eX6_least_172 : (172, Instr.iaload, 1, 0, 0, 0) ∈ kX6_least := List.mem_of_getElem? (i := 99) rfl
theorem eX6_least_173 : (173, Instr.ifCond .lt 43, 3, 216, 0, 0) ∈ kX6_least := List.mem_of_getElem? (i := 100) rfl
theorem eX6_least_176 : (176, Instr.aload_n 0, 1, 0, 0, 0) ∈ kX6_least := List.mem_of_getElem? (i := 101) rfl
theorem eX6_least_177 : (177, Instr.getfield 93, 3, 6, 35, 604) ∈ kX6_least := List.mem_of_getElem? (i := 102) rfl
theorem eX6_least_180 : (180, Instr.aload_n 0, 1, 0, 0, 0) ∈ kX6_least := List.mem_of_getElem? (i := 103) rfl
theorem eX6_least_181 : (181, Instr.getfield 90, 3, 6, 34, 603) ∈ kX6_least := List.mem_of_getElem? (i := 104) rfl
theorem eX6_least_184 : (184, Instr.iload 5, 2, 0, 0, 0) ∈ kX6_least := List.mem_of_getElem? (i := 105) rfl
theorem eX6_least_186 : (186, Instr.iaload, 1, 0, 0, 0) ∈ kX6_least := List.mem_of_getElem? (i := 106) rfl
theorem eX6_least_187 : (187, Instr.dup2, 1, 0, 0, 0) ∈ kX6_least := List.mem_of_getElem? (i := 107) rfl
theorem eX6_least_188 : (188, Instr.iaload, 1, 0, 0, 0) ∈ kX6_least := List.mem_of_getElem? (i := 108) rfl
theorem eX6_least_189 : (189, Instr.aload_n 0, 1, 0, 0, 0) ∈ kX6_least := List.mem_of_getElem? (i := 109) rfl
theorem eX6_least_190 : (190, Instr.getfield 45, 3, 6, 18, 587) ∈ kX6_least := List.mem_of_getElem? (i := 110) rfl
theorem eX6_least_193 : (193, Instr.iload 6, 2, 0, 0, 0) ∈ kX6_least := List.mem_of_getElem? (i := 111) rfl
theorem eX6_least_195 : (195, Instr.iaload, 1, 0, 0, 0) ∈ kX6_least := List.mem_of_getElem? (i := 112) rfl
theorem eX6_least_196 : (196, Instr.iadd, 1, 0, 0, 0) ∈ kX6_least := List.mem_of_getElem? (i := 113) rfl
theorem eX6_least_197 : (197, Instr.iastore, 1, 0, 0, 0) ∈ kX6_least := List.mem_of_getElem? (i := 114) rfl
theorem eX6_least_198 : (198, Instr.iload 4, 2, 0, 0, 0) ∈ kX6_least := List.mem_of_getElem? (i := 115) rfl
theorem eX6_least_200 : (200, Instr.aload_n 0, 1, 0, 0, 0) ∈ kX6_least := List.mem_of_getElem? (i := 116) rfl
theorem eX6_least_201 : (201, Instr.iload 6, 2, 0, 0, 0) ∈ kX6_least := List.mem_of_getElem? (i := 117) rfl
theorem eX6_least_203 : (203, Instr.aload_n 0, 1, 0, 0, 0) ∈ kX6_least := List.mem_of_getElem? (i := 118) rfl
theorem eX6_least_204 : (204, Instr.getfield 90, 3, 6, 34, 603) ∈ kX6_least := List.mem_of_getElem? (i := 119) rfl
theorem eX6_least_207 : (207, Instr.iload 5, 2, 0, 0, 0) ∈ kX6_least := List.mem_of_getElem? (i := 120) rfl
theorem eX6_least_209 : (209, Instr.iaload, 1, 0, 0, 0) ∈ kX6_least := List.mem_of_getElem? (i := 121) rfl
theorem eX6_least_210 : (210, Instr.invokevirtual 142, 3, 90, 2, 720) ∈ kX6_least := List.mem_of_getElem? (i := 122) rfl
theorem eX6_least_213 : (213, Instr.isub, 1, 0, 0, 0) ∈ kX6_least := List.mem_of_getElem? (i := 123) rfl
theorem eX6_least_214 : (214, Instr.istore 4, 2, 0, 0, 0) ∈ kX6_least := List.mem_of_getElem? (i := 124) rfl
theorem eX6_least_216 : (216, Instr.aload_n 0, 1, 0, 0, 0) ∈ kX6_least := List.mem_of_getElem? (i := 125) rfl
theorem eX6_least_217 : (217, Instr.getfield 90, 3, 6, 34, 603) ∈ kX6_least := List.mem_of_getElem? (i := 126) rfl
theorem eX6_least_220 : (220, Instr.iload 5, 2, 0, 0, 0) ∈ kX6_least := List.mem_of_getElem? (i := 127) rfl
theorem eX6_least_222 : (222, Instr.iaload, 1, 0, 0, 0) ∈ kX6_least := List.mem_of_getElem? (i := 128) rfl
theorem eX6_least_223 : (223, Instr.iconst 1, 1, 0, 0, 0) ∈ kX6_least := List.mem_of_getElem? (i := 129) rfl
theorem eX6_least_224 : (224, Instr.iadd, 1, 0, 0, 0) ∈ kX6_least := List.mem_of_getElem? (i := 130) rfl
theorem eX6_least_225 : (225, Instr.istore 7, 2, 0, 0, 0) ∈ kX6_least := List.mem_of_getElem? (i := 131) rfl
theorem eX6_least_227 : (227, Instr.iload 7, 2, 0, 0, 0) ∈ kX6_least := List.mem_of_getElem? (i := 132) rfl
theorem eX6_least_229 : (229, Instr.aload_n 0, 1, 0, 0, 0) ∈ kX6_least := List.mem_of_getElem? (i := 133) rfl
theorem eX6_least_230 : (230, Instr.getfield 116, 3, 6, 11, 580) ∈ kX6_least := List.mem_of_getElem? (i := 134) rfl
theorem eX6_least_233 : (233, Instr.if_icmp .ge 37, 3, 270, 0, 0) ∈ kX6_least := List.mem_of_getElem? (i := 135) rfl
theorem eX6_least_236 : (236, Instr.aload_n 0, 1, 0, 0, 0) ∈ kX6_least := List.mem_of_getElem? (i := 136) rfl
theorem eX6_least_237 : (237, Instr.iload 6, 2, 0, 0, 0) ∈ kX6_least := List.mem_of_getElem? (i := 137) rfl
theorem eX6_least_239 : (239, Instr.iload 7, 2, 0, 0, 0) ∈ kX6_least := List.mem_of_getElem? (i := 138) rfl
theorem eX6_least_241 : (241, Instr.invokevirtual 119, 3, 87, 2, 712) ∈ kX6_least := List.mem_of_getElem? (i := 139) rfl
theorem eX6_least_244 : (244, Instr.ifCond .eq 20, 3, 264, 0, 0) ∈ kX6_least := List.mem_of_getElem? (i := 140) rfl
theorem eX6_least_247 : (247, Instr.aload_n 0, 1, 0, 0, 0) ∈ kX6_least := List.mem_of_getElem? (i := 141) rfl
theorem eX6_least_248 : (248, Instr.getfield 93, 3, 6, 35, 604) ∈ kX6_least := List.mem_of_getElem? (i := 142) rfl
theorem eX6_least_251 : (251, Instr.iload 7, 2, 0, 0, 0) ∈ kX6_least := List.mem_of_getElem? (i := 143) rfl
theorem eX6_least_253 : (253, Instr.iaload, 1, 0, 0, 0) ∈ kX6_least := List.mem_of_getElem? (i := 144) rfl
theorem eX6_least_254 : (254, Instr.aload_n 0, 1, 0, 0, 0) ∈ kX6_least := List.mem_of_getElem? (i := 145) rfl
theorem eX6_least_255 : (255, Instr.getfield 45, 3, 6, 18, 587) ∈ kX6_least := List.mem_of_getElem? (i := 146) rfl
theorem eX6_least_258 : (258, Instr.iload 6, 2, 0, 0, 0) ∈ kX6_least := List.mem_of_getElem? (i := 147) rfl
theorem eX6_least_260 : (260, Instr.iaload, 1, 0, 0, 0) ∈ kX6_least := List.mem_of_getElem? (i := 148) rfl
theorem eX6_least_261 : (261, Instr.if_icmp .ge 9, 3, 270, 0, 0) ∈ kX6_least := List.mem_of_getElem? (i := 149) rfl
theorem eX6_least_264 : (264, Instr.iinc 7 1, 3, 0, 0, 0) ∈ kX6_least := List.mem_of_getElem? (i := 150) rfl
theorem eX6_least_267 : (267, Instr.goto (-40), 3, 227, 0, 0) ∈ kX6_least := List.mem_of_getElem? (i := 151) rfl
theorem eX6_least_270 : (270, Instr.iload 7, 2, 0, 0, 0) ∈ kX6_least := List.mem_of_getElem? (i := 152) rfl
theorem eX6_least_272 : (272, Instr.aload_n 0, 1, 0, 0, 0) ∈ kX6_least := List.mem_of_getElem? (i := 153) rfl
theorem eX6_least_273 : (273, Instr.getfield 116, 3, 6, 11, 580) ∈ kX6_least := List.mem_of_getElem? (i := 154) rfl
theorem eX6_least_276 : (276, Instr.if_icmp .ne 9, 3, 285, 0, 0) ∈ kX6_least := List.mem_of_getElem? (i := 155) rfl
theorem eX6_least_279 : (279, Instr.iinc 5 (-1), 3, 0, 0, 0) ∈ kX6_least := List.mem_of_getElem? (i := 156) rfl
theorem eX6_least_282 : (282, Instr.goto (-159), 3, 123, 0, 0) ∈ kX6_least := List.mem_of_getElem? (i := 157) rfl
theorem eX6_least_285 : (285, Instr.aload_n 0, 1, 0, 0, 0) ∈ kX6_least := List.mem_of_getElem? (i := 158) rfl
theorem eX6_least_286 : (286, Instr.getfield 90, 3, 6, 34, 603) ∈ kX6_least := List.mem_of_getElem? (i := 159) rfl
theorem eX6_least_289 : (289, Instr.iload 5, 2, 0, 0, 0) ∈ kX6_least := List.mem_of_getElem? (i := 160) rfl
theorem eX6_least_291 : (291, Instr.iload 7, 2, 0, 0, 0) ∈ kX6_least := List.mem_of_getElem? (i := 161) rfl
theorem eX6_least_293 : (293, Instr.iastore, 1, 0, 0, 0) ∈ kX6_least := List.mem_of_getElem? (i := 162) rfl
theorem eX6_least_294 : (294, Instr.aload_n 0, 1, 0, 0, 0) ∈ kX6_least := List.mem_of_getElem? (i := 163) rfl
theorem eX6_least_295 : (295, Instr.getfield 93, 3, 6, 35, 604) ∈ kX6_least := List.mem_of_getElem? (i := 164) rfl
theorem eX6_least_298 : (298, Instr.iload 7, 2, 0, 0, 0) ∈ kX6_least := List.mem_of_getElem? (i := 165) rfl
theorem eX6_least_300 : (300, Instr.dup2, 1, 0, 0, 0) ∈ kX6_least := List.mem_of_getElem? (i := 166) rfl
theorem eX6_least_301 : (301, Instr.iaload, 1, 0, 0, 0) ∈ kX6_least := List.mem_of_getElem? (i := 167) rfl
theorem eX6_least_302 : (302, Instr.aload_n 0, 1, 0, 0, 0) ∈ kX6_least := List.mem_of_getElem? (i := 168) rfl
theorem eX6_least_303 : (303, Instr.getfield 45, 3, 6, 18, 587) ∈ kX6_least := List.mem_of_getElem? (i := 169) rfl
theorem eX6_least_306 : (306, Instr.iload 6, 2, 0, 0, 0) ∈ kX6_least := List.mem_of_getElem? (i := 170) rfl
theorem eX6_least_308 : (308, Instr.iaload, 1, 0, 0, 0) ∈ kX6_least := List.mem_of_getElem? (i := 171) rfl
theorem eX6_least_309 : (309, Instr.isub, 1, 0, 0, 0) ∈ kX6_least := List.mem_of_getElem? (i := 172) rfl
theorem eX6_least_310 : (310, Instr.iastore, 1, 0, 0, 0) ∈ kX6_least := List.mem_of_getElem? (i := 173) rfl
theorem eX6_least_311 : (311, Instr.iload 4, 2, 0, 0, 0) ∈ kX6_least := List.mem_of_getElem? (i := 174) rfl
theorem eX6_least_313 : (313, Instr.aload_n 0, 1, 0, 0, 0) ∈ kX6_least := List.mem_of_getElem? (i := 175) rfl
theorem eX6_least_314 : (314, Instr.iload 6, 2, 0, 0, 0) ∈ kX6_least := List.mem_of_getElem? (i := 176) rfl
theorem eX6_least_316 : (316, Instr.iload 7, 2, 0, 0, 0) ∈ kX6_least := List.mem_of_getElem? (i := 177) rfl
theorem eX6_least_318 : (318, Instr.invokevirtual 142, 3, 90, 2, 720) ∈ kX6_least := List.mem_of_getElem? (i := 178) rfl
theorem eX6_least_321 : (321, Instr.iadd, 1, 0, 0, 0) ∈ kX6_least := List.mem_of_getElem? (i := 179) rfl
theorem eX6_least_322 : (322, Instr.istore 4, 2, 0, 0, 0) ∈ kX6_least := List.mem_of_getElem? (i := 180) rfl
theorem eX6_least_324 : (324, Instr.iinc 5 1, 3, 0, 0, 0) ∈ kX6_least := List.mem_of_getElem? (i := 181) rfl
theorem eX6_least_327 : (327, Instr.aload_n 0, 1, 0, 0, 0) ∈ kX6_least := List.mem_of_getElem? (i := 182) rfl
theorem eX6_least_328 : (328, Instr.getfield 90, 3, 6, 34, 603) ∈ kX6_least := List.mem_of_getElem? (i := 183) rfl
theorem eX6_least_331 : (331, Instr.iload 5, 2, 0, 0, 0) ∈ kX6_least := List.mem_of_getElem? (i := 184) rfl
theorem eX6_least_333 : (333, Instr.iconst (-1), 1, 0, 0, 0) ∈ kX6_least := List.mem_of_getElem? (i := 185) rfl
theorem eX6_least_334 : (334, Instr.iastore, 1, 0, 0, 0) ∈ kX6_least := List.mem_of_getElem? (i := 186) rfl
theorem eX6_least_335 : (335, Instr.goto (-212), 3, 123, 0, 0) ∈ kX6_least := List.mem_of_getElem? (i := 187) rfl
theorem eX6_least_338 : (338, Instr.iload_n 3, 1, 0, 0, 0) ∈ kX6_least := List.mem_of_getElem? (i := 188) rfl
theorem eX6_least_339 : (339, Instr.iload_n 2, 1, 0, 0, 0) ∈ kX6_least := List.mem_of_getElem? (i := 189) rfl
theorem eX6_least_340 : (340, Instr.iadd, 1, 0, 0, 0) ∈ kX6_least := List.mem_of_getElem? (i := 190) rfl
theorem eX6_least_341 : (341, Instr.ireturn, 1, 0, 0, 0) ∈ kX6_least := List.mem_of_getElem? (i := 191) rfl
theorem aX6_sell : am_m nX6_sell = mX6_sell := rfl
theorem eX6_sell_0 : (0, Instr.iload_n 1, 1, 0, 0, 0) ∈ kX6_sell := List.mem_of_getElem? (i := 0) rfl
theorem eX6_sell_1 : (1, Instr.iconst 0, 1, 0, 0, 0) ∈ kX6_sell := List.mem_of_getElem? (i := 1) rfl
theorem eX6_sell_2 : (2, Instr.aload_n 0, 1, 0, 0, 0) ∈ kX6_sell := List.mem_of_getElem? (i := 2) rfl
theorem eX6_sell_3 : (3, Instr.getfield 107, 3, 6, 12, 581) ∈ kX6_sell := List.mem_of_getElem? (i := 3) rfl
theorem eX6_sell_6 : (6, Instr.iconst 1, 1, 0, 0, 0) ∈ kX6_sell := List.mem_of_getElem? (i := 4) rfl
theorem eX6_sell_7 : (7, Instr.isub, 1, 0, 0, 0) ∈ kX6_sell := List.mem_of_getElem? (i := 5) rfl
theorem eX6_sell_8 : (8, Instr.invokestatic 102, 3, 78, 3, 683) ∈ kX6_sell := List.mem_of_getElem? (i := 6) rfl
theorem eX6_sell_11 : (11, Instr.ifCond .eq 13, 3, 24, 0, 0) ∈ kX6_sell := List.mem_of_getElem? (i := 7) rfl
theorem eX6_sell_14 : (14, Instr.iload_n 2, 1, 0, 0, 0) ∈ kX6_sell := List.mem_of_getElem? (i := 8) rfl
theorem eX6_sell_15 : (15, Instr.iconst 0, 1, 0, 0, 0) ∈ kX6_sell := List.mem_of_getElem? (i := 9) rfl
theorem eX6_sell_16 : (16, Instr.ldc 106, 2, 100000, 0, 690) ∈ kX6_sell := List.mem_of_getElem? (i := 10) rfl
theorem eX6_sell_18 : (18, Instr.invokestatic 102, 3, 78, 3, 683) ∈ kX6_sell := List.mem_of_getElem? (i := 11) rfl
theorem eX6_sell_21 : (21, Instr.ifCond .ne 6, 3, 27, 0, 0) ∈ kX6_sell := List.mem_of_getElem? (i := 12) rfl
theorem eX6_sell_24 : (24, Instr.bipush (-2), 2, 0, 0, 0) ∈ kX6_sell := List.mem_of_getElem? (i := 13) rfl
theorem eX6_sell_26 : (26, Instr.ireturn, 1, 0, 0, 0) ∈ kX6_sell := List.mem_of_getElem? (i := 14) rfl
theorem eX6_sell_27 : (27, Instr.aload_n 0, 1, 0, 0, 0) ∈ kX6_sell := List.mem_of_getElem? (i := 15) rfl
theorem eX6_sell_28 : (28, Instr.getfield 60, 3, 6, 23, 592) ∈ kX6_sell := List.mem_of_getElem? (i := 16) rfl
theorem eX6_sell_31 : (31, Instr.iload_n 1, 1, 0, 0, 0) ∈ kX6_sell := List.mem_of_getElem? (i := 17) rfl
theorem eX6_sell_32 : (32, Instr.iaload, 1, 0, 0, 0) ∈ kX6_sell := List.mem_of_getElem? (i := 18) rfl
theorem eX6_sell_33 : (33, Instr.ifCond .eq 6, 3, 39, 0, 0) ∈ kX6_sell := List.mem_of_getElem? (i := 19) rfl
theorem eX6_sell_36 : (36, Instr.bipush (-3), 2, 0, 0, 0) ∈ kX6_sell := List.mem_of_getElem? (i := 20) rfl
theorem eX6_sell_38 : (38, Instr.ireturn, 1, 0, 0, 0) ∈ kX6_sell := List.mem_of_getElem? (i := 21) rfl
theorem eX6_sell_39 : (39, Instr.aload_n 0, 1, 0, 0, 0) ∈ kX6_sell := List.mem_of_getElem? (i := 22) rfl
theorem eX6_sell_40 : (40, Instr.getfield 96, 3, 6, 0, 569) ∈ kX6_sell := List.mem_of_getElem? (i := 23) rfl
theorem eX6_sell_43 : (43, Instr.sipush 1440, 3, 0, 0, 0) ∈ kX6_sell := List.mem_of_getElem? (i := 24) rfl
theorem eX6_sell_46 : (46, Instr.idiv, 1, 0, 0, 0) ∈ kX6_sell := List.mem_of_getElem? (i := 25) rfl
theorem eX6_sell_47 : (47, Instr.aload_n 0, 1, 0, 0, 0) ∈ kX6_sell := List.mem_of_getElem? (i := 26) rfl
theorem eX6_sell_48 : (48, Instr.getfield 54, 3, 6, 21, 590) ∈ kX6_sell := List.mem_of_getElem? (i := 27) rfl
theorem eX6_sell_51 : (51, Instr.iload_n 1, 1, 0, 0, 0) ∈ kX6_sell := List.mem_of_getElem? (i := 28) rfl
theorem eX6_sell_52 : (52, Instr.iaload, 1, 0, 0, 0) ∈ kX6_sell := List.mem_of_getElem? (i := 29) rfl
theorem eX6_sell_53 : (53, Instr.sipush 1440, 3, 0, 0, 0) ∈ kX6_sell := List.mem_of_getElem? (i := 30) rfl
theorem eX6_sell_56 : (56, Instr.idiv, 1, 0, 0, 0) ∈ kX6_sell := List.mem_of_getElem? (i := 31) rfl
theorem eX6_sell_57 : (57, Instr.isub, 1, 0, 0, 0) ∈ kX6_sell := List.mem_of_getElem? (i := 32) rfl
theorem eX6_sell_58 : (58, Instr.bipush 7, 2, 0, 0, 0) ∈ kX6_sell := List.mem_of_getElem? (i := 33) rfl
theorem eX6_sell_60 : (60, Instr.if_icmp .ge 6, 3, 66, 0, 0) ∈ kX6_sell := List.mem_of_getElem? (i := 34) rfl
theorem eX6_sell_63 : (63, Instr.bipush (-4), 2, 0, 0, 0) ∈ kX6_sell := List.mem_of_getElem? (i := 35) rfl
theorem eX6_sell_65 : (65, Instr.ireturn, 1, 0, 0, 0) ∈ kX6_sell := List.mem_of_getElem? (i := 36) rfl
theorem eX6_sell_66 : (66, Instr.aload_n 0, 1, 0, 0, 0) ∈ kX6_sell := List.mem_of_getElem? (i := 37) rfl
theorem eX6_sell_67 : (67, Instr.getfield 42, 3, 6, 17, 586) ∈ kX6_sell := List.mem_of_getElem? (i := 38) rfl
theorem eX6_sell_70 : (70, Instr.aload_n 0, 1, 0, 0, 0) ∈ kX6_sell := List.mem_of_getElem? (i := 39) rfl
theorem eX6_sell_71 : (71, Instr.getfield 63, 3, 6, 24, 593) ∈ kX6_sell := List.mem_of_getElem? (i := 40) rfl
theorem eX6_sell_74 : (74, Instr.iload_n 1, 1, 0, 0, 0) ∈ kX6_sell := List.mem_of_getElem? (i := 41) rfl
theorem eX6_sell_75 : (75, Instr.iaload, 1, 0, 0, 0) ∈ kX6_sell := List.mem_of_getElem? (i := 42) rfl
theorem eX6_sell_76 : (76, Instr.baload, 1, 0, 0, 0) ∈ kX6_sell := List.mem_of_getElem? (i := 43) rfl
theorem eX6_sell_77 : (77, Instr.ifCond .eq 6, 3, 83, 0, 0) ∈ kX6_sell := List.mem_of_getElem? (i := 44) rfl
theorem eX6_sell_80 : (80, Instr.bipush (-5), 2, 0, 0, 0) ∈ kX6_sell := List.mem_of_getElem? (i := 45) rfl
theorem eX6_sell_82 : (82, Instr.ireturn, 1, 0, 0, 0) ∈ kX6_sell := List.mem_of_getElem? (i := 46) rfl
theorem eX6_sell_83 : (83, Instr.aload_n 0, 1, 0, 0, 0) ∈ kX6_sell := List.mem_of_getElem? (i := 47) rfl
theorem eX6_sell_84 : (84, Instr.getfield 69, 3, 6, 26, 595) ∈ kX6_sell := List.mem_of_getElem? (i := 48) rfl
theorem eX6_sell_87 : (87, Instr.iload_n 1, 1, 0, 0, 0) ∈ kX6_sell := List.mem_of_getElem? (i := 49) rfl
theorem eX6_sell_88 : (88, Instr.aload_n 0, 1, 0, 0, 0) ∈ kX6_sell := List.mem_of_getElem? (i := 50) rfl
theorem eX6_sell_89 : (89, Instr.getfield 96, 3, 6, 0, 569) ∈ kX6_sell := List.mem_of_getElem? (i := 51) rfl
theorem eX6_sell_92 : (92, Instr.sipush 1440, 3, 0, 0, 0) ∈ kX6_sell := List.mem_of_getElem? (i := 52) rfl
theorem eX6_sell_95 : (95, Instr.idiv, 1, 0, 0, 0) ∈ kX6_sell := List.mem_of_getElem? (i := 53) rfl
theorem eX6_sell_96 : (96, Instr.iastore, 1, 0, 0, 0) ∈ kX6_sell := List.mem_of_getElem? (i := 54) rfl
theorem eX6_sell_97 : (97, Instr.aload_n 0, 1, 0, 0, 0) ∈ kX6_sell := List.mem_of_getElem? (i := 55) rfl
theorem eX6_sell_98 : (98, Instr.getfield 75, 3, 6, 28, 597) ∈ kX6_sell := List.mem_of_getElem? (i := 56) rfl
theorem eX6_sell_101 : (101, Instr.iload_n 1, 1, 0, 0, 0) ∈ kX6_sell := List.mem_of_getElem? (i := 57) rfl
theorem eX6_sell_102 : (102, Instr.baload, 1, 0, 0, 0) ∈ kX6_sell := List.mem_of_getElem? (i := 58) rfl
theorem eX6_sell_103 : (103, Instr.ifCond .eq 11, 3, 114, 0, 0) ∈ kX6_sell := List.mem_of_getElem? (i := 59) rfl
theorem eX6_sell_106 : (106, Instr.aload_n 0, 1, 0, 0, 0) ∈ kX6_sell := List.mem_of_getElem? (i := 60) rfl
theorem eX6_sell_107 : (107, Instr.iload_n 1, 1, 0, 0, 0) ∈ kX6_sell := List.mem_of_getElem? (i := 61) rfl
theorem eX6_sell_108 : (108, Instr.iconst 5, 1, 0, 0, 0) ∈ kX6_sell := List.mem_of_getElem? (i := 62) rfl
theorem eX6_sell_109 : (109, Instr.invokevirtual 163, 3, 96, 2, 755) ∈ kX6_sell := List.mem_of_getElem? (i := 63) rfl
theorem eX6_sell_112 : (112, Instr.iconst 1, 1, 0, 0, 0) ∈ kX6_sell := List.mem_of_getElem? (i := 64) rfl
theorem eX6_sell_113 : (113, Instr.ireturn, 1, 0, 0, 0) ∈ kX6_sell := List.mem_of_getElem? (i := 65) rfl
theorem eX6_sell_114 : (114, Instr.aload_n 0, 1, 0, 0, 0) ∈ kX6_sell := List.mem_of_getElem? (i := 66) rfl
theorem eX6_sell_115 : (115, Instr.getfield 66, 3, 6, 25, 594) ∈ kX6_sell := List.mem_of_getElem? (i := 67) rfl
theorem eX6_sell_118 : (118, Instr.iload_n 1, 1, 0, 0, 0) ∈ kX6_sell := List.mem_of_getElem? (i := 68) rfl
theorem eX6_sell_119 : (119, Instr.iload_n 2, 1, 0, 0, 0) ∈ kX6_sell := List.mem_of_getElem? (i := 69) rfl
theorem eX6_sell_120 : (120, Instr.iastore, 1, 0, 0, 0) ∈ kX6_sell := List.mem_of_getElem? (i := 70) rfl
theorem eX6_sell_121 : (121, Instr.aload_n 0, 1, 0, 0, 0) ∈ kX6_sell := List.mem_of_getElem? (i := 71) rfl
theorem eX6_sell_122 : (122, Instr.iload_n 1, 1, 0, 0, 0) ∈ kX6_sell := List.mem_of_getElem? (i := 72) rfl
theorem eX6_sell_123 : (123, Instr.iconst 2, 1, 0, 0, 0) ∈ kX6_sell := List.mem_of_getElem? (i := 73) rfl
theorem eX6_sell_124 : (124, Instr.invokevirtual 163, 3, 96, 2, 755) ∈ kX6_sell := List.mem_of_getElem? (i := 74) rfl
theorem eX6_sell_127 : (127, Instr.iconst 0, 1, 0, 0, 0) ∈ kX6_sell := List.mem_of_getElem? (i := 75) rfl
theorem eX6_sell_128 : (128, Instr.ireturn, 1, 0, 0, 0) ∈ kX6_sell := List.mem_of_getElem? (i := 76) rfl
theorem aX6_pay : am_m nX6_pay = mX6_pay := rfl
theorem eX6_pay_0 : (0, Instr.aload_n 0, 1, 0, 0, 0) ∈ kX6_pay := List.mem_of_getElem? (i := 0) rfl
theorem eX6_pay_1 : (1, Instr.iload_n 1, 1, 0, 0, 0) ∈ kX6_pay := List.mem_of_getElem? (i := 1) rfl
theorem eX6_pay_2 : (2, Instr.invokevirtual 154, 3, 94, 1, 738) ∈ kX6_pay := List.mem_of_getElem? (i := 2) rfl
theorem eX6_pay_5 : (5, Instr.istore_n 2, 1, 0, 0, 0) ∈ kX6_pay := List.mem_of_getElem? (i := 3) rfl
theorem eX6_pay_6 : (6, Instr.iload_n 2, 1, 0, 0, 0) ∈ kX6_pay := List.mem_of_getElem? (i := 4) rfl
theorem eX6_pay_7 : (7, Instr.ifCond .ge 5, 3, 12, 0, 0) ∈ kX6_pay := List.mem_of_getElem? (i := 5) rfl
theorem eX6_pay_10 : (10, Instr.iload_n 2, 1, 0, 0, 0) ∈ kX6_pay := List.mem_of_getElem? (i := 6) rfl
theorem eX6_pay_11 : (11, Instr.ireturn, 1, 0, 0, 0) ∈ kX6_pay := List.mem_of_getElem? (i := 7) rfl
theorem eX6_pay_12 : (12, Instr.aload_n 0, 1, 0, 0, 0) ∈ kX6_pay := List.mem_of_getElem? (i := 8) rfl
theorem eX6_pay_13 : (13, Instr.getfield 60, 3, 6, 23, 592) ∈ kX6_pay := List.mem_of_getElem? (i := 9) rfl
theorem eX6_pay_16 : (16, Instr.iload_n 2, 1, 0, 0, 0) ∈ kX6_pay := List.mem_of_getElem? (i := 10) rfl
theorem eX6_pay_17 : (17, Instr.iaload, 1, 0, 0, 0) ∈ kX6_pay := List.mem_of_getElem? (i := 11) rfl
theorem eX6_pay_18 : (18, Instr.iconst 2, 1, 0, 0, 0) ∈ kX6_pay := List.mem_of_getElem? (i := 12) rfl
theorem eX6_pay_19 : (19, Instr.if_icmp .eq 6, 3, 25, 0, 0) ∈ kX6_pay := List.mem_of_getElem? (i := 13) rfl
theorem eX6_pay_22 : (22, Instr.bipush (-4), 2, 0, 0, 0) ∈ kX6_pay := List.mem_of_getElem? (i := 14) rfl
theorem eX6_pay_24 : (24, Instr.ireturn, 1, 0, 0, 0) ∈ kX6_pay := List.mem_of_getElem? (i := 15) rfl
theorem eX6_pay_25 : (25, Instr.aload_n 0, 1, 0, 0, 0) ∈ kX6_pay := List.mem_of_getElem? (i := 16) rfl
theorem eX6_pay_26 : (26, Instr.invokevirtual 135, 3, 80, 0, 704) ∈ kX6_pay := List.mem_of_getElem? (i := 17) rfl
theorem eX6_pay_29 : (29, Instr.ifCond .ne 6, 3, 35, 0, 0) ∈ kX6_pay := List.mem_of_getElem? (i := 18) rfl
theorem eX6_pay_32 : (32, Instr.bipush (-6), 2, 0, 0, 0) ∈ kX6_pay := List.mem_of_getElem? (i := 19) rfl
theorem eX6_pay_34 : (34, Instr.ireturn, 1, 0, 0, 0) ∈ kX6_pay := List.mem_of_getElem? (i := 20) rfl
theorem eX6_pay_35 : (35, Instr.aload_n 0, 1, 0, 0, 0) ∈ kX6_pay := List.mem_of_getElem? (i := 21) rfl
theorem eX6_pay_36 : (36, Instr.iload_n 2, 1, 0, 0, 0) ∈ kX6_pay := List.mem_of_getElem? (i := 22) rfl
theorem eX6_pay_37 : (37, Instr.invokevirtual 157, 3, 93, 1, 742) ∈ kX6_pay := List.mem_of_getElem? (i := 23) rfl
theorem eX6_pay_40 : (40, Instr.istore_n 3, 1, 0, 0, 0) ∈ kX6_pay := List.mem_of_getElem? (i := 24) rfl
theorem eX6_pay_41 : (41, Instr.iload_n 3, 1, 0, 0, 0) ∈ kX6_pay := List.mem_of_getElem? (i := 25) rfl
theorem eX6_pay_42 : (42, Instr.aload_n 0, 1, 0, 0, 0) ∈ kX6_pay := List.mem_of_getElem? (i := 26) rfl
theorem eX6_pay_43 : (43, Instr.getfield 66, 3, 6, 25, 594) ∈ kX6_pay := List.mem_of_getElem? (i := 27) rfl
theorem eX6_pay_46 : (46, Instr.iload_n 2, 1, 0, 0, 0) ∈ kX6_pay := List.mem_of_getElem? (i := 28) rfl
theorem eX6_pay_47 : (47, Instr.iaload, 1, 0, 0, 0) ∈ kX6_pay := List.mem_of_getElem? (i := 29) rfl
theorem eX6_pay_48 : (48, Instr.if_icmp .ge 7, 3, 55, 0, 0) ∈ kX6_pay := List.mem_of_getElem? (i := 30) rfl
theorem eX6_pay_51 : (51, Instr.iload_n 3, 1, 0, 0, 0) ∈ kX6_pay := List.mem_of_getElem? (i := 31) rfl
theorem eX6_pay_52 : (52, Instr.goto 9, 3, 61, 0, 0) ∈ kX6_pay := List.mem_of_getElem? (i := 32) rfl
theorem eX6_pay_55 : (55, Instr.aload_n 0, 1, 0, 0, 0) ∈ kX6_pay := List.mem_of_getElem? (i := 33) rfl
theorem eX6_pay_56 : (56, Instr.getfield 66, 3, 6, 25, 594) ∈ kX6_pay := List.mem_of_getElem? (i := 34) rfl
theorem eX6_pay_59 : (59, Instr.iload_n 2, 1, 0, 0, 0) ∈ kX6_pay := List.mem_of_getElem? (i := 35) rfl
theorem eX6_pay_60 : (60, Instr.iaload, 1, 0, 0, 0) ∈ kX6_pay := List.mem_of_getElem? (i := 36) rfl
theorem eX6_pay_61 : (61, Instr.istore 4, 2, 0, 0, 0) ∈ kX6_pay := List.mem_of_getElem? (i := 37) rfl
theorem eX6_pay_63 : (63, Instr.aload_n 0, 1, 0, 0, 0) ∈ kX6_pay := List.mem_of_getElem? (i := 38) rfl
theorem eX6_pay_64 : (64, Instr.getfield 66, 3, 6, 25, 594) ∈ kX6_pay := List.mem_of_getElem? (i := 39) rfl
theorem eX6_pay_67 : (67, Instr.iload_n 2, 1, 0, 0, 0) ∈ kX6_pay := List.mem_of_getElem? (i := 40) rfl
theorem eX6_pay_68 : (68, Instr.iaload, 1, 0, 0, 0) ∈ kX6_pay := List.mem_of_getElem? (i := 41) rfl
theorem eX6_pay_69 : (69, Instr.iload 4, 2, 0, 0, 0) ∈ kX6_pay := List.mem_of_getElem? (i := 42) rfl
theorem eX6_pay_71 : (71, Instr.isub, 1, 0, 0, 0) ∈ kX6_pay := List.mem_of_getElem? (i := 43) rfl
theorem eX6_pay_72 : (72, Instr.istore 5, 2, 0, 0, 0) ∈ kX6_pay := List.mem_of_getElem? (i := 44) rfl
theorem eX6_pay_74 : (74, Instr.aload_n 0, 1, 0, 0, 0) ∈ kX6_pay := List.mem_of_getElem? (i := 45) rfl
theorem eX6_pay_75 : (75, Instr.dup, 1, 0, 0, 0) ∈ kX6_pay := List.mem_of_getElem? (i := 46) rfl
theorem eX6_pay_76 : (76, Instr.getfield 110, 3, 6, 3, 572) ∈ kX6_pay := List.mem_of_getElem? (i := 47) rfl
theorem eX6_pay_79 : (79, Instr.iload 4, 2, 0, 0, 0) ∈ kX6_pay := List.mem_of_getElem? (i := 48) rfl
theorem eX6_pay_81 : (81, Instr.iadd, 1, 0, 0, 0) ∈ kX6_pay := List.mem_of_getElem? (i := 49) rfl
theorem eX6_pay_82 : (82, Instr.putfield 110, 3, 6, 3, 572) ∈ kX6_pay := List.mem_of_getElem? (i := 50) rfl
theorem eX6_pay_85 : (85, Instr.aload_n 0, 1, 0, 0, 0) ∈ kX6_pay := List.mem_of_getElem? (i := 51) rfl
theorem eX6_pay_86 : (86, Instr.getfield 66, 3, 6, 25, 594) ∈ kX6_pay := List.mem_of_getElem? (i := 52) rfl
theorem eX6_pay_89 : (89, Instr.iload_n 2, 1, 0, 0, 0) ∈ kX6_pay := List.mem_of_getElem? (i := 53) rfl
theorem eX6_pay_90 : (90, Instr.iconst 0, 1, 0, 0, 0) ∈ kX6_pay := List.mem_of_getElem? (i := 54) rfl
theorem eX6_pay_91 : (91, Instr.iastore, 1, 0, 0, 0) ∈ kX6_pay := List.mem_of_getElem? (i := 55) rfl
theorem eX6_pay_92 : (92, Instr.aload_n 0, 1, 0, 0, 0) ∈ kX6_pay := List.mem_of_getElem? (i := 56) rfl
theorem eX6_pay_93 : (93, Instr.getfield 60, 3, 6, 23, 592) ∈ kX6_pay := List.mem_of_getElem? (i := 57) rfl
theorem eX6_pay_96 : (96, Instr.iload_n 2, 1, 0, 0, 0) ∈ kX6_pay := List.mem_of_getElem? (i := 58) rfl
theorem eX6_pay_97 : (97, Instr.iconst 3, 1, 0, 0, 0) ∈ kX6_pay := List.mem_of_getElem? (i := 59) rfl
theorem eX6_pay_98 : (98, Instr.iastore, 1, 0, 0, 0) ∈ kX6_pay := List.mem_of_getElem? (i := 60) rfl
theorem eX6_pay_99 : (99, Instr.iload 5, 2, 0, 0, 0) ∈ kX6_pay := List.mem_of_getElem? (i := 61) rfl
theorem eX6_pay_101 : (101, Instr.ireturn, 1, 0, 0, 0) ∈ kX6_pay := List.mem_of_getElem? (i := 62) rfl
theorem aX6_tear : am_m nX6_tear = mX6_tear := rfl
theorem eX6_tear_0 : (0, Instr.iload_n 1, 1, 0, 0, 0) ∈ kX6_tear := List.mem_of_getElem? (i := 0) rfl
theorem eX6_tear_1 : (1, Instr.iconst 0, 1, 0, 0, 0) ∈ kX6_tear := List.mem_of_getElem? (i := 1) rfl
theorem eX6_tear_2 : (2, Instr.aload_n 0, 1, 0, 0, 0) ∈ kX6_tear := List.mem_of_getElem? (i := 2) rfl
theorem eX6_tear_3 : (3, Instr.getfield 116, 3, 6, 11, 580) ∈ kX6_tear := List.mem_of_getElem? (i := 3) rfl
theorem eX6_tear_6 : (6, Instr.iconst 1, 1, 0, 0, 0) ∈ kX6_tear := List.mem_of_getElem? (i := 4) rfl
theorem eX6_tear_7 : (7, Instr.isub, 1, 0, 0, 0) ∈ kX6_tear := List.mem_of_getElem? (i := 5) rfl
theorem eX6_tear_8 : (8, Instr.invokestatic 102, 3, 78, 3, 683) ∈ kX6_tear := List.mem_of_getElem? (i := 6) rfl
theorem eX6_tear_11 : (11, Instr.ifCond .eq 12, 3, 23, 0, 0) ∈ kX6_tear := List.mem_of_getElem? (i := 7) rfl
theorem eX6_tear_14 : (14, Instr.aload_n 0, 1, 0, 0, 0) ∈ kX6_tear := List.mem_of_getElem? (i := 8) rfl
theorem eX6_tear_15 : (15, Instr.getfield 42, 3, 6, 17, 586) ∈ kX6_tear := List.mem_of_getElem? (i := 9) rfl
theorem eX6_tear_18 : (18, Instr.iload_n 1, 1, 0, 0, 0) ∈ kX6_tear := List.mem_of_getElem? (i := 10) rfl
theorem eX6_tear_19 : (19, Instr.baload, 1, 0, 0, 0) ∈ kX6_tear := List.mem_of_getElem? (i := 11) rfl
theorem eX6_tear_20 : (20, Instr.ifCond .eq 5, 3, 25, 0, 0) ∈ kX6_tear := List.mem_of_getElem? (i := 12) rfl
theorem eX6_tear_23 : (23, Instr.iconst 0, 1, 0, 0, 0) ∈ kX6_tear := List.mem_of_getElem? (i := 13) rfl
theorem eX6_tear_24 : (24, Instr.ireturn, 1, 1, 0, 0) ∈ kX6_tear := List.mem_of_getElem? (i := 14) rfl
theorem eX6_tear_25 : (25, Instr.aload_n 0, 1, 0, 0, 0) ∈ kX6_tear := List.mem_of_getElem? (i := 15) rfl
theorem eX6_tear_26 : (26, Instr.getfield 42, 3, 6, 17, 586) ∈ kX6_tear := List.mem_of_getElem? (i := 16) rfl
theorem eX6_tear_29 : (29, Instr.iload_n 1, 1, 0, 0, 0) ∈ kX6_tear := List.mem_of_getElem? (i := 17) rfl
theorem eX6_tear_30 : (30, Instr.iconst 1, 1, 0, 0, 0) ∈ kX6_tear := List.mem_of_getElem? (i := 18) rfl
theorem eX6_tear_31 : (31, Instr.bastore, 1, 0, 0, 0) ∈ kX6_tear := List.mem_of_getElem? (i := 19) rfl
theorem eX6_tear_32 : (32, Instr.iconst 1, 1, 0, 0, 0) ∈ kX6_tear := List.mem_of_getElem? (i := 20) rfl
theorem eX6_tear_33 : (33, Instr.ireturn, 1, 1, 0, 0) ∈ kX6_tear := List.mem_of_getElem? (i := 21) rfl
theorem aX6_mend : am_m nX6_mend = mX6_mend := rfl
theorem eX6_mend_0 : (0, Instr.iload_n 1, 1, 0, 0, 0) ∈ kX6_mend := List.mem_of_getElem? (i := 0) rfl
theorem eX6_mend_1 : (1, Instr.iconst 0, 1, 0, 0, 0) ∈ kX6_mend := List.mem_of_getElem? (i := 1) rfl
theorem eX6_mend_2 : (2, Instr.aload_n 0, 1, 0, 0, 0) ∈ kX6_mend := List.mem_of_getElem? (i := 2) rfl
theorem eX6_mend_3 : (3, Instr.getfield 116, 3, 6, 11, 580) ∈ kX6_mend := List.mem_of_getElem? (i := 3) rfl
theorem eX6_mend_6 : (6, Instr.iconst 1, 1, 0, 0, 0) ∈ kX6_mend := List.mem_of_getElem? (i := 4) rfl
theorem eX6_mend_7 : (7, Instr.isub, 1, 0, 0, 0) ∈ kX6_mend := List.mem_of_getElem? (i := 5) rfl
theorem eX6_mend_8 : (8, Instr.invokestatic 102, 3, 78, 3, 683) ∈ kX6_mend := List.mem_of_getElem? (i := 6) rfl
theorem eX6_mend_11 : (11, Instr.ifCond .eq 12, 3, 23, 0, 0) ∈ kX6_mend := List.mem_of_getElem? (i := 7) rfl
theorem eX6_mend_14 : (14, Instr.aload_n 0, 1, 0, 0, 0) ∈ kX6_mend := List.mem_of_getElem? (i := 8) rfl
theorem eX6_mend_15 : (15, Instr.getfield 42, 3, 6, 17, 586) ∈ kX6_mend := List.mem_of_getElem? (i := 9) rfl
theorem eX6_mend_18 : (18, Instr.iload_n 1, 1, 0, 0, 0) ∈ kX6_mend := List.mem_of_getElem? (i := 10) rfl
theorem eX6_mend_19 : (19, Instr.baload, 1, 0, 0, 0) ∈ kX6_mend := List.mem_of_getElem? (i := 11) rfl
theorem eX6_mend_20 : (20, Instr.ifCond .ne 5, 3, 25, 0, 0) ∈ kX6_mend := List.mem_of_getElem? (i := 12) rfl
theorem eX6_mend_23 : (23, Instr.iconst 0, 1, 0, 0, 0) ∈ kX6_mend := List.mem_of_getElem? (i := 13) rfl
theorem eX6_mend_24 : (24, Instr.ireturn, 1, 1, 0, 0) ∈ kX6_mend := List.mem_of_getElem? (i := 14) rfl
theorem eX6_mend_25 : (25, Instr.aload_n 0, 1, 0, 0, 0) ∈ kX6_mend := List.mem_of_getElem? (i := 15) rfl
theorem eX6_mend_26 : (26, Instr.getfield 42, 3, 6, 17, 586) ∈ kX6_mend := List.mem_of_getElem? (i := 16) rfl
theorem eX6_mend_29 : (29, Instr.iload_n 1, 1, 0, 0, 0) ∈ kX6_mend := List.mem_of_getElem? (i := 17) rfl
theorem eX6_mend_30 : (30, Instr.iconst 0, 1, 0, 0, 0) ∈ kX6_mend := List.mem_of_getElem? (i := 18) rfl
theorem eX6_mend_31 : (31, Instr.bastore, 1, 0, 0, 0) ∈ kX6_mend := List.mem_of_getElem? (i := 19) rfl
theorem eX6_mend_32 : (32, Instr.iconst 1, 1, 0, 0, 0) ∈ kX6_mend := List.mem_of_getElem? (i := 20) rfl
theorem eX6_mend_33 : (33, Instr.ireturn, 1, 1, 0, 0) ∈ kX6_mend := List.mem_of_getElem? (i := 21) rfl
theorem aX6_shelfOf : am_m nX6_shelfOf = mX6_shelfOf := rfl
theorem eX6_shelfOf_0 : (0, Instr.iload_n 1, 1, 0, 0, 0) ∈ kX6_shelfOf := List.mem_of_getElem? (i := 0) rfl
theorem eX6_shelfOf_1 : (1, Instr.iconst 0, 1, 0, 0, 0) ∈ kX6_shelfOf := List.mem_of_getElem? (i := 1) rfl
theorem eX6_shelfOf_2 : (2, Instr.aload_n 0, 1, 0, 0, 0) ∈ kX6_shelfOf := List.mem_of_getElem? (i := 2) rfl
theorem eX6_shelfOf_3 : (3, Instr.getfield 116, 3, 6, 11, 580) ∈ kX6_shelfOf := List.mem_of_getElem? (i := 3) rfl
theorem eX6_shelfOf_6 : (6, Instr.iconst 1, 1, 0, 0, 0) ∈ kX6_shelfOf := List.mem_of_getElem? (i := 4) rfl
theorem eX6_shelfOf_7 : (7, Instr.isub, 1, 0, 0, 0) ∈ kX6_shelfOf := List.mem_of_getElem? (i := 5) rfl
theorem eX6_shelfOf_8 : (8, Instr.invokestatic 102, 3, 78, 3, 683) ∈ kX6_shelfOf := List.mem_of_getElem? (i := 6) rfl
theorem eX6_shelfOf_11 : (11, Instr.ifCond .ne 5, 3, 16, 0, 0) ∈ kX6_shelfOf := List.mem_of_getElem? (i := 7) rfl
theorem eX6_shelfOf_14 : (14, Instr.iconst (-1), 1, 0, 0, 0) ∈ kX6_shelfOf := List.mem_of_getElem? (i := 8) rfl
theorem eX6_shelfOf_15 : (15, Instr.ireturn, 1, 0, 0, 0) ∈ kX6_shelfOf := List.mem_of_getElem? (i := 9) rfl
theorem eX6_shelfOf_16 : (16, Instr.iload_n 2, 1, 0, 0, 0) ∈ kX6_shelfOf := List.mem_of_getElem? (i := 10) rfl
theorem eX6_shelfOf_17 : (17, Instr.tableswitch 151 0 6 #[43, 50, 57, 72, 79, 85, 136], 43, 0, 0, 0) ∈ kX6_shelfOf := List.mem_of_getElem? (i := 11) rfl
theorem eX6_shelfOf_60 : (60, Instr.aload_n 0, 1, 0, 0, 0) ∈ kX6_shelfOf := List.mem_of_getElem? (i := 12) rfl
theorem eX6_shelfOf_61 : (61, Instr.getfield 29, 3, 6, 13, 582) ∈ kX6_shelfOf := List.mem_of_getElem? (i := 13) rfl
theorem eX6_shelfOf_64 : (64, Instr.iload_n 1, 1, 0, 0, 0) ∈ kX6_shelfOf := List.mem_of_getElem? (i := 14) rfl
theorem eX6_shelfOf_65 : (65, Instr.iaload, 1, 0, 0, 0) ∈ kX6_shelfOf := List.mem_of_getElem? (i := 15) rfl
theorem eX6_shelfOf_66 : (66, Instr.ireturn, 1, 0, 0, 0) ∈ kX6_shelfOf := List.mem_of_getElem? (i := 16) rfl
theorem eX6_shelfOf_67 : (67, Instr.aload_n 0, 1, 0, 0, 0) ∈ kX6_shelfOf := List.mem_of_getElem? (i := 17) rfl
theorem eX6_shelfOf_68 : (68, Instr.getfield 32, 3, 6, 14, 583) ∈ kX6_shelfOf := List.mem_of_getElem? (i := 18) rfl
theorem eX6_shelfOf_71 : (71, Instr.iload_n 1, 1, 0, 0, 0) ∈ kX6_shelfOf := List.mem_of_getElem? (i := 19) rfl
theorem eX6_shelfOf_72 : (72, Instr.iaload, 1, 0, 0, 0) ∈ kX6_shelfOf := List.mem_of_getElem? (i := 20) rfl
theorem eX6_shelfOf_73 : (73, Instr.ireturn, 1, 0, 0, 0) ∈ kX6_shelfOf := List.mem_of_getElem? (i := 21) rfl
theorem eX6_shelfOf_74 : (74, Instr.aload_n 0, 1, 0, 0, 0) ∈ kX6_shelfOf := List.mem_of_getElem? (i := 22) rfl
theorem eX6_shelfOf_75 : (75, Instr.getfield 38, 3, 6, 16, 585) ∈ kX6_shelfOf := List.mem_of_getElem? (i := 23) rfl
theorem eX6_shelfOf_78 : (78, Instr.iload_n 1, 1, 0, 0, 0) ∈ kX6_shelfOf := List.mem_of_getElem? (i := 24) rfl
theorem eX6_shelfOf_79 : (79, Instr.baload, 1, 0, 0, 0) ∈ kX6_shelfOf := List.mem_of_getElem? (i := 25) rfl
theorem eX6_shelfOf_80 : (80, Instr.ifCond .eq 7, 3, 87, 0, 0) ∈ kX6_shelfOf := List.mem_of_getElem? (i := 26) rfl
theorem eX6_shelfOf_83 : (83, Instr.iconst 1, 1, 0, 0, 0) ∈ kX6_shelfOf := List.mem_of_getElem? (i := 27) rfl
theorem eX6_shelfOf_84 : (84, Instr.goto 4, 3, 88, 0, 0) ∈ kX6_shelfOf := List.mem_of_getElem? (i := 28) rfl
theorem eX6_shelfOf_87 : (87, Instr.iconst 0, 1, 0, 0, 0) ∈ kX6_shelfOf := List.mem_of_getElem? (i := 29) rfl
theorem eX6_shelfOf_88 : (88, Instr.ireturn, 1, 0, 0, 0) ∈ kX6_shelfOf := List.mem_of_getElem? (i := 30) rfl
theorem eX6_shelfOf_89 : (89, Instr.aload_n 0, 1, 0, 0, 0) ∈ kX6_shelfOf := List.mem_of_getElem? (i := 31) rfl
theorem eX6_shelfOf_90 : (90, Instr.getfield 35, 3, 6, 15, 584) ∈ kX6_shelfOf := List.mem_of_getElem? (i := 32) rfl
theorem eX6_shelfOf_93 : (93, Instr.iload_n 1, 1, 0, 0, 0) ∈ kX6_shelfOf := List.mem_of_getElem? (i := 33) rfl
theorem eX6_shelfOf_94 : (94, Instr.iaload, 1, 0, 0, 0) ∈ kX6_shelfOf := List.mem_of_getElem? (i := 34) rfl
theorem eX6_shelfOf_95 : (95, Instr.ireturn, 1, 0, 0, 0) ∈ kX6_shelfOf := List.mem_of_getElem? (i := 35) rfl
theorem eX6_shelfOf_96 : (96, Instr.aload_n 0, 1, 0, 0, 0) ∈ kX6_shelfOf := List.mem_of_getElem? (i := 36) rfl
theorem eX6_shelfOf_97 : (97, Instr.iload_n 1, 1, 0, 0, 0) ∈ kX6_shelfOf := List.mem_of_getElem? (i := 37) rfl
theorem eX6_shelfOf_98 : (98, Instr.invokevirtual 123, 3, 86, 1, 716) ∈ kX6_shelfOf := List.mem_of_getElem? (i := 38) rfl
theorem eX6_shelfOf_101 : (101, Instr.ireturn, 1, 0, 0, 0) ∈ kX6_shelfOf := List.mem_of_getElem? (i := 39) rfl
theorem eX6_shelfOf_102 : (102, Instr.iconst 0, 1, 0, 0, 0) ∈ kX6_shelfOf := List.mem_of_getElem? (i := 40) rfl
theorem eX6_shelfOf_103 : (103, Instr.istore_n 3, 1, 0, 0, 0) ∈ kX6_shelfOf := List.mem_of_getElem? (i := 41) rfl
theorem eX6_shelfOf_104 : (104, Instr.iconst 0, 1, 0, 0, 0) ∈ kX6_shelfOf := List.mem_of_getElem? (i := 42) rfl
theorem eX6_shelfOf_105 : (105, Instr.istore 4, 2, 0, 0, 0) ∈ kX6_shelfOf := List.mem_of_getElem? (i := 43) rfl
theorem eX6_shelfOf_107 : (107, Instr.iload 4, 2, 0, 0, 0) ∈ kX6_shelfOf := List.mem_of_getElem? (i := 44) rfl
theorem eX6_shelfOf_109 : (109, Instr.aload_n 0, 1, 0, 0, 0) ∈ kX6_shelfOf := List.mem_of_getElem? (i := 45) rfl
theorem eX6_shelfOf_110 : (110, Instr.getfield 107, 3, 6, 12, 581) ∈ kX6_shelfOf := List.mem_of_getElem? (i := 46) rfl
theorem eX6_shelfOf_113 : (113, Instr.if_icmp .ge 38, 3, 151, 0, 0) ∈ kX6_shelfOf := List.mem_of_getElem? (i := 47) rfl
theorem eX6_shelfOf_116 : (116, Instr.iload_n 3, 1, 0, 0, 0) ∈ kX6_shelfOf := List.mem_of_getElem? (i := 48) rfl
theorem eX6_shelfOf_117 : (117, Instr.aload_n 0, 1, 0, 0, 0) ∈ kX6_shelfOf := List.mem_of_getElem? (i := 49) rfl
theorem eX6_shelfOf_118 : (118, Instr.getfield 60, 3, 6, 23, 592) ∈ kX6_shelfOf := List.mem_of_getElem? (i := 50) rfl
theorem eX6_shelfOf_121 : (121, Instr.iload 4, 2, 0, 0, 0) ∈ kX6_shelfOf := List.mem_of_getElem? (i := 51) rfl
theorem eX6_shelfOf_123 : (123, Instr.iaload, 1, 0, 0, 0) ∈ kX6_shelfOf := List.mem_of_getElem? (i := 52) rfl
theorem eX6_shelfOf_124 : (124, Instr.ifCond .ne 18, 3, 142, 0, 0) ∈ kX6_shelfOf := List.mem_of_getElem? (i := 53) rfl
theorem eX6_shelfOf_127 : (127, Instr.aload_n 0, 1, 0, 0, 0) ∈ kX6_shelfOf := List.mem_of_getElem? (i := 54) rfl
theorem eX6_shelfOf_128 : (128, Instr.getfield 63, 3, 6, 24, 593) ∈ kX6_shelfOf := List.mem_of_getElem? (i := 55) rfl
theorem eX6_shelfOf_131 : (131, Instr.iload 4, 2, 0, 0, 0) ∈ kX6_shelfOf := List.mem_of_getElem? (i := 56) rfl
theorem eX6_shelfOf_133 : (133, Instr.iaload, 1, 0, 0, 0) ∈ kX6_shelfOf := List.mem_of_getElem? (i := 57) rfl
theorem eX6_shelfOf_134 : (134, Instr.iload_n 1, 1, 0, 0, 0) ∈ kX6_shelfOf := List.mem_of_getElem? (i := 58) rfl
theorem eX6_shelfOf_135 : (135, Instr.if_icmp .ne 7, 3, 142, 0, 0) ∈ kX6_shelfOf := List.mem_of_getElem? (i := 59) rfl
theorem eX6_shelfOf_138 : (138, Instr.iconst 1, 1, 0, 0, 0) ∈ kX6_shelfOf := List.mem_of_getElem? (i := 60) rfl
theorem eX6_shelfOf_139 : (139, Instr.goto 4, 3, 143, 0, 0) ∈ kX6_shelfOf := List.mem_of_getElem? (i := 61) rfl
theorem eX6_shelfOf_142 : (142, Instr.iconst 0, 1, 0, 0, 0) ∈ kX6_shelfOf := List.mem_of_getElem? (i := 62) rfl
theorem eX6_shelfOf_143 : (143, Instr.iadd, 1, 0, 0, 0) ∈ kX6_shelfOf := List.mem_of_getElem? (i := 63) rfl
theorem eX6_shelfOf_144 : (144, Instr.istore_n 3, 1, 0, 0, 0) ∈ kX6_shelfOf := List.mem_of_getElem? (i := 64) rfl
theorem eX6_shelfOf_145 : (145, Instr.iinc 4 1, 3, 0, 0, 0) ∈ kX6_shelfOf := List.mem_of_getElem? (i := 65) rfl
theorem eX6_shelfOf_148 : (148, Instr.goto (-41), 3, 107, 0, 0) ∈ kX6_shelfOf := List.mem_of_getElem? (i := 66) rfl
theorem eX6_shelfOf_151 : (151, Instr.iload_n 3, 1, 0, 0, 0) ∈ kX6_shelfOf := List.mem_of_getElem? (i := 67) rfl
theorem eX6_shelfOf_152 : (152, Instr.ireturn, 1, 0, 0, 0) ∈ kX6_shelfOf := List.mem_of_getElem? (i := 68) rfl
theorem eX6_shelfOf_153 : (153, Instr.aload_n 0, 1, 0, 0, 0) ∈ kX6_shelfOf := List.mem_of_getElem? (i := 69) rfl
theorem eX6_shelfOf_154 : (154, Instr.getfield 42, 3, 6, 17, 586) ∈ kX6_shelfOf := List.mem_of_getElem? (i := 70) rfl
theorem eX6_shelfOf_157 : (157, Instr.iload_n 1, 1, 0, 0, 0) ∈ kX6_shelfOf := List.mem_of_getElem? (i := 71) rfl
theorem eX6_shelfOf_158 : (158, Instr.baload, 1, 0, 0, 0) ∈ kX6_shelfOf := List.mem_of_getElem? (i := 72) rfl
theorem eX6_shelfOf_159 : (159, Instr.ifCond .eq 7, 3, 166, 0, 0) ∈ kX6_shelfOf := List.mem_of_getElem? (i := 73) rfl
theorem eX6_shelfOf_162 : (162, Instr.iconst 1, 1, 0, 0, 0) ∈ kX6_shelfOf := List.mem_of_getElem? (i := 74) rfl
theorem eX6_shelfOf_163 : (163, Instr.goto 4, 3, 167, 0, 0) ∈ kX6_shelfOf := List.mem_of_getElem? (i := 75) rfl
theorem eX6_shelfOf_166 : (166, Instr.iconst 0, 1, 0, 0, 0) ∈ kX6_shelfOf := List.mem_of_getElem? (i := 76) rfl
theorem eX6_shelfOf_167 : (167, Instr.ireturn, 1, 0, 0, 0) ∈ kX6_shelfOf := List.mem_of_getElem? (i := 77) rfl
theorem eX6_shelfOf_168 : (168, Instr.iconst (-1), 1, 0, 0, 0) ∈ kX6_shelfOf := List.mem_of_getElem? (i := 78) rfl
theorem eX6_shelfOf_169 : (169, Instr.ireturn, 1, 0, 0, 0) ∈ kX6_shelfOf := List.mem_of_getElem? (i := 79) rfl
theorem aX6_thing : am_m nX6_thing = mX6_thing := rfl
theorem eX6_thing_0 : (0, Instr.iload_n 1, 1, 0, 0, 0) ∈ kX6_thing := List.mem_of_getElem? (i := 0) rfl
theorem eX6_thing_1 : (1, Instr.iconst 0, 1, 0, 0, 0) ∈ kX6_thing := List.mem_of_getElem? (i := 1) rfl
theorem eX6_thing_2 : (2, Instr.aload_n 0, 1, 0, 0, 0) ∈ kX6_thing := List.mem_of_getElem? (i := 2) rfl
theorem eX6_thing_3 : (3, Instr.getfield 107, 3, 6, 12, 581) ∈ kX6_thing := List.mem_of_getElem? (i := 3) rfl
theorem eX6_thing_6 : (6, Instr.iconst 1, 1, 0, 0, 0) ∈ kX6_thing := List.mem_of_getElem? (i := 4) rfl
theorem eX6_thing_7 : (7, Instr.isub, 1, 0, 0, 0) ∈ kX6_thing := List.mem_of_getElem? (i := 5) rfl
theorem eX6_thing_8 : (8, Instr.invokestatic 102, 3, 78, 3, 683) ∈ kX6_thing := List.mem_of_getElem? (i := 6) rfl
theorem eX6_thing_11 : (11, Instr.ifCond .ne 5, 3, 16, 0, 0) ∈ kX6_thing := List.mem_of_getElem? (i := 7) rfl
theorem eX6_thing_14 : (14, Instr.iconst (-1), 1, 0, 0, 0) ∈ kX6_thing := List.mem_of_getElem? (i := 8) rfl
theorem eX6_thing_15 : (15, Instr.ireturn, 1, 0, 0, 0) ∈ kX6_thing := List.mem_of_getElem? (i := 9) rfl
theorem eX6_thing_16 : (16, Instr.iload_n 2, 1, 0, 0, 0) ∈ kX6_thing := List.mem_of_getElem? (i := 10) rfl
theorem eX6_thing_17 : (17, Instr.tableswitch 204 0 12 #[67, 74, 81, 96, 111, 118, 125, 132, 139, 159, 165, 190, 197], 67, 0, 0, 0) ∈ kX6_thing := List.mem_of_getElem? (i := 11) rfl
theorem eX6_thing_84 : (84, Instr.aload_n 0, 1, 0, 0, 0) ∈ kX6_thing := List.mem_of_getElem? (i := 12) rfl
theorem eX6_thing_85 : (85, Instr.getfield 45, 3, 6, 18, 587) ∈ kX6_thing := List.mem_of_getElem? (i := 13) rfl
theorem eX6_thing_88 : (88, Instr.iload_n 1, 1, 0, 0, 0) ∈ kX6_thing := List.mem_of_getElem? (i := 14) rfl
theorem eX6_thing_89 : (89, Instr.iaload, 1, 0, 0, 0) ∈ kX6_thing := List.mem_of_getElem? (i := 15) rfl
theorem eX6_thing_90 : (90, Instr.ireturn, 1, 0, 0, 0) ∈ kX6_thing := List.mem_of_getElem? (i := 16) rfl
theorem eX6_thing_91 : (91, Instr.aload_n 0, 1, 0, 0, 0) ∈ kX6_thing := List.mem_of_getElem? (i := 17) rfl
theorem eX6_thing_92 : (92, Instr.getfield 48, 3, 6, 19, 588) ∈ kX6_thing := List.mem_of_getElem? (i := 18) rfl
theorem eX6_thing_95 : (95, Instr.iload_n 1, 1, 0, 0, 0) ∈ kX6_thing := List.mem_of_getElem? (i := 19) rfl
theorem eX6_thing_96 : (96, Instr.iaload, 1, 0, 0, 0) ∈ kX6_thing := List.mem_of_getElem? (i := 20) rfl
theorem eX6_thing_97 : (97, Instr.ireturn, 1, 0, 0, 0) ∈ kX6_thing := List.mem_of_getElem? (i := 21) rfl
theorem eX6_thing_98 : (98, Instr.aload_n 0, 1, 0, 0, 0) ∈ kX6_thing := List.mem_of_getElem? (i := 22) rfl
theorem eX6_thing_99 : (99, Instr.getfield 72, 3, 6, 27, 596) ∈ kX6_thing := List.mem_of_getElem? (i := 23) rfl
theorem eX6_thing_102 : (102, Instr.iload_n 1, 1, 0, 0, 0) ∈ kX6_thing := List.mem_of_getElem? (i := 24) rfl
theorem eX6_thing_103 : (103, Instr.baload, 1, 0, 0, 0) ∈ kX6_thing := List.mem_of_getElem? (i := 25) rfl
theorem eX6_thing_104 : (104, Instr.ifCond .eq 7, 3, 111, 0, 0) ∈ kX6_thing := List.mem_of_getElem? (i := 26) rfl
theorem eX6_thing_107 : (107, Instr.iconst 1, 1, 0, 0, 0) ∈ kX6_thing := List.mem_of_getElem? (i := 27) rfl
theorem eX6_thing_108 : (108, Instr.goto 4, 3, 112, 0, 0) ∈ kX6_thing := List.mem_of_getElem? (i := 28) rfl
theorem eX6_thing_111 : (111, Instr.iconst 0, 1, 0, 0, 0) ∈ kX6_thing := List.mem_of_getElem? (i := 29) rfl
theorem eX6_thing_112 : (112, Instr.ireturn, 1, 0, 0, 0) ∈ kX6_thing := List.mem_of_getElem? (i := 30) rfl
theorem eX6_thing_113 : (113, Instr.aload_n 0, 1, 0, 0, 0) ∈ kX6_thing := List.mem_of_getElem? (i := 31) rfl
theorem eX6_thing_114 : (114, Instr.getfield 75, 3, 6, 28, 597) ∈ kX6_thing := List.mem_of_getElem? (i := 32) rfl
theorem eX6_thing_117 : (117, Instr.iload_n 1, 1, 0, 0, 0) ∈ kX6_thing := List.mem_of_getElem? (i := 33) rfl
theorem eX6_thing_118 : (118, Instr.baload, 1, 0, 0, 0) ∈ kX6_thing := List.mem_of_getElem? (i := 34) rfl
theorem eX6_thing_119 : (119, Instr.ifCond .eq 7, 3, 126, 0, 0) ∈ kX6_thing := List.mem_of_getElem? (i := 35) rfl
theorem eX6_thing_122 : (122, Instr.iconst 1, 1, 0, 0, 0) ∈ kX6_thing := List.mem_of_getElem? (i := 36) rfl
theorem eX6_thing_123 : (123, Instr.goto 4, 3, 127, 0, 0) ∈ kX6_thing := List.mem_of_getElem? (i := 37) rfl
theorem eX6_thing_126 : (126, Instr.iconst 0, 1, 0, 0, 0) ∈ kX6_thing := List.mem_of_getElem? (i := 38) rfl
theorem eX6_thing_127 : (127, Instr.ireturn, 1, 0, 0, 0) ∈ kX6_thing := List.mem_of_getElem? (i := 39) rfl
theorem eX6_thing_128 : (128, Instr.aload_n 0, 1, 0, 0, 0) ∈ kX6_thing := List.mem_of_getElem? (i := 40) rfl
theorem eX6_thing_129 : (129, Instr.getfield 51, 3, 6, 20, 589) ∈ kX6_thing := List.mem_of_getElem? (i := 41) rfl
theorem eX6_thing_132 : (132, Instr.iload_n 1, 1, 0, 0, 0) ∈ kX6_thing := List.mem_of_getElem? (i := 42) rfl
theorem eX6_thing_133 : (133, Instr.iaload, 1, 0, 0, 0) ∈ kX6_thing := List.mem_of_getElem? (i := 43) rfl
theorem eX6_thing_134 : (134, Instr.ireturn, 1, 0, 0, 0) ∈ kX6_thing := List.mem_of_getElem? (i := 44) rfl
theorem eX6_thing_135 : (135, Instr.aload_n 0, 1, 0, 0, 0) ∈ kX6_thing := List.mem_of_getElem? (i := 45) rfl
theorem eX6_thing_136 : (136, Instr.getfield 54, 3, 6, 21, 590) ∈ kX6_thing := List.mem_of_getElem? (i := 46) rfl
theorem eX6_thing_139 : (139, Instr.iload_n 1, 1, 0, 0, 0) ∈ kX6_thing := List.mem_of_getElem? (i := 47) rfl
theorem eX6_thing_140 : (140, Instr.iaload, 1, 0, 0, 0) ∈ kX6_thing := List.mem_of_getElem? (i := 48) rfl
theorem eX6_thing_141 : (141, Instr.ireturn, 1, 0, 0, 0) ∈ kX6_thing := List.mem_of_getElem? (i := 49) rfl
theorem eX6_thing_142 : (142, Instr.aload_n 0, 1, 0, 0, 0) ∈ kX6_thing := List.mem_of_getElem? (i := 50) rfl
theorem eX6_thing_143 : (143, Instr.getfield 57, 3, 6, 22, 591) ∈ kX6_thing := List.mem_of_getElem? (i := 51) rfl
theorem eX6_thing_146 : (146, Instr.iload_n 1, 1, 0, 0, 0) ∈ kX6_thing := List.mem_of_getElem? (i := 52) rfl
theorem eX6_thing_147 : (147, Instr.iaload, 1, 0, 0, 0) ∈ kX6_thing := List.mem_of_getElem? (i := 53) rfl
theorem eX6_thing_148 : (148, Instr.ireturn, 1, 0, 0, 0) ∈ kX6_thing := List.mem_of_getElem? (i := 54) rfl
theorem eX6_thing_149 : (149, Instr.aload_n 0, 1, 0, 0, 0) ∈ kX6_thing := List.mem_of_getElem? (i := 55) rfl
theorem eX6_thing_150 : (150, Instr.getfield 60, 3, 6, 23, 592) ∈ kX6_thing := List.mem_of_getElem? (i := 56) rfl
theorem eX6_thing_153 : (153, Instr.iload_n 1, 1, 0, 0, 0) ∈ kX6_thing := List.mem_of_getElem? (i := 57) rfl
theorem eX6_thing_154 : (154, Instr.iaload, 1, 0, 0, 0) ∈ kX6_thing := List.mem_of_getElem? (i := 58) rfl
theorem eX6_thing_155 : (155, Instr.ireturn, 1, 0, 0, 0) ∈ kX6_thing := List.mem_of_getElem? (i := 59) rfl
theorem eX6_thing_156 : (156, Instr.aload_n 0, 1, 0, 0, 0) ∈ kX6_thing := List.mem_of_getElem? (i := 60) rfl
theorem eX6_thing_157 : (157, Instr.getfield 60, 3, 6, 23, 592) ∈ kX6_thing := List.mem_of_getElem? (i := 61) rfl
theorem eX6_thing_160 : (160, Instr.iload_n 1, 1, 0, 0, 0) ∈ kX6_thing := List.mem_of_getElem? (i := 62) rfl
theorem eX6_thing_161 : (161, Instr.iaload, 1, 0, 0, 0) ∈ kX6_thing := List.mem_of_getElem? (i := 63) rfl
theorem eX6_thing_162 : (162, Instr.ifCond .ne 12, 3, 174, 0, 0) ∈ kX6_thing := List.mem_of_getElem? (i := 64) rfl
theorem eX6_thing_165 : (165, Instr.aload_n 0, 1, 0, 0, 0) ∈ kX6_thing := List.mem_of_getElem? (i := 65) rfl
theorem eX6_thing_166 : (166, Instr.getfield 63, 3, 6, 24, 593) ∈ kX6_thing := List.mem_of_getElem? (i := 66) rfl
theorem eX6_thing_169 : (169, Instr.iload_n 1, 1, 0, 0, 0) ∈ kX6_thing := List.mem_of_getElem? (i := 67) rfl
theorem eX6_thing_170 : (170, Instr.iaload, 1, 0, 0, 0) ∈ kX6_thing := List.mem_of_getElem? (i := 68) rfl
theorem eX6_thing_171 : (171, Instr.goto 4, 3, 175, 0, 0) ∈ kX6_thing := List.mem_of_getElem? (i := 69) rfl
theorem eX6_thing_174 : (174, Instr.iconst (-1), 1, 0, 0, 0) ∈ kX6_thing := List.mem_of_getElem? (i := 70) rfl
theorem eX6_thing_175 : (175, Instr.ireturn, 1, 0, 0, 0) ∈ kX6_thing := List.mem_of_getElem? (i := 71) rfl
theorem eX6_thing_176 : (176, Instr.aload_n 0, 1, 0, 0, 0) ∈ kX6_thing := List.mem_of_getElem? (i := 72) rfl
theorem eX6_thing_177 : (177, Instr.iload_n 1, 1, 0, 0, 0) ∈ kX6_thing := List.mem_of_getElem? (i := 73) rfl
theorem eX6_thing_178 : (178, Instr.invokevirtual 127, 3, 89, 1, 724) ∈ kX6_thing := List.mem_of_getElem? (i := 74) rfl
theorem eX6_thing_181 : (181, Instr.ireturn, 1, 0, 0, 0) ∈ kX6_thing := List.mem_of_getElem? (i := 75) rfl
theorem eX6_thing_182 : (182, Instr.aload_n 0, 1, 0, 0, 0) ∈ kX6_thing := List.mem_of_getElem? (i := 76) rfl
theorem eX6_thing_183 : (183, Instr.getfield 60, 3, 6, 23, 592) ∈ kX6_thing := List.mem_of_getElem? (i := 77) rfl
theorem eX6_thing_186 : (186, Instr.iload_n 1, 1, 0, 0, 0) ∈ kX6_thing := List.mem_of_getElem? (i := 78) rfl
theorem eX6_thing_187 : (187, Instr.iaload, 1, 0, 0, 0) ∈ kX6_thing := List.mem_of_getElem? (i := 79) rfl
theorem eX6_thing_188 : (188, Instr.ifCond .ne 17, 3, 205, 0, 0) ∈ kX6_thing := List.mem_of_getElem? (i := 80) rfl
theorem eX6_thing_191 : (191, Instr.aload_n 0, 1, 0, 0, 0) ∈ kX6_thing := List.mem_of_getElem? (i := 81) rfl
theorem eX6_thing_192 : (192, Instr.iload_n 1, 1, 0, 0, 0) ∈ kX6_thing := List.mem_of_getElem? (i := 82) rfl
theorem eX6_thing_193 : (193, Instr.aload_n 0, 1, 0, 0, 0) ∈ kX6_thing := List.mem_of_getElem? (i := 83) rfl
theorem eX6_thing_194 : (194, Instr.getfield 63, 3, 6, 24, 593) ∈ kX6_thing := List.mem_of_getElem? (i := 84) rfl
theorem eX6_thing_197 : (197, Instr.iload_n 1, 1, 0, 0, 0) ∈ kX6_thing := List.mem_of_getElem? (i := 85) rfl
theorem eX6_thing_198 : (198, Instr.iaload, 1, 0, 0, 0) ∈ kX6_thing := List.mem_of_getElem? (i := 86) rfl
theorem eX6_thing_199 : (199, Instr.invokevirtual 142, 3, 90, 2, 720) ∈ kX6_thing := List.mem_of_getElem? (i := 87) rfl
theorem eX6_thing_202 : (202, Instr.goto 4, 3, 206, 0, 0) ∈ kX6_thing := List.mem_of_getElem? (i := 88) rfl
theorem eX6_thing_205 : (205, Instr.iconst (-1), 1, 0, 0, 0) ∈ kX6_thing := List.mem_of_getElem? (i := 89) rfl
theorem eX6_thing_206 : (206, Instr.ireturn, 1, 0, 0, 0) ∈ kX6_thing := List.mem_of_getElem? (i := 90) rfl
theorem eX6_thing_207 : (207, Instr.aload_n 0, 1, 0, 0, 0) ∈ kX6_thing := List.mem_of_getElem? (i := 91) rfl
theorem eX6_thing_208 : (208, Instr.getfield 66, 3, 6, 25, 594) ∈ kX6_thing := List.mem_of_getElem? (i := 92) rfl
theorem eX6_thing_211 : (211, Instr.iload_n 1, 1, 0, 0, 0) ∈ kX6_thing := List.mem_of_getElem? (i := 93) rfl
theorem eX6_thing_212 : (212, Instr.iaload, 1, 0, 0, 0) ∈ kX6_thing := List.mem_of_getElem? (i := 94) rfl
theorem eX6_thing_213 : (213, Instr.ireturn, 1, 0, 0, 0) ∈ kX6_thing := List.mem_of_getElem? (i := 95) rfl
theorem eX6_thing_214 : (214, Instr.aload_n 0, 1, 0, 0, 0) ∈ kX6_thing := List.mem_of_getElem? (i := 96) rfl
theorem eX6_thing_215 : (215, Instr.getfield 69, 3, 6, 26, 595) ∈ kX6_thing := List.mem_of_getElem? (i := 97) rfl
theorem eX6_thing_218 : (218, Instr.iload_n 1, 1, 0, 0, 0) ∈ kX6_thing := List.mem_of_getElem? (i := 98) rfl
theorem eX6_thing_219 : (219, Instr.iaload, 1, 0, 0, 0) ∈ kX6_thing := List.mem_of_getElem? (i := 99) rfl
theorem eX6_thing_220 : (220, Instr.ireturn, 1, 0, 0, 0) ∈ kX6_thing := List.mem_of_getElem? (i := 100) rfl
theorem eX6_thing_221 : (221, Instr.iconst (-1), 1, 0, 0, 0) ∈ kX6_thing := List.mem_of_getElem? (i := 101) rfl
theorem eX6_thing_222 : (222, Instr.ireturn, 1, 0, 0, 0) ∈ kX6_thing := List.mem_of_getElem? (i := 102) rfl
theorem aX6_claimOf : am_m nX6_claimOf = mX6_claimOf := rfl
theorem eX6_claimOf_0 : (0, Instr.aload_n 0, 1, 0, 0, 0) ∈ kX6_claimOf := List.mem_of_getElem? (i := 0) rfl
theorem eX6_claimOf_1 : (1, Instr.iload_n 1, 1, 0, 0, 0) ∈ kX6_claimOf := List.mem_of_getElem? (i := 1) rfl
theorem eX6_claimOf_2 : (2, Instr.invokevirtual 176, 3, 99, 1, 767) ∈ kX6_claimOf := List.mem_of_getElem? (i := 2) rfl
theorem eX6_claimOf_5 : (5, Instr.ifCond .ne 5, 3, 10, 0, 0) ∈ kX6_claimOf := List.mem_of_getElem? (i := 3) rfl
theorem eX6_claimOf_8 : (8, Instr.iconst (-1), 1, 0, 0, 0) ∈ kX6_claimOf := List.mem_of_getElem? (i := 4) rfl
theorem eX6_claimOf_9 : (9, Instr.ireturn, 1, 0, 0, 0) ∈ kX6_claimOf := List.mem_of_getElem? (i := 5) rfl
theorem eX6_claimOf_10 : (10, Instr.iload_n 2, 1, 0, 0, 0) ∈ kX6_claimOf := List.mem_of_getElem? (i := 6) rfl
theorem eX6_claimOf_11 : (11, Instr.tableswitch 53 0 2 #[25, 31, 46], 25, 0, 0, 0) ∈ kX6_claimOf := List.mem_of_getElem? (i := 7) rfl
theorem eX6_claimOf_36 : (36, Instr.aload_n 0, 1, 0, 0, 0) ∈ kX6_claimOf := List.mem_of_getElem? (i := 8) rfl
theorem eX6_claimOf_37 : (37, Instr.iload_n 1, 1, 0, 0, 0) ∈ kX6_claimOf := List.mem_of_getElem? (i := 9) rfl
theorem eX6_claimOf_38 : (38, Instr.invokevirtual 183, 3, 103, 1, 791) ∈ kX6_claimOf := List.mem_of_getElem? (i := 10) rfl
theorem eX6_claimOf_41 : (41, Instr.ireturn, 1, 0, 0, 0) ∈ kX6_claimOf := List.mem_of_getElem? (i := 11) rfl
theorem eX6_claimOf_42 : (42, Instr.aload_n 0, 1, 0, 0, 0) ∈ kX6_claimOf := List.mem_of_getElem? (i := 12) rfl
theorem eX6_claimOf_43 : (43, Instr.getfield 84, 3, 6, 32, 601) ∈ kX6_claimOf := List.mem_of_getElem? (i := 13) rfl
theorem eX6_claimOf_46 : (46, Instr.iload_n 1, 1, 0, 0, 0) ∈ kX6_claimOf := List.mem_of_getElem? (i := 14) rfl
theorem eX6_claimOf_47 : (47, Instr.baload, 1, 0, 0, 0) ∈ kX6_claimOf := List.mem_of_getElem? (i := 15) rfl
theorem eX6_claimOf_48 : (48, Instr.ifCond .eq 7, 3, 55, 0, 0) ∈ kX6_claimOf := List.mem_of_getElem? (i := 16) rfl
theorem eX6_claimOf_51 : (51, Instr.iconst 1, 1, 0, 0, 0) ∈ kX6_claimOf := List.mem_of_getElem? (i := 17) rfl
theorem eX6_claimOf_52 : (52, Instr.goto 4, 3, 56, 0, 0) ∈ kX6_claimOf := List.mem_of_getElem? (i := 18) rfl
theorem eX6_claimOf_55 : (55, Instr.iconst 0, 1, 0, 0, 0) ∈ kX6_claimOf := List.mem_of_getElem? (i := 19) rfl
theorem eX6_claimOf_56 : (56, Instr.ireturn, 1, 0, 0, 0) ∈ kX6_claimOf := List.mem_of_getElem? (i := 20) rfl
theorem eX6_claimOf_57 : (57, Instr.aload_n 0, 1, 0, 0, 0) ∈ kX6_claimOf := List.mem_of_getElem? (i := 21) rfl
theorem eX6_claimOf_58 : (58, Instr.getfield 81, 3, 6, 31, 600) ∈ kX6_claimOf := List.mem_of_getElem? (i := 22) rfl
theorem eX6_claimOf_61 : (61, Instr.iload_n 1, 1, 0, 0, 0) ∈ kX6_claimOf := List.mem_of_getElem? (i := 23) rfl
theorem eX6_claimOf_62 : (62, Instr.iaload, 1, 0, 0, 0) ∈ kX6_claimOf := List.mem_of_getElem? (i := 24) rfl
theorem eX6_claimOf_63 : (63, Instr.ireturn, 1, 0, 0, 0) ∈ kX6_claimOf := List.mem_of_getElem? (i := 25) rfl
theorem eX6_claimOf_64 : (64, Instr.iload_n 2, 1, 0, 0, 0) ∈ kX6_claimOf := List.mem_of_getElem? (i := 26) rfl
theorem eX6_claimOf_65 : (65, Instr.bipush 10, 2, 0, 0, 0) ∈ kX6_claimOf := List.mem_of_getElem? (i := 27) rfl
theorem eX6_claimOf_67 : (67, Instr.bipush 13, 2, 0, 0, 0) ∈ kX6_claimOf := List.mem_of_getElem? (i := 28) rfl
theorem eX6_claimOf_69 : (69, Instr.invokestatic 102, 3, 78, 3, 683) ∈ kX6_claimOf := List.mem_of_getElem? (i := 29) rfl
theorem eX6_claimOf_72 : (72, Instr.ifCond .eq 19, 3, 91, 0, 0) ∈ kX6_claimOf := List.mem_of_getElem? (i := 30) rfl
theorem eX6_claimOf_75 : (75, Instr.aload_n 0, 1, 0, 0, 0) ∈ kX6_claimOf := List.mem_of_getElem? (i := 31) rfl
theorem eX6_claimOf_76 : (76, Instr.getfield 78, 3, 6, 30, 599) ∈ kX6_claimOf := List.mem_of_getElem? (i := 32) rfl
theorem eX6_claimOf_79 : (79, Instr.iconst 4, 1, 0, 0, 0) ∈ kX6_claimOf := List.mem_of_getElem? (i := 33) rfl
theorem eX6_claimOf_80 : (80, Instr.iload_n 1, 1, 0, 0, 0) ∈ kX6_claimOf := List.mem_of_getElem? (i := 34) rfl
theorem eX6_claimOf_81 : (81, Instr.imul, 1, 0, 0, 0) ∈ kX6_claimOf := List.mem_of_getElem? (i := 35) rfl
theorem eX6_claimOf_82 : (82, Instr.iload_n 2, 1, 0, 0, 0) ∈ kX6_claimOf := List.mem_of_getElem? (i := 36) rfl
theorem eX6_claimOf_83 : (83, Instr.iadd, 1, 0, 0, 0) ∈ kX6_claimOf := List.mem_of_getElem? (i := 37) rfl
theorem eX6_claimOf_84 : (84, Instr.bipush 10, 2, 0, 0, 0) ∈ kX6_claimOf := List.mem_of_getElem? (i := 38) rfl
theorem eX6_claimOf_86 : (86, Instr.isub, 1, 0, 0, 0) ∈ kX6_claimOf := List.mem_of_getElem? (i := 39) rfl
theorem eX6_claimOf_87 : (87, Instr.iaload, 1, 0, 0, 0) ∈ kX6_claimOf := List.mem_of_getElem? (i := 40) rfl
theorem eX6_claimOf_88 : (88, Instr.goto 4, 3, 92, 0, 0) ∈ kX6_claimOf := List.mem_of_getElem? (i := 41) rfl
theorem eX6_claimOf_91 : (91, Instr.iconst (-1), 1, 0, 0, 0) ∈ kX6_claimOf := List.mem_of_getElem? (i := 42) rfl
theorem eX6_claimOf_92 : (92, Instr.ireturn, 1, 0, 0, 0) ∈ kX6_claimOf := List.mem_of_getElem? (i := 43) rfl
theorem aX6_count : am_m nX6_count = mX6_count := rfl
theorem eX6_count_0 : (0, Instr.iconst 0, 1, 0, 0, 0) ∈ kX6_count := List.mem_of_getElem? (i := 0) rfl
theorem eX6_count_1 : (1, Instr.istore_n 2, 1, 0, 0, 0) ∈ kX6_count := List.mem_of_getElem? (i := 1) rfl
theorem eX6_count_2 : (2, Instr.iconst 0, 1, 0, 0, 0) ∈ kX6_count := List.mem_of_getElem? (i := 2) rfl
theorem eX6_count_3 : (3, Instr.istore_n 3, 1, 0, 0, 0) ∈ kX6_count := List.mem_of_getElem? (i := 3) rfl
theorem eX6_count_4 : (4, Instr.iconst 0, 1, 0, 0, 0) ∈ kX6_count := List.mem_of_getElem? (i := 4) rfl
theorem eX6_count_5 : (5, Instr.istore 4, 2, 0, 0, 0) ∈ kX6_count := List.mem_of_getElem? (i := 5) rfl
theorem eX6_count_7 : (7, Instr.iload 4, 2, 0, 0, 0) ∈ kX6_count := List.mem_of_getElem? (i := 6) rfl
theorem eX6_count_9 : (9, Instr.aload_n 0, 1, 0, 0, 0) ∈ kX6_count := List.mem_of_getElem? (i := 7) rfl
theorem eX6_count_10 : (10, Instr.getfield 107, 3, 6, 12, 581) ∈ kX6_count := List.mem_of_getElem? (i := 8) rfl
theorem eX6_count_13 : (13, Instr.if_icmp .ge 37, 3, 50, 0, 0) ∈ kX6_count := List.mem_of_getElem? (i := 9) rfl
theorem eX6_count_16 : (16, Instr.iload_n 2, 1, 0, 0, 0) ∈ kX6_count := List.mem_of_getElem? (i := 10) rfl
theorem eX6_count_17 : (17, Instr.aload_n 0, 1, 0, 0, 0) ∈ kX6_count := List.mem_of_getElem? (i := 11) rfl
theorem eX6_count_18 : (18, Instr.getfield 60, 3, 6, 23, 592) ∈ kX6_count := List.mem_of_getElem? (i := 12) rfl
theorem eX6_count_21 : (21, Instr.iload 4, 2, 0, 0, 0) ∈ kX6_count := List.mem_of_getElem? (i := 13) rfl
theorem eX6_count_23 : (23, Instr.iaload, 1, 0, 0, 0) ∈ kX6_count := List.mem_of_getElem? (i := 14) rfl
theorem eX6_count_24 : (24, Instr.ifCond .ne 7, 3, 31, 0, 0) ∈ kX6_count := List.mem_of_getElem? (i := 15) rfl
theorem eX6_count_27 : (27, Instr.iconst 1, 1, 0, 0, 0) ∈ kX6_count := List.mem_of_getElem? (i := 16) rfl
theorem eX6_count_28 : (28, Instr.goto 4, 3, 32, 0, 0) ∈ kX6_count := List.mem_of_getElem? (i := 17) rfl
theorem eX6_count_31 : (31, Instr.iconst 0, 1, 0, 0, 0) ∈ kX6_count := List.mem_of_getElem? (i := 18) rfl
theorem eX6_count_32 : (32, Instr.iadd, 1, 0, 0, 0) ∈ kX6_count := List.mem_of_getElem? (i := 19) rfl
theorem eX6_count_33 : (33, Instr.istore_n 2, 1, 0, 0, 0) ∈ kX6_count := List.mem_of_getElem? (i := 20) rfl
theorem eX6_count_34 : (34, Instr.iload_n 3, 1, 0, 0, 0) ∈ kX6_count := List.mem_of_getElem? (i := 21) rfl
theorem eX6_count_35 : (35, Instr.aload_n 0, 1, 0, 0, 0) ∈ kX6_count := List.mem_of_getElem? (i := 22) rfl
theorem eX6_count_36 : (36, Instr.getfield 66, 3, 6, 25, 594) ∈ kX6_count := List.mem_of_getElem? (i := 23) rfl
theorem eX6_count_39 : (39, Instr.iload 4, 2, 0, 0, 0) ∈ kX6_count := List.mem_of_getElem? (i := 24) rfl
theorem eX6_count_41 : (41, Instr.iaload, 1, 0, 0, 0) ∈ kX6_count := List.mem_of_getElem? (i := 25) rfl
theorem eX6_count_42 : (42, Instr.iadd, 1, 0, 0, 0) ∈ kX6_count := List.mem_of_getElem? (i := 26) rfl
theorem eX6_count_43 : (43, Instr.istore_n 3, 1, 0, 0, 0) ∈ kX6_count := List.mem_of_getElem? (i := 27) rfl
theorem eX6_count_44 : (44, Instr.iinc 4 1, 3, 0, 0, 0) ∈ kX6_count := List.mem_of_getElem? (i := 28) rfl
theorem eX6_count_47 : (47, Instr.goto (-40), 3, 7, 0, 0) ∈ kX6_count := List.mem_of_getElem? (i := 29) rfl
theorem eX6_count_50 : (50, Instr.iload_n 1, 1, 0, 0, 0) ∈ kX6_count := List.mem_of_getElem? (i := 30) rfl
theorem eX6_count_51 : (51, Instr.tableswitch 118 0 10 #[57, 62, 67, 69, 74, 79, 84, 93, 106, 111, 113], 57, 0, 0, 0) ∈ kX6_count := List.mem_of_getElem? (i := 31) rfl
theorem eX6_count_108 : (108, Instr.aload_n 0, 1, 0, 0, 0) ∈ kX6_count := List.mem_of_getElem? (i := 32) rfl
theorem eX6_count_109 : (109, Instr.getfield 116, 3, 6, 11, 580) ∈ kX6_count := List.mem_of_getElem? (i := 33) rfl
theorem eX6_count_112 : (112, Instr.ireturn, 1, 0, 0, 0) ∈ kX6_count := List.mem_of_getElem? (i := 34) rfl
theorem eX6_count_113 : (113, Instr.aload_n 0, 1, 0, 0, 0) ∈ kX6_count := List.mem_of_getElem? (i := 35) rfl
theorem eX6_count_114 : (114, Instr.getfield 107, 3, 6, 12, 581) ∈ kX6_count := List.mem_of_getElem? (i := 36) rfl
theorem eX6_count_117 : (117, Instr.ireturn, 1, 0, 0, 0) ∈ kX6_count := List.mem_of_getElem? (i := 37) rfl
theorem eX6_count_118 : (118, Instr.iload_n 2, 1, 0, 0, 0) ∈ kX6_count := List.mem_of_getElem? (i := 38) rfl
theorem eX6_count_119 : (119, Instr.ireturn, 1, 0, 0, 0) ∈ kX6_count := List.mem_of_getElem? (i := 39) rfl
theorem eX6_count_120 : (120, Instr.aload_n 0, 1, 0, 0, 0) ∈ kX6_count := List.mem_of_getElem? (i := 40) rfl
theorem eX6_count_121 : (121, Instr.getfield 167, 3, 6, 29, 598) ∈ kX6_count := List.mem_of_getElem? (i := 41) rfl
theorem eX6_count_124 : (124, Instr.ireturn, 1, 0, 0, 0) ∈ kX6_count := List.mem_of_getElem? (i := 42) rfl
theorem eX6_count_125 : (125, Instr.aload_n 0, 1, 0, 0, 0) ∈ kX6_count := List.mem_of_getElem? (i := 43) rfl
theorem eX6_count_126 : (126, Instr.getfield 113, 3, 6, 5, 574) ∈ kX6_count := List.mem_of_getElem? (i := 44) rfl
theorem eX6_count_129 : (129, Instr.ireturn, 1, 0, 0, 0) ∈ kX6_count := List.mem_of_getElem? (i := 45) rfl
theorem eX6_count_130 : (130, Instr.aload_n 0, 1, 0, 0, 0) ∈ kX6_count := List.mem_of_getElem? (i := 46) rfl
theorem eX6_count_131 : (131, Instr.getfield 96, 3, 6, 0, 569) ∈ kX6_count := List.mem_of_getElem? (i := 47) rfl
theorem eX6_count_134 : (134, Instr.ireturn, 1, 0, 0, 0) ∈ kX6_count := List.mem_of_getElem? (i := 48) rfl
theorem eX6_count_135 : (135, Instr.aload_n 0, 1, 0, 0, 0) ∈ kX6_count := List.mem_of_getElem? (i := 49) rfl
theorem eX6_count_136 : (136, Instr.getfield 96, 3, 6, 0, 569) ∈ kX6_count := List.mem_of_getElem? (i := 50) rfl
theorem eX6_count_139 : (139, Instr.sipush 1440, 3, 0, 0, 0) ∈ kX6_count := List.mem_of_getElem? (i := 51) rfl
theorem eX6_count_142 : (142, Instr.idiv, 1, 0, 0, 0) ∈ kX6_count := List.mem_of_getElem? (i := 52) rfl
theorem eX6_count_143 : (143, Instr.ireturn, 1, 0, 0, 0) ∈ kX6_count := List.mem_of_getElem? (i := 53) rfl
theorem eX6_count_144 : (144, Instr.aload_n 0, 1, 0, 0, 0) ∈ kX6_count := List.mem_of_getElem? (i := 54) rfl
theorem eX6_count_145 : (145, Instr.invokevirtual 135, 3, 80, 0, 704) ∈ kX6_count := List.mem_of_getElem? (i := 55) rfl
theorem eX6_count_148 : (148, Instr.ifCond .eq 7, 3, 155, 0, 0) ∈ kX6_count := List.mem_of_getElem? (i := 56) rfl
theorem eX6_count_151 : (151, Instr.iconst 1, 1, 0, 0, 0) ∈ kX6_count := List.mem_of_getElem? (i := 57) rfl
theorem eX6_count_152 : (152, Instr.goto 4, 3, 156, 0, 0) ∈ kX6_count := List.mem_of_getElem? (i := 58) rfl
theorem eX6_count_155 : (155, Instr.iconst 0, 1, 0, 0, 0) ∈ kX6_count := List.mem_of_getElem? (i := 59) rfl
theorem eX6_count_156 : (156, Instr.ireturn, 1, 0, 0, 0) ∈ kX6_count := List.mem_of_getElem? (i := 60) rfl
theorem eX6_count_157 : (157, Instr.aload_n 0, 1, 0, 0, 0) ∈ kX6_count := List.mem_of_getElem? (i := 61) rfl
theorem eX6_count_158 : (158, Instr.getfield 110, 3, 6, 3, 572) ∈ kX6_count := List.mem_of_getElem? (i := 62) rfl
theorem eX6_count_161 : (161, Instr.ireturn, 1, 0, 0, 0) ∈ kX6_count := List.mem_of_getElem? (i := 63) rfl
theorem eX6_count_162 : (162, Instr.iload_n 3, 1, 0, 0, 0) ∈ kX6_count := List.mem_of_getElem? (i := 64) rfl
theorem eX6_count_163 : (163, Instr.ireturn, 1, 0, 0, 0) ∈ kX6_count := List.mem_of_getElem? (i := 65) rfl
theorem eX6_count_164 : (164, Instr.aload_n 0, 1, 0, 0, 0) ∈ kX6_count := List.mem_of_getElem? (i := 66) rfl
theorem eX6_count_165 : (165, Instr.getfield 145, 3, 6, 4, 573) ∈ kX6_count := List.mem_of_getElem? (i := 67) rfl
theorem eX6_count_168 : (168, Instr.ireturn, 1, 0, 0, 0) ∈ kX6_count := List.mem_of_getElem? (i := 68) rfl
theorem eX6_count_169 : (169, Instr.iconst (-1), 1, 0, 0, 0) ∈ kX6_count := List.mem_of_getElem? (i := 69) rfl
theorem eX6_count_170 : (170, Instr.ireturn, 1, 0, 0, 0) ∈ kX6_count := List.mem_of_getElem? (i := 70) rfl
end
section
set_option maxRecDepth 10000 in
theorem eL_law_0 : (0, Instr.new 7, 3, 5, 0, 46) ∈ kL_law := List.mem_of_getElem? (i := 0) (by decide +kernel)
set_option maxRecDepth 10000 in
theorem eL_law_3 : (3, Instr.dup, 1, 0, 0, 0) ∈ kL_law := List.mem_of_getElem? (i := 1) (by decide +kernel)
set_option maxRecDepth 10000 in
theorem eL_law_4 : (4, Instr.invokespecial 9, 3, 25, 0, 48) ∈ kL_law := List.mem_of_getElem? (i := 2) (by decide +kernel)
set_option maxRecDepth 10000 in
theorem eL_law_7 : (7, Instr.astore_n 1, 1, 0, 0, 0) ∈ kL_law := List.mem_of_getElem? (i := 3) (by decide +kernel)
set_option maxRecDepth 10000 in
theorem eL_law_8 : (8, Instr.new 10, 3, 6, 0, 563) ∈ kL_law := List.mem_of_getElem? (i := 4) (by decide +kernel)
set_option maxRecDepth 10000 in
theorem eL_law_11 : (11, Instr.dup, 1, 0, 0, 0) ∈ kL_law := List.mem_of_getElem? (i := 5) (by decide +kernel)
set_option maxRecDepth 10000 in
theorem eL_law_12 : (12, Instr.invokespecial 12, 3, 77, 0, 565) ∈ kL_law := List.mem_of_getElem? (i := 6) (by decide +kernel)
set_option maxRecDepth 10000 in
theorem eL_law_15 : (15, Instr.astore_n 2, 1, 0, 0, 0) ∈ kL_law := List.mem_of_getElem? (i := 7) (by decide +kernel)
set_option maxRecDepth 10000 in
theorem eL_law_16 : (16, Instr.iconst 0, 1, 0, 0, 0) ∈ kL_law := List.mem_of_getElem? (i := 8) (by decide +kernel)
set_option maxRecDepth 10000 in
theorem eL_law_17 : (17, Instr.istore_n 3, 1, 0, 0, 0) ∈ kL_law := List.mem_of_getElem? (i := 9) (by decide +kernel)
set_option maxRecDepth 10000 in
theorem eL_law_18 : (18, Instr.iload_n 3, 1, 0, 0, 0) ∈ kL_law := List.mem_of_getElem? (i := 10) (by decide +kernel)
set_option maxRecDepth 10000 in
theorem eL_law_19 : (19, Instr.aload_n 0, 1, 0, 0, 0) ∈ kL_law := List.mem_of_getElem? (i := 11) (by decide +kernel)
set_option maxRecDepth 10000 in
theorem eL_law_20 : (20, Instr.arraylength, 1, 0, 0, 0) ∈ kL_law := List.mem_of_getElem? (i := 12) (by decide +kernel)
set_option maxRecDepth 10000 in
theorem eL_law_21 : (21, Instr.bipush 7, 2, 0, 0, 0) ∈ kL_law := List.mem_of_getElem? (i := 13) (by decide +kernel)
set_option maxRecDepth 10000 in
theorem eL_law_23 : (23, Instr.isub, 1, 0, 0, 0) ∈ kL_law := List.mem_of_getElem? (i := 14) (by decide +kernel)
set_option maxRecDepth 10000 in
theorem eL_law_24 : (24, Instr.if_icmp .gt 861, 3, 885, 0, 0) ∈ kL_law := List.mem_of_getElem? (i := 15) (by decide +kernel)
set_option maxRecDepth 10000 in
theorem eL_law_27 : (27, Instr.aload_n 0, 1, 0, 0, 0) ∈ kL_law := List.mem_of_getElem? (i := 16) (by decide +kernel)
set_option maxRecDepth 10000 in
theorem eL_law_28 : (28, Instr.iload_n 3, 1, 0, 0, 0) ∈ kL_law := List.mem_of_getElem? (i := 17) (by decide +kernel)
set_option maxRecDepth 10000 in
theorem eL_law_29 : (29, Instr.iaload, 1, 0, 0, 0) ∈ kL_law := List.mem_of_getElem? (i := 18) (by decide +kernel)
set_option maxRecDepth 10000 in
theorem eL_law_30 : (30, Instr.bipush 31, 2, 0, 0, 0) ∈ kL_law := List.mem_of_getElem? (i := 19) (by decide +kernel)
set_option maxRecDepth 10000 in
theorem eL_law_32 : (32, Instr.iand, 1, 0, 0, 0) ∈ kL_law := List.mem_of_getElem? (i := 20) (by decide +kernel)
set_option maxRecDepth 10000 in
theorem eL_law_33 : (33, Instr.tableswitch 846 0 22 #[107, 130, 163, 226, 295, 402, 425, 448, 461, 504, 527, 550, 573, 586, 609, 622, 655, 678, 701, 724, 757, 790, 823], 107, 0, 0, 0) ∈ kL_law := List.mem_of_getElem? (i := 21) (by decide +kernel)
set_option maxRecDepth 10000 in
theorem eL_law_140 : (140, Instr.aload_n 1, 1, 0, 0, 0) ∈ kL_law := List.mem_of_getElem? (i := 22) (by decide +kernel)
set_option maxRecDepth 10000 in
theorem eL_law_141 : (141, Instr.aload_n 0, 1, 0, 0, 0) ∈ kL_law := List.mem_of_getElem? (i := 23) (by decide +kernel)
set_option maxRecDepth 10000 in
theorem eL_law_142 : (142, Instr.iload_n 3, 1, 0, 0, 0) ∈ kL_law := List.mem_of_getElem? (i := 24) (by decide +kernel)
set_option maxRecDepth 10000 in
theorem eL_law_143 : (143, Instr.iconst 1, 1, 0, 0, 0) ∈ kL_law := List.mem_of_getElem? (i := 25) (by decide +kernel)
set_option maxRecDepth 10000 in
theorem eL_law_144 : (144, Instr.iadd, 1, 0, 0, 0) ∈ kL_law := List.mem_of_getElem? (i := 26) (by decide +kernel)
set_option maxRecDepth 10000 in
theorem eL_law_145 : (145, Instr.iaload, 1, 0, 0, 0) ∈ kL_law := List.mem_of_getElem? (i := 27) (by decide +kernel)
set_option maxRecDepth 10000 in
theorem eL_law_146 : (146, Instr.invokevirtual 13, 3, 26, 1, 126) ∈ kL_law := List.mem_of_getElem? (i := 28) (by decide +kernel)
set_option maxRecDepth 10000 in
theorem eL_law_149 : (149, Instr.aload_n 2, 1, 0, 0, 0) ∈ kL_law := List.mem_of_getElem? (i := 29) (by decide +kernel)
set_option maxRecDepth 10000 in
theorem eL_law_150 : (150, Instr.aload_n 0, 1, 0, 0, 0) ∈ kL_law := List.mem_of_getElem? (i := 30) (by decide +kernel)
set_option maxRecDepth 10000 in
theorem eL_law_151 : (151, Instr.iload_n 3, 1, 0, 0, 0) ∈ kL_law := List.mem_of_getElem? (i := 31) (by decide +kernel)
set_option maxRecDepth 10000 in
theorem eL_law_152 : (152, Instr.iconst 1, 1, 0, 0, 0) ∈ kL_law := List.mem_of_getElem? (i := 32) (by decide +kernel)
set_option maxRecDepth 10000 in
theorem eL_law_153 : (153, Instr.iadd, 1, 0, 0, 0) ∈ kL_law := List.mem_of_getElem? (i := 33) (by decide +kernel)
set_option maxRecDepth 10000 in
theorem eL_law_154 : (154, Instr.iaload, 1, 0, 0, 0) ∈ kL_law := List.mem_of_getElem? (i := 34) (by decide +kernel)
set_option maxRecDepth 10000 in
theorem eL_law_155 : (155, Instr.invokevirtual 17, 3, 82, 1, 686) ∈ kL_law := List.mem_of_getElem? (i := 35) (by decide +kernel)
set_option maxRecDepth 10000 in
theorem eL_law_158 : (158, Instr.if_icmp .eq 721, 3, 879, 0, 0) ∈ kL_law := List.mem_of_getElem? (i := 36) (by decide +kernel)
set_option maxRecDepth 10000 in
theorem eL_law_161 : (161, Instr.iconst 0, 1, 0, 0, 0) ∈ kL_law := List.mem_of_getElem? (i := 37) (by decide +kernel)
set_option maxRecDepth 10000 in
theorem eL_law_162 : (162, Instr.ireturn, 1, 1, 0, 0) ∈ kL_law := List.mem_of_getElem? (i := 38) (by decide +kernel)
set_option maxRecDepth 10000 in
theorem eL_law_163 : (163, Instr.aload_n 1, 1, 0, 0, 0) ∈ kL_law := List.mem_of_getElem? (i := 39) (by decide +kernel)
set_option maxRecDepth 10000 in
theorem eL_law_164 : (164, Instr.aload_n 0, 1, 0, 0, 0) ∈ kL_law := List.mem_of_getElem? (i := 40) (by decide +kernel)
set_option maxRecDepth 10000 in
theorem eL_law_165 : (165, Instr.iload_n 3, 1, 0, 0, 0) ∈ kL_law := List.mem_of_getElem? (i := 41) (by decide +kernel)
set_option maxRecDepth 10000 in
theorem eL_law_166 : (166, Instr.iconst 1, 1, 0, 0, 0) ∈ kL_law := List.mem_of_getElem? (i := 42) (by decide +kernel)
set_option maxRecDepth 10000 in
theorem eL_law_167 : (167, Instr.iadd, 1, 0, 0, 0) ∈ kL_law := List.mem_of_getElem? (i := 43) (by decide +kernel)
set_option maxRecDepth 10000 in
theorem eL_law_168 : (168, Instr.iaload, 1, 0, 0, 0) ∈ kL_law := List.mem_of_getElem? (i := 44) (by decide +kernel)
set_option maxRecDepth 10000 in
theorem eL_law_169 : (169, Instr.aload_n 0, 1, 0, 0, 0) ∈ kL_law := List.mem_of_getElem? (i := 45) (by decide +kernel)
set_option maxRecDepth 10000 in
theorem eL_law_170 : (170, Instr.iload_n 3, 1, 0, 0, 0) ∈ kL_law := List.mem_of_getElem? (i := 46) (by decide +kernel)
set_option maxRecDepth 10000 in
theorem eL_law_171 : (171, Instr.iconst 2, 1, 0, 0, 0) ∈ kL_law := List.mem_of_getElem? (i := 47) (by decide +kernel)
set_option maxRecDepth 10000 in
theorem eL_law_172 : (172, Instr.iadd, 1, 0, 0, 0) ∈ kL_law := List.mem_of_getElem? (i := 48) (by decide +kernel)
set_option maxRecDepth 10000 in
theorem eL_law_173 : (173, Instr.iaload, 1, 0, 0, 0) ∈ kL_law := List.mem_of_getElem? (i := 49) (by decide +kernel)
set_option maxRecDepth 10000 in
theorem eL_law_174 : (174, Instr.invokevirtual 18, 3, 27, 2, 142) ∈ kL_law := List.mem_of_getElem? (i := 50) (by decide +kernel)
set_option maxRecDepth 10000 in
theorem eL_law_177 : (177, Instr.aload_n 2, 1, 0, 0, 0) ∈ kL_law := List.mem_of_getElem? (i := 51) (by decide +kernel)
set_option maxRecDepth 10000 in
theorem eL_law_178 : (178, Instr.aload_n 0, 1, 0, 0, 0) ∈ kL_law := List.mem_of_getElem? (i := 52) (by decide +kernel)
set_option maxRecDepth 10000 in
theorem eL_law_179 : (179, Instr.iload_n 3, 1, 0, 0, 0) ∈ kL_law := List.mem_of_getElem? (i := 53) (by decide +kernel)
set_option maxRecDepth 10000 in
theorem eL_law_180 : (180, Instr.iconst 1, 1, 0, 0, 0) ∈ kL_law := List.mem_of_getElem? (i := 54) (by decide +kernel)
set_option maxRecDepth 10000 in
theorem eL_law_181 : (181, Instr.iadd, 1, 0, 0, 0) ∈ kL_law := List.mem_of_getElem? (i := 55) (by decide +kernel)
set_option maxRecDepth 10000 in
theorem eL_law_182 : (182, Instr.iaload, 1, 0, 0, 0) ∈ kL_law := List.mem_of_getElem? (i := 56) (by decide +kernel)
set_option maxRecDepth 10000 in
theorem eL_law_183 : (183, Instr.aload_n 0, 1, 0, 0, 0) ∈ kL_law := List.mem_of_getElem? (i := 57) (by decide +kernel)
set_option maxRecDepth 10000 in
theorem eL_law_184 : (184, Instr.iload_n 3, 1, 0, 0, 0) ∈ kL_law := List.mem_of_getElem? (i := 58) (by decide +kernel)
set_option maxRecDepth 10000 in
theorem eL_law_185 : (185, Instr.iconst 2, 1, 0, 0, 0) ∈ kL_law := List.mem_of_getElem? (i := 59) (by decide +kernel)
set_option maxRecDepth 10000 in
theorem eL_law_186 : (186, Instr.iadd, 1, 0, 0, 0) ∈ kL_law := List.mem_of_getElem? (i := 60) (by decide +kernel)
set_option maxRecDepth 10000 in
theorem eL_law_187 : (187, Instr.iaload, 1, 0, 0, 0) ∈ kL_law := List.mem_of_getElem? (i := 61) (by decide +kernel)
set_option maxRecDepth 10000 in
theorem eL_law_188 : (188, Instr.invokevirtual 22, 3, 81, 2, 679) ∈ kL_law := List.mem_of_getElem? (i := 62) (by decide +kernel)
set_option maxRecDepth 10000 in
theorem eL_law_191 : (191, Instr.if_icmp .eq 688, 3, 879, 0, 0) ∈ kL_law := List.mem_of_getElem? (i := 63) (by decide +kernel)
set_option maxRecDepth 10000 in
theorem eL_law_194 : (194, Instr.iconst 0, 1, 0, 0, 0) ∈ kL_law := List.mem_of_getElem? (i := 64) (by decide +kernel)
set_option maxRecDepth 10000 in
theorem eL_law_195 : (195, Instr.ireturn, 1, 1, 0, 0) ∈ kL_law := List.mem_of_getElem? (i := 65) (by decide +kernel)
set_option maxRecDepth 10000 in
theorem eL_law_196 : (196, Instr.aload_n 1, 1, 0, 0, 0) ∈ kL_law := List.mem_of_getElem? (i := 66) (by decide +kernel)
set_option maxRecDepth 10000 in
theorem eL_law_197 : (197, Instr.aload_n 0, 1, 0, 0, 0) ∈ kL_law := List.mem_of_getElem? (i := 67) (by decide +kernel)
set_option maxRecDepth 10000 in
theorem eL_law_198 : (198, Instr.iload_n 3, 1, 0, 0, 0) ∈ kL_law := List.mem_of_getElem? (i := 68) (by decide +kernel)
set_option maxRecDepth 10000 in
theorem eL_law_199 : (199, Instr.iconst 1, 1, 0, 0, 0) ∈ kL_law := List.mem_of_getElem? (i := 69) (by decide +kernel)
set_option maxRecDepth 10000 in
theorem eL_law_200 : (200, Instr.iadd, 1, 0, 0, 0) ∈ kL_law := List.mem_of_getElem? (i := 70) (by decide +kernel)
set_option maxRecDepth 10000 in
theorem eL_law_201 : (201, Instr.iaload, 1, 0, 0, 0) ∈ kL_law := List.mem_of_getElem? (i := 71) (by decide +kernel)
set_option maxRecDepth 10000 in
theorem eL_law_202 : (202, Instr.aload_n 0, 1, 0, 0, 0) ∈ kL_law := List.mem_of_getElem? (i := 72) (by decide +kernel)
set_option maxRecDepth 10000 in
theorem eL_law_203 : (203, Instr.iload_n 3, 1, 0, 0, 0) ∈ kL_law := List.mem_of_getElem? (i := 73) (by decide +kernel)
set_option maxRecDepth 10000 in
theorem eL_law_204 : (204, Instr.iconst 2, 1, 0, 0, 0) ∈ kL_law := List.mem_of_getElem? (i := 74) (by decide +kernel)
set_option maxRecDepth 10000 in
theorem eL_law_205 : (205, Instr.iadd, 1, 0, 0, 0) ∈ kL_law := List.mem_of_getElem? (i := 75) (by decide +kernel)
set_option maxRecDepth 10000 in
theorem eL_law_206 : (206, Instr.iaload, 1, 0, 0, 0) ∈ kL_law := List.mem_of_getElem? (i := 76) (by decide +kernel)
set_option maxRecDepth 10000 in
theorem eL_law_207 : (207, Instr.aload_n 0, 1, 0, 0, 0) ∈ kL_law := List.mem_of_getElem? (i := 77) (by decide +kernel)
set_option maxRecDepth 10000 in
theorem eL_law_208 : (208, Instr.iload_n 3, 1, 0, 0, 0) ∈ kL_law := List.mem_of_getElem? (i := 78) (by decide +kernel)
set_option maxRecDepth 10000 in
theorem eL_law_209 : (209, Instr.iconst 3, 1, 0, 0, 0) ∈ kL_law := List.mem_of_getElem? (i := 79) (by decide +kernel)
set_option maxRecDepth 10000 in
theorem eL_law_210 : (210, Instr.iadd, 1, 0, 0, 0) ∈ kL_law := List.mem_of_getElem? (i := 80) (by decide +kernel)
set_option maxRecDepth 10000 in
theorem eL_law_211 : (211, Instr.iaload, 1, 0, 0, 0) ∈ kL_law := List.mem_of_getElem? (i := 81) (by decide +kernel)
set_option maxRecDepth 10000 in
theorem eL_law_212 : (212, Instr.aload_n 0, 1, 0, 0, 0) ∈ kL_law := List.mem_of_getElem? (i := 82) (by decide +kernel)
set_option maxRecDepth 10000 in
theorem eL_law_213 : (213, Instr.iload_n 3, 1, 0, 0, 0) ∈ kL_law := List.mem_of_getElem? (i := 83) (by decide +kernel)
set_option maxRecDepth 10000 in
theorem eL_law_214 : (214, Instr.iconst 4, 1, 0, 0, 0) ∈ kL_law := List.mem_of_getElem? (i := 84) (by decide +kernel)
set_option maxRecDepth 10000 in
theorem eL_law_215 : (215, Instr.iadd, 1, 0, 0, 0) ∈ kL_law := List.mem_of_getElem? (i := 85) (by decide +kernel)
set_option maxRecDepth 10000 in
theorem eL_law_216 : (216, Instr.iaload, 1, 0, 0, 0) ∈ kL_law := List.mem_of_getElem? (i := 86) (by decide +kernel)
set_option maxRecDepth 10000 in
theorem eL_law_217 : (217, Instr.aload_n 0, 1, 0, 0, 0) ∈ kL_law := List.mem_of_getElem? (i := 87) (by decide +kernel)
set_option maxRecDepth 10000 in
theorem eL_law_218 : (218, Instr.iload_n 3, 1, 0, 0, 0) ∈ kL_law := List.mem_of_getElem? (i := 88) (by decide +kernel)
set_option maxRecDepth 10000 in
theorem eL_law_219 : (219, Instr.iconst 5, 1, 0, 0, 0) ∈ kL_law := List.mem_of_getElem? (i := 89) (by decide +kernel)
set_option maxRecDepth 10000 in
theorem eL_law_220 : (220, Instr.iadd, 1, 0, 0, 0) ∈ kL_law := List.mem_of_getElem? (i := 90) (by decide +kernel)
set_option maxRecDepth 10000 in
theorem eL_law_221 : (221, Instr.iaload, 1, 0, 0, 0) ∈ kL_law := List.mem_of_getElem? (i := 91) (by decide +kernel)
set_option maxRecDepth 10000 in
theorem eL_law_222 : (222, Instr.invokevirtual 23, 3, 28, 5, 146) ∈ kL_law := List.mem_of_getElem? (i := 92) (by decide +kernel)
set_option maxRecDepth 10000 in
theorem eL_law_225 : (225, Instr.aload_n 2, 1, 0, 0, 0) ∈ kL_law := List.mem_of_getElem? (i := 93) (by decide +kernel)
set_option maxRecDepth 10000 in
theorem eL_law_226 : (226, Instr.aload_n 0, 1, 0, 0, 0) ∈ kL_law := List.mem_of_getElem? (i := 94) (by decide +kernel)
set_option maxRecDepth 10000 in
theorem eL_law_227 : (227, Instr.iload_n 3, 1, 0, 0, 0) ∈ kL_law := List.mem_of_getElem? (i := 95) (by decide +kernel)
set_option maxRecDepth 10000 in
theorem eL_law_228 : (228, Instr.iconst 1, 1, 0, 0, 0) ∈ kL_law := List.mem_of_getElem? (i := 96) (by decide +kernel)
set_option maxRecDepth 10000 in
theorem eL_law_229 : (229, Instr.iadd, 1, 0, 0, 0) ∈ kL_law := List.mem_of_getElem? (i := 97) (by decide +kernel)
set_option maxRecDepth 10000 in
theorem eL_law_230 : (230, Instr.iaload, 1, 0, 0, 0) ∈ kL_law := List.mem_of_getElem? (i := 98) (by decide +kernel)
set_option maxRecDepth 10000 in
theorem eL_law_231 : (231, Instr.aload_n 0, 1, 0, 0, 0) ∈ kL_law := List.mem_of_getElem? (i := 99) (by decide +kernel)
set_option maxRecDepth 10000 in
theorem eL_law_232 : (232, Instr.iload_n 3, 1, 0, 0, 0) ∈ kL_law := List.mem_of_getElem? (i := 100) (by decide +kernel)
set_option maxRecDepth 10000 in
theorem eL_law_233 : (233, Instr.iconst 2, 1, 0, 0, 0) ∈ kL_law := List.mem_of_getElem? (i := 101) (by decide +kernel)
set_option maxRecDepth 10000 in
theorem eL_law_234 : (234, Instr.iadd, 1, 0, 0, 0) ∈ kL_law := List.mem_of_getElem? (i := 102) (by decide +kernel)
set_option maxRecDepth 10000 in
theorem eL_law_235 : (235, Instr.iaload, 1, 0, 0, 0) ∈ kL_law := List.mem_of_getElem? (i := 103) (by decide +kernel)
set_option maxRecDepth 10000 in
theorem eL_law_236 : (236, Instr.aload_n 0, 1, 0, 0, 0) ∈ kL_law := List.mem_of_getElem? (i := 104) (by decide +kernel)
set_option maxRecDepth 10000 in
theorem eL_law_237 : (237, Instr.iload_n 3, 1, 0, 0, 0) ∈ kL_law := List.mem_of_getElem? (i := 105) (by decide +kernel)
set_option maxRecDepth 10000 in
theorem eL_law_238 : (238, Instr.iconst 3, 1, 0, 0, 0) ∈ kL_law := List.mem_of_getElem? (i := 106) (by decide +kernel)
set_option maxRecDepth 10000 in
theorem eL_law_239 : (239, Instr.iadd, 1, 0, 0, 0) ∈ kL_law := List.mem_of_getElem? (i := 107) (by decide +kernel)
set_option maxRecDepth 10000 in
theorem eL_law_240 : (240, Instr.iaload, 1, 0, 0, 0) ∈ kL_law := List.mem_of_getElem? (i := 108) (by decide +kernel)
set_option maxRecDepth 10000 in
theorem eL_law_241 : (241, Instr.aload_n 0, 1, 0, 0, 0) ∈ kL_law := List.mem_of_getElem? (i := 109) (by decide +kernel)
set_option maxRecDepth 10000 in
theorem eL_law_242 : (242, Instr.iload_n 3, 1, 0, 0, 0) ∈ kL_law := List.mem_of_getElem? (i := 110) (by decide +kernel)
set_option maxRecDepth 10000 in
theorem eL_law_243 : (243, Instr.iconst 4, 1, 0, 0, 0) ∈ kL_law := List.mem_of_getElem? (i := 111) (by decide +kernel)
set_option maxRecDepth 10000 in
theorem eL_law_244 : (244, Instr.iadd, 1, 0, 0, 0) ∈ kL_law := List.mem_of_getElem? (i := 112) (by decide +kernel)
set_option maxRecDepth 10000 in
theorem eL_law_245 : (245, Instr.iaload, 1, 0, 0, 0) ∈ kL_law := List.mem_of_getElem? (i := 113) (by decide +kernel)
set_option maxRecDepth 10000 in
theorem eL_law_246 : (246, Instr.aload_n 0, 1, 0, 0, 0) ∈ kL_law := List.mem_of_getElem? (i := 114) (by decide +kernel)
set_option maxRecDepth 10000 in
theorem eL_law_247 : (247, Instr.iload_n 3, 1, 0, 0, 0) ∈ kL_law := List.mem_of_getElem? (i := 115) (by decide +kernel)
set_option maxRecDepth 10000 in
theorem eL_law_248 : (248, Instr.iconst 5, 1, 0, 0, 0) ∈ kL_law := List.mem_of_getElem? (i := 116) (by decide +kernel)
set_option maxRecDepth 10000 in
theorem eL_law_249 : (249, Instr.iadd, 1, 0, 0, 0) ∈ kL_law := List.mem_of_getElem? (i := 117) (by decide +kernel)
set_option maxRecDepth 10000 in
theorem eL_law_250 : (250, Instr.iaload, 1, 0, 0, 0) ∈ kL_law := List.mem_of_getElem? (i := 118) (by decide +kernel)
set_option maxRecDepth 10000 in
theorem eL_law_251 : (251, Instr.invokevirtual 27, 3, 83, 5, 691) ∈ kL_law := List.mem_of_getElem? (i := 119) (by decide +kernel)
set_option maxRecDepth 10000 in
theorem eL_law_254 : (254, Instr.if_icmp .eq 625, 3, 879, 0, 0) ∈ kL_law := List.mem_of_getElem? (i := 120) (by decide +kernel)
set_option maxRecDepth 10000 in
theorem eL_law_257 : (257, Instr.iconst 0, 1, 0, 0, 0) ∈ kL_law := List.mem_of_getElem? (i := 121) (by decide +kernel)
set_option maxRecDepth 10000 in
theorem eL_law_258 : (258, Instr.ireturn, 1, 1, 0, 0) ∈ kL_law := List.mem_of_getElem? (i := 122) (by decide +kernel)
set_option maxRecDepth 10000 in
theorem eL_law_259 : (259, Instr.aload_n 1, 1, 0, 0, 0) ∈ kL_law := List.mem_of_getElem? (i := 123) (by decide +kernel)
set_option maxRecDepth 10000 in
theorem eL_law_260 : (260, Instr.aload_n 0, 1, 0, 0, 0) ∈ kL_law := List.mem_of_getElem? (i := 124) (by decide +kernel)
set_option maxRecDepth 10000 in
theorem eL_law_261 : (261, Instr.iload_n 3, 1, 0, 0, 0) ∈ kL_law := List.mem_of_getElem? (i := 125) (by decide +kernel)
set_option maxRecDepth 10000 in
theorem eL_law_262 : (262, Instr.iconst 1, 1, 0, 0, 0) ∈ kL_law := List.mem_of_getElem? (i := 126) (by decide +kernel)
set_option maxRecDepth 10000 in
theorem eL_law_263 : (263, Instr.iadd, 1, 0, 0, 0) ∈ kL_law := List.mem_of_getElem? (i := 127) (by decide +kernel)
set_option maxRecDepth 10000 in
theorem eL_law_264 : (264, Instr.iaload, 1, 0, 0, 0) ∈ kL_law := List.mem_of_getElem? (i := 128) (by decide +kernel)
set_option maxRecDepth 10000 in
theorem eL_law_265 : (265, Instr.aload_n 0, 1, 0, 0, 0) ∈ kL_law := List.mem_of_getElem? (i := 129) (by decide +kernel)
set_option maxRecDepth 10000 in
theorem eL_law_266 : (266, Instr.iload_n 3, 1, 0, 0, 0) ∈ kL_law := List.mem_of_getElem? (i := 130) (by decide +kernel)
set_option maxRecDepth 10000 in
theorem eL_law_267 : (267, Instr.iconst 2, 1, 0, 0, 0) ∈ kL_law := List.mem_of_getElem? (i := 131) (by decide +kernel)
set_option maxRecDepth 10000 in
theorem eL_law_268 : (268, Instr.iadd, 1, 0, 0, 0) ∈ kL_law := List.mem_of_getElem? (i := 132) (by decide +kernel)
set_option maxRecDepth 10000 in
theorem eL_law_269 : (269, Instr.iaload, 1, 0, 0, 0) ∈ kL_law := List.mem_of_getElem? (i := 133) (by decide +kernel)
set_option maxRecDepth 10000 in
theorem eL_law_270 : (270, Instr.aload_n 0, 1, 0, 0, 0) ∈ kL_law := List.mem_of_getElem? (i := 134) (by decide +kernel)
set_option maxRecDepth 10000 in
theorem eL_law_271 : (271, Instr.iload_n 3, 1, 0, 0, 0) ∈ kL_law := List.mem_of_getElem? (i := 135) (by decide +kernel)
set_option maxRecDepth 10000 in
theorem eL_law_272 : (272, Instr.iconst 3, 1, 0, 0, 0) ∈ kL_law := List.mem_of_getElem? (i := 136) (by decide +kernel)
set_option maxRecDepth 10000 in
theorem eL_law_273 : (273, Instr.iadd, 1, 0, 0, 0) ∈ kL_law := List.mem_of_getElem? (i := 137) (by decide +kernel)
set_option maxRecDepth 10000 in
theorem eL_law_274 : (274, Instr.iaload, 1, 0, 0, 0) ∈ kL_law := List.mem_of_getElem? (i := 138) (by decide +kernel)
set_option maxRecDepth 10000 in
theorem eL_law_275 : (275, Instr.ifCond .eq 7, 3, 282, 0, 0) ∈ kL_law := List.mem_of_getElem? (i := 139) (by decide +kernel)
set_option maxRecDepth 10000 in
theorem eL_law_278 : (278, Instr.iconst 1, 1, 0, 0, 0) ∈ kL_law := List.mem_of_getElem? (i := 140) (by decide +kernel)
set_option maxRecDepth 10000 in
theorem eL_law_279 : (279, Instr.goto 4, 3, 283, 0, 0) ∈ kL_law := List.mem_of_getElem? (i := 141) (by decide +kernel)
set_option maxRecDepth 10000 in
theorem eL_law_282 : (282, Instr.iconst 0, 1, 0, 0, 0) ∈ kL_law := List.mem_of_getElem? (i := 142) (by decide +kernel)
set_option maxRecDepth 10000 in
theorem eL_law_283 : (283, Instr.aload_n 0, 1, 0, 0, 0) ∈ kL_law := List.mem_of_getElem? (i := 143) (by decide +kernel)
set_option maxRecDepth 10000 in
theorem eL_law_284 : (284, Instr.iload_n 3, 1, 0, 0, 0) ∈ kL_law := List.mem_of_getElem? (i := 144) (by decide +kernel)
set_option maxRecDepth 10000 in
theorem eL_law_285 : (285, Instr.iconst 4, 1, 0, 0, 0) ∈ kL_law := List.mem_of_getElem? (i := 145) (by decide +kernel)
set_option maxRecDepth 10000 in
theorem eL_law_286 : (286, Instr.iadd, 1, 0, 0, 0) ∈ kL_law := List.mem_of_getElem? (i := 146) (by decide +kernel)
set_option maxRecDepth 10000 in
theorem eL_law_287 : (287, Instr.iaload, 1, 0, 0, 0) ∈ kL_law := List.mem_of_getElem? (i := 147) (by decide +kernel)
set_option maxRecDepth 10000 in
theorem eL_law_288 : (288, Instr.invokevirtual 28, 3, 29, 4, 183) ∈ kL_law := List.mem_of_getElem? (i := 148) (by decide +kernel)
set_option maxRecDepth 10000 in
theorem eL_law_291 : (291, Instr.aload_n 2, 1, 0, 0, 0) ∈ kL_law := List.mem_of_getElem? (i := 149) (by decide +kernel)
set_option maxRecDepth 10000 in
theorem eL_law_292 : (292, Instr.aload_n 0, 1, 0, 0, 0) ∈ kL_law := List.mem_of_getElem? (i := 150) (by decide +kernel)
set_option maxRecDepth 10000 in
theorem eL_law_293 : (293, Instr.iload_n 3, 1, 0, 0, 0) ∈ kL_law := List.mem_of_getElem? (i := 151) (by decide +kernel)
set_option maxRecDepth 10000 in
theorem eL_law_294 : (294, Instr.iconst 1, 1, 0, 0, 0) ∈ kL_law := List.mem_of_getElem? (i := 152) (by decide +kernel)
set_option maxRecDepth 10000 in
theorem eL_law_295 : (295, Instr.iadd, 1, 0, 0, 0) ∈ kL_law := List.mem_of_getElem? (i := 153) (by decide +kernel)
set_option maxRecDepth 10000 in
theorem eL_law_296 : (296, Instr.iaload, 1, 0, 0, 0) ∈ kL_law := List.mem_of_getElem? (i := 154) (by decide +kernel)
set_option maxRecDepth 10000 in
theorem eL_law_297 : (297, Instr.aload_n 0, 1, 0, 0, 0) ∈ kL_law := List.mem_of_getElem? (i := 155) (by decide +kernel)
set_option maxRecDepth 10000 in
theorem eL_law_298 : (298, Instr.iload_n 3, 1, 0, 0, 0) ∈ kL_law := List.mem_of_getElem? (i := 156) (by decide +kernel)
set_option maxRecDepth 10000 in
theorem eL_law_299 : (299, Instr.iconst 2, 1, 0, 0, 0) ∈ kL_law := List.mem_of_getElem? (i := 157) (by decide +kernel)
set_option maxRecDepth 10000 in
theorem eL_law_300 : (300, Instr.iadd, 1, 0, 0, 0) ∈ kL_law := List.mem_of_getElem? (i := 158) (by decide +kernel)
set_option maxRecDepth 10000 in
theorem eL_law_301 : (301, Instr.iaload, 1, 0, 0, 0) ∈ kL_law := List.mem_of_getElem? (i := 159) (by decide +kernel)
set_option maxRecDepth 10000 in
theorem eL_law_302 : (302, Instr.aload_n 0, 1, 0, 0, 0) ∈ kL_law := List.mem_of_getElem? (i := 160) (by decide +kernel)
set_option maxRecDepth 10000 in
theorem eL_law_303 : (303, Instr.iload_n 3, 1, 0, 0, 0) ∈ kL_law := List.mem_of_getElem? (i := 161) (by decide +kernel)
set_option maxRecDepth 10000 in
theorem eL_law_304 : (304, Instr.iconst 3, 1, 0, 0, 0) ∈ kL_law := List.mem_of_getElem? (i := 162) (by decide +kernel)
set_option maxRecDepth 10000 in
theorem eL_law_305 : (305, Instr.iadd, 1, 0, 0, 0) ∈ kL_law := List.mem_of_getElem? (i := 163) (by decide +kernel)
set_option maxRecDepth 10000 in
theorem eL_law_306 : (306, Instr.iaload, 1, 0, 0, 0) ∈ kL_law := List.mem_of_getElem? (i := 164) (by decide +kernel)
set_option maxRecDepth 10000 in
theorem eL_law_307 : (307, Instr.ifCond .eq 7, 3, 314, 0, 0) ∈ kL_law := List.mem_of_getElem? (i := 165) (by decide +kernel)
set_option maxRecDepth 10000 in
theorem eL_law_310 : (310, Instr.iconst 1, 1, 0, 0, 0) ∈ kL_law := List.mem_of_getElem? (i := 166) (by decide +kernel)
set_option maxRecDepth 10000 in
theorem eL_law_311 : (311, Instr.goto 4, 3, 315, 0, 0) ∈ kL_law := List.mem_of_getElem? (i := 167) (by decide +kernel)
set_option maxRecDepth 10000 in
theorem eL_law_314 : (314, Instr.iconst 0, 1, 0, 0, 0) ∈ kL_law := List.mem_of_getElem? (i := 168) (by decide +kernel)
set_option maxRecDepth 10000 in
theorem eL_law_315 : (315, Instr.aload_n 0, 1, 0, 0, 0) ∈ kL_law := List.mem_of_getElem? (i := 169) (by decide +kernel)
set_option maxRecDepth 10000 in
theorem eL_law_316 : (316, Instr.iload_n 3, 1, 0, 0, 0) ∈ kL_law := List.mem_of_getElem? (i := 170) (by decide +kernel)
set_option maxRecDepth 10000 in
theorem eL_law_317 : (317, Instr.iconst 4, 1, 0, 0, 0) ∈ kL_law := List.mem_of_getElem? (i := 171) (by decide +kernel)
set_option maxRecDepth 10000 in
theorem eL_law_318 : (318, Instr.iadd, 1, 0, 0, 0) ∈ kL_law := List.mem_of_getElem? (i := 172) (by decide +kernel)
set_option maxRecDepth 10000 in
theorem eL_law_319 : (319, Instr.iaload, 1, 0, 0, 0) ∈ kL_law := List.mem_of_getElem? (i := 173) (by decide +kernel)
set_option maxRecDepth 10000 in
theorem eL_law_320 : (320, Instr.invokevirtual 32, 3, 85, 4, 695) ∈ kL_law := List.mem_of_getElem? (i := 174) (by decide +kernel)
set_option maxRecDepth 10000 in
theorem eL_law_323 : (323, Instr.if_icmp .eq 556, 3, 879, 0, 0) ∈ kL_law := List.mem_of_getElem? (i := 175) (by decide +kernel)
set_option maxRecDepth 10000 in
theorem eL_law_326 : (326, Instr.iconst 0, 1, 0, 0, 0) ∈ kL_law := List.mem_of_getElem? (i := 176) (by decide +kernel)
set_option maxRecDepth 10000 in
theorem eL_law_327 : (327, Instr.ireturn, 1, 1, 0, 0) ∈ kL_law := List.mem_of_getElem? (i := 177) (by decide +kernel)
set_option maxRecDepth 10000 in
theorem eL_law_328 : (328, Instr.aload_n 1, 1, 0, 0, 0) ∈ kL_law := List.mem_of_getElem? (i := 178) (by decide +kernel)
set_option maxRecDepth 10000 in
theorem eL_law_329 : (329, Instr.aload_n 0, 1, 0, 0, 0) ∈ kL_law := List.mem_of_getElem? (i := 179) (by decide +kernel)
set_option maxRecDepth 10000 in
theorem eL_law_330 : (330, Instr.iload_n 3, 1, 0, 0, 0) ∈ kL_law := List.mem_of_getElem? (i := 180) (by decide +kernel)
set_option maxRecDepth 10000 in
theorem eL_law_331 : (331, Instr.iconst 1, 1, 0, 0, 0) ∈ kL_law := List.mem_of_getElem? (i := 181) (by decide +kernel)
set_option maxRecDepth 10000 in
theorem eL_law_332 : (332, Instr.iadd, 1, 0, 0, 0) ∈ kL_law := List.mem_of_getElem? (i := 182) (by decide +kernel)
set_option maxRecDepth 10000 in
theorem eL_law_333 : (333, Instr.iaload, 1, 0, 0, 0) ∈ kL_law := List.mem_of_getElem? (i := 183) (by decide +kernel)
set_option maxRecDepth 10000 in
theorem eL_law_334 : (334, Instr.aload_n 0, 1, 0, 0, 0) ∈ kL_law := List.mem_of_getElem? (i := 184) (by decide +kernel)
set_option maxRecDepth 10000 in
theorem eL_law_335 : (335, Instr.iload_n 3, 1, 0, 0, 0) ∈ kL_law := List.mem_of_getElem? (i := 185) (by decide +kernel)
set_option maxRecDepth 10000 in
theorem eL_law_336 : (336, Instr.iconst 2, 1, 0, 0, 0) ∈ kL_law := List.mem_of_getElem? (i := 186) (by decide +kernel)
set_option maxRecDepth 10000 in
theorem eL_law_337 : (337, Instr.iadd, 1, 0, 0, 0) ∈ kL_law := List.mem_of_getElem? (i := 187) (by decide +kernel)
set_option maxRecDepth 10000 in
theorem eL_law_338 : (338, Instr.iaload, 1, 0, 0, 0) ∈ kL_law := List.mem_of_getElem? (i := 188) (by decide +kernel)
set_option maxRecDepth 10000 in
theorem eL_law_339 : (339, Instr.aload_n 0, 1, 0, 0, 0) ∈ kL_law := List.mem_of_getElem? (i := 189) (by decide +kernel)
set_option maxRecDepth 10000 in
theorem eL_law_340 : (340, Instr.iload_n 3, 1, 0, 0, 0) ∈ kL_law := List.mem_of_getElem? (i := 190) (by decide +kernel)
set_option maxRecDepth 10000 in
theorem eL_law_341 : (341, Instr.iconst 3, 1, 0, 0, 0) ∈ kL_law := List.mem_of_getElem? (i := 191) (by decide +kernel)
set_option maxRecDepth 10000 in
theorem eL_law_342 : (342, Instr.iadd, 1, 0, 0, 0) ∈ kL_law := List.mem_of_getElem? (i := 192) (by decide +kernel)
set_option maxRecDepth 10000 in
theorem eL_law_343 : (343, Instr.iaload, 1, 0, 0, 0) ∈ kL_law := List.mem_of_getElem? (i := 193) (by decide +kernel)
set_option maxRecDepth 10000 in
theorem eL_law_344 : (344, Instr.ifCond .eq 7, 3, 351, 0, 0) ∈ kL_law := List.mem_of_getElem? (i := 194) (by decide +kernel)
set_option maxRecDepth 10000 in
theorem eL_law_347 : (347, Instr.iconst 1, 1, 0, 0, 0) ∈ kL_law := List.mem_of_getElem? (i := 195) (by decide +kernel)
set_option maxRecDepth 10000 in
theorem eL_law_348 : (348, Instr.goto 4, 3, 352, 0, 0) ∈ kL_law := List.mem_of_getElem? (i := 196) (by decide +kernel)
set_option maxRecDepth 10000 in
theorem eL_law_351 : (351, Instr.iconst 0, 1, 0, 0, 0) ∈ kL_law := List.mem_of_getElem? (i := 197) (by decide +kernel)
set_option maxRecDepth 10000 in
theorem eL_law_352 : (352, Instr.aload_n 0, 1, 0, 0, 0) ∈ kL_law := List.mem_of_getElem? (i := 198) (by decide +kernel)
set_option maxRecDepth 10000 in
theorem eL_law_353 : (353, Instr.iload_n 3, 1, 0, 0, 0) ∈ kL_law := List.mem_of_getElem? (i := 199) (by decide +kernel)
set_option maxRecDepth 10000 in
theorem eL_law_354 : (354, Instr.iconst 4, 1, 0, 0, 0) ∈ kL_law := List.mem_of_getElem? (i := 200) (by decide +kernel)
set_option maxRecDepth 10000 in
theorem eL_law_355 : (355, Instr.iadd, 1, 0, 0, 0) ∈ kL_law := List.mem_of_getElem? (i := 201) (by decide +kernel)
set_option maxRecDepth 10000 in
theorem eL_law_356 : (356, Instr.iaload, 1, 0, 0, 0) ∈ kL_law := List.mem_of_getElem? (i := 202) (by decide +kernel)
set_option maxRecDepth 10000 in
theorem eL_law_357 : (357, Instr.ifCond .eq 7, 3, 364, 0, 0) ∈ kL_law := List.mem_of_getElem? (i := 203) (by decide +kernel)
set_option maxRecDepth 10000 in
theorem eL_law_360 : (360, Instr.iconst 1, 1, 0, 0, 0) ∈ kL_law := List.mem_of_getElem? (i := 204) (by decide +kernel)
set_option maxRecDepth 10000 in
theorem eL_law_361 : (361, Instr.goto 4, 3, 365, 0, 0) ∈ kL_law := List.mem_of_getElem? (i := 205) (by decide +kernel)
set_option maxRecDepth 10000 in
theorem eL_law_364 : (364, Instr.iconst 0, 1, 0, 0, 0) ∈ kL_law := List.mem_of_getElem? (i := 206) (by decide +kernel)
set_option maxRecDepth 10000 in
theorem eL_law_365 : (365, Instr.aload_n 0, 1, 0, 0, 0) ∈ kL_law := List.mem_of_getElem? (i := 207) (by decide +kernel)
set_option maxRecDepth 10000 in
theorem eL_law_366 : (366, Instr.iload_n 3, 1, 0, 0, 0) ∈ kL_law := List.mem_of_getElem? (i := 208) (by decide +kernel)
set_option maxRecDepth 10000 in
theorem eL_law_367 : (367, Instr.iconst 5, 1, 0, 0, 0) ∈ kL_law := List.mem_of_getElem? (i := 209) (by decide +kernel)
set_option maxRecDepth 10000 in
theorem eL_law_368 : (368, Instr.iadd, 1, 0, 0, 0) ∈ kL_law := List.mem_of_getElem? (i := 210) (by decide +kernel)
set_option maxRecDepth 10000 in
theorem eL_law_369 : (369, Instr.iaload, 1, 0, 0, 0) ∈ kL_law := List.mem_of_getElem? (i := 211) (by decide +kernel)
set_option maxRecDepth 10000 in
theorem eL_law_370 : (370, Instr.aload_n 0, 1, 0, 0, 0) ∈ kL_law := List.mem_of_getElem? (i := 212) (by decide +kernel)
set_option maxRecDepth 10000 in
theorem eL_law_371 : (371, Instr.iload_n 3, 1, 0, 0, 0) ∈ kL_law := List.mem_of_getElem? (i := 213) (by decide +kernel)
set_option maxRecDepth 10000 in
theorem eL_law_372 : (372, Instr.bipush 6, 2, 0, 0, 0) ∈ kL_law := List.mem_of_getElem? (i := 214) (by decide +kernel)
set_option maxRecDepth 10000 in
theorem eL_law_374 : (374, Instr.iadd, 1, 0, 0, 0) ∈ kL_law := List.mem_of_getElem? (i := 215) (by decide +kernel)
set_option maxRecDepth 10000 in
theorem eL_law_375 : (375, Instr.iaload, 1, 0, 0, 0) ∈ kL_law := List.mem_of_getElem? (i := 216) (by decide +kernel)
set_option maxRecDepth 10000 in
theorem eL_law_376 : (376, Instr.invokevirtual 33, 3, 30, 6, 228) ∈ kL_law := List.mem_of_getElem? (i := 217) (by decide +kernel)
set_option maxRecDepth 10000 in
theorem eL_law_379 : (379, Instr.aload_n 2, 1, 0, 0, 0) ∈ kL_law := List.mem_of_getElem? (i := 218) (by decide +kernel)
set_option maxRecDepth 10000 in
theorem eL_law_380 : (380, Instr.aload_n 0, 1, 0, 0, 0) ∈ kL_law := List.mem_of_getElem? (i := 219) (by decide +kernel)
set_option maxRecDepth 10000 in
theorem eL_law_381 : (381, Instr.iload_n 3, 1, 0, 0, 0) ∈ kL_law := List.mem_of_getElem? (i := 220) (by decide +kernel)
set_option maxRecDepth 10000 in
theorem eL_law_382 : (382, Instr.iconst 1, 1, 0, 0, 0) ∈ kL_law := List.mem_of_getElem? (i := 221) (by decide +kernel)
set_option maxRecDepth 10000 in
theorem eL_law_383 : (383, Instr.iadd, 1, 0, 0, 0) ∈ kL_law := List.mem_of_getElem? (i := 222) (by decide +kernel)
set_option maxRecDepth 10000 in
theorem eL_law_384 : (384, Instr.iaload, 1, 0, 0, 0) ∈ kL_law := List.mem_of_getElem? (i := 223) (by decide +kernel)
set_option maxRecDepth 10000 in
theorem eL_law_385 : (385, Instr.aload_n 0, 1, 0, 0, 0) ∈ kL_law := List.mem_of_getElem? (i := 224) (by decide +kernel)
set_option maxRecDepth 10000 in
theorem eL_law_386 : (386, Instr.iload_n 3, 1, 0, 0, 0) ∈ kL_law := List.mem_of_getElem? (i := 225) (by decide +kernel)
set_option maxRecDepth 10000 in
theorem eL_law_387 : (387, Instr.iconst 2, 1, 0, 0, 0) ∈ kL_law := List.mem_of_getElem? (i := 226) (by decide +kernel)
set_option maxRecDepth 10000 in
theorem eL_law_388 : (388, Instr.iadd, 1, 0, 0, 0) ∈ kL_law := List.mem_of_getElem? (i := 227) (by decide +kernel)
set_option maxRecDepth 10000 in
theorem eL_law_389 : (389, Instr.iaload, 1, 0, 0, 0) ∈ kL_law := List.mem_of_getElem? (i := 228) (by decide +kernel)
set_option maxRecDepth 10000 in
theorem eL_law_390 : (390, Instr.aload_n 0, 1, 0, 0, 0) ∈ kL_law := List.mem_of_getElem? (i := 229) (by decide +kernel)
set_option maxRecDepth 10000 in
theorem eL_law_391 : (391, Instr.iload_n 3, 1, 0, 0, 0) ∈ kL_law := List.mem_of_getElem? (i := 230) (by decide +kernel)
set_option maxRecDepth 10000 in
theorem eL_law_392 : (392, Instr.iconst 3, 1, 0, 0, 0) ∈ kL_law := List.mem_of_getElem? (i := 231) (by decide +kernel)
set_option maxRecDepth 10000 in
theorem eL_law_393 : (393, Instr.iadd, 1, 0, 0, 0) ∈ kL_law := List.mem_of_getElem? (i := 232) (by decide +kernel)
set_option maxRecDepth 10000 in
theorem eL_law_394 : (394, Instr.iaload, 1, 0, 0, 0) ∈ kL_law := List.mem_of_getElem? (i := 233) (by decide +kernel)
set_option maxRecDepth 10000 in
theorem eL_law_395 : (395, Instr.ifCond .eq 7, 3, 402, 0, 0) ∈ kL_law := List.mem_of_getElem? (i := 234) (by decide +kernel)
set_option maxRecDepth 10000 in
theorem eL_law_398 : (398, Instr.iconst 1, 1, 0, 0, 0) ∈ kL_law := List.mem_of_getElem? (i := 235) (by decide +kernel)
set_option maxRecDepth 10000 in
theorem eL_law_399 : (399, Instr.goto 4, 3, 403, 0, 0) ∈ kL_law := List.mem_of_getElem? (i := 236) (by decide +kernel)
set_option maxRecDepth 10000 in
theorem eL_law_402 : (402, Instr.iconst 0, 1, 0, 0, 0) ∈ kL_law := List.mem_of_getElem? (i := 237) (by decide +kernel)
set_option maxRecDepth 10000 in
theorem eL_law_403 : (403, Instr.aload_n 0, 1, 0, 0, 0) ∈ kL_law := List.mem_of_getElem? (i := 238) (by decide +kernel)
set_option maxRecDepth 10000 in
theorem eL_law_404 : (404, Instr.iload_n 3, 1, 0, 0, 0) ∈ kL_law := List.mem_of_getElem? (i := 239) (by decide +kernel)
set_option maxRecDepth 10000 in
theorem eL_law_405 : (405, Instr.iconst 4, 1, 0, 0, 0) ∈ kL_law := List.mem_of_getElem? (i := 240) (by decide +kernel)
set_option maxRecDepth 10000 in
theorem eL_law_406 : (406, Instr.iadd, 1, 0, 0, 0) ∈ kL_law := List.mem_of_getElem? (i := 241) (by decide +kernel)
set_option maxRecDepth 10000 in
theorem eL_law_407 : (407, Instr.iaload, 1, 0, 0, 0) ∈ kL_law := List.mem_of_getElem? (i := 242) (by decide +kernel)
set_option maxRecDepth 10000 in
theorem eL_law_408 : (408, Instr.ifCond .eq 7, 3, 415, 0, 0) ∈ kL_law := List.mem_of_getElem? (i := 243) (by decide +kernel)
set_option maxRecDepth 10000 in
theorem eL_law_411 : (411, Instr.iconst 1, 1, 0, 0, 0) ∈ kL_law := List.mem_of_getElem? (i := 244) (by decide +kernel)
set_option maxRecDepth 10000 in
theorem eL_law_412 : (412, Instr.goto 4, 3, 416, 0, 0) ∈ kL_law := List.mem_of_getElem? (i := 245) (by decide +kernel)
set_option maxRecDepth 10000 in
theorem eL_law_415 : (415, Instr.iconst 0, 1, 0, 0, 0) ∈ kL_law := List.mem_of_getElem? (i := 246) (by decide +kernel)
set_option maxRecDepth 10000 in
theorem eL_law_416 : (416, Instr.aload_n 0, 1, 0, 0, 0) ∈ kL_law := List.mem_of_getElem? (i := 247) (by decide +kernel)
set_option maxRecDepth 10000 in
theorem eL_law_417 : (417, Instr.iload_n 3, 1, 0, 0, 0) ∈ kL_law := List.mem_of_getElem? (i := 248) (by decide +kernel)
set_option maxRecDepth 10000 in
theorem eL_law_418 : (418, Instr.iconst 5, 1, 0, 0, 0) ∈ kL_law := List.mem_of_getElem? (i := 249) (by decide +kernel)
set_option maxRecDepth 10000 in
theorem eL_law_419 : (419, Instr.iadd, 1, 0, 0, 0) ∈ kL_law := List.mem_of_getElem? (i := 250) (by decide +kernel)
set_option maxRecDepth 10000 in
theorem eL_law_420 : (420, Instr.iaload, 1, 0, 0, 0) ∈ kL_law := List.mem_of_getElem? (i := 251) (by decide +kernel)
set_option maxRecDepth 10000 in
theorem eL_law_421 : (421, Instr.aload_n 0, 1, 0, 0, 0) ∈ kL_law := List.mem_of_getElem? (i := 252) (by decide +kernel)
set_option maxRecDepth 10000 in
theorem eL_law_422 : (422, Instr.iload_n 3, 1, 0, 0, 0) ∈ kL_law := List.mem_of_getElem? (i := 253) (by decide +kernel)
set_option maxRecDepth 10000 in
theorem eL_law_423 : (423, Instr.bipush 6, 2, 0, 0, 0) ∈ kL_law := List.mem_of_getElem? (i := 254) (by decide +kernel)
set_option maxRecDepth 10000 in
theorem eL_law_425 : (425, Instr.iadd, 1, 0, 0, 0) ∈ kL_law := List.mem_of_getElem? (i := 255) (by decide +kernel)
set_option maxRecDepth 10000 in
theorem eL_law_426 : (426, Instr.iaload, 1, 0, 0, 0) ∈ kL_law := List.mem_of_getElem? (i := 256) (by decide +kernel)
set_option maxRecDepth 10000 in
theorem eL_law_427 : (427, Instr.invokevirtual 37, 3, 92, 6, 699) ∈ kL_law := List.mem_of_getElem? (i := 257) (by decide +kernel)
set_option maxRecDepth 10000 in
theorem eL_law_430 : (430, Instr.if_icmp .eq 449, 3, 879, 0, 0) ∈ kL_law := List.mem_of_getElem? (i := 258) (by decide +kernel)
set_option maxRecDepth 10000 in
theorem eL_law_433 : (433, Instr.iconst 0, 1, 0, 0, 0) ∈ kL_law := List.mem_of_getElem? (i := 259) (by decide +kernel)
set_option maxRecDepth 10000 in
theorem eL_law_434 : (434, Instr.ireturn, 1, 1, 0, 0) ∈ kL_law := List.mem_of_getElem? (i := 260) (by decide +kernel)
set_option maxRecDepth 10000 in
theorem eL_law_435 : (435, Instr.aload_n 1, 1, 0, 0, 0) ∈ kL_law := List.mem_of_getElem? (i := 261) (by decide +kernel)
set_option maxRecDepth 10000 in
theorem eL_law_436 : (436, Instr.aload_n 0, 1, 0, 0, 0) ∈ kL_law := List.mem_of_getElem? (i := 262) (by decide +kernel)
set_option maxRecDepth 10000 in
theorem eL_law_437 : (437, Instr.iload_n 3, 1, 0, 0, 0) ∈ kL_law := List.mem_of_getElem? (i := 263) (by decide +kernel)
set_option maxRecDepth 10000 in
theorem eL_law_438 : (438, Instr.iconst 1, 1, 0, 0, 0) ∈ kL_law := List.mem_of_getElem? (i := 264) (by decide +kernel)
set_option maxRecDepth 10000 in
theorem eL_law_439 : (439, Instr.iadd, 1, 0, 0, 0) ∈ kL_law := List.mem_of_getElem? (i := 265) (by decide +kernel)
set_option maxRecDepth 10000 in
theorem eL_law_440 : (440, Instr.iaload, 1, 0, 0, 0) ∈ kL_law := List.mem_of_getElem? (i := 266) (by decide +kernel)
set_option maxRecDepth 10000 in
theorem eL_law_441 : (441, Instr.invokevirtual 38, 3, 31, 1, 337) ∈ kL_law := List.mem_of_getElem? (i := 267) (by decide +kernel)
set_option maxRecDepth 10000 in
theorem eL_law_444 : (444, Instr.aload_n 2, 1, 0, 0, 0) ∈ kL_law := List.mem_of_getElem? (i := 268) (by decide +kernel)
set_option maxRecDepth 10000 in
theorem eL_law_445 : (445, Instr.aload_n 0, 1, 0, 0, 0) ∈ kL_law := List.mem_of_getElem? (i := 269) (by decide +kernel)
set_option maxRecDepth 10000 in
theorem eL_law_446 : (446, Instr.iload_n 3, 1, 0, 0, 0) ∈ kL_law := List.mem_of_getElem? (i := 270) (by decide +kernel)
set_option maxRecDepth 10000 in
theorem eL_law_447 : (447, Instr.iconst 1, 1, 0, 0, 0) ∈ kL_law := List.mem_of_getElem? (i := 271) (by decide +kernel)
set_option maxRecDepth 10000 in
theorem eL_law_448 : (448, Instr.iadd, 1, 0, 0, 0) ∈ kL_law := List.mem_of_getElem? (i := 272) (by decide +kernel)
set_option maxRecDepth 10000 in
theorem eL_law_449 : (449, Instr.iaload, 1, 0, 0, 0) ∈ kL_law := List.mem_of_getElem? (i := 273) (by decide +kernel)
set_option maxRecDepth 10000 in
theorem eL_law_450 : (450, Instr.invokevirtual 41, 3, 95, 1, 734) ∈ kL_law := List.mem_of_getElem? (i := 274) (by decide +kernel)
set_option maxRecDepth 10000 in
theorem eL_law_453 : (453, Instr.if_icmp .eq 426, 3, 879, 0, 0) ∈ kL_law := List.mem_of_getElem? (i := 275) (by decide +kernel)
set_option maxRecDepth 10000 in
theorem eL_law_456 : (456, Instr.iconst 0, 1, 0, 0, 0) ∈ kL_law := List.mem_of_getElem? (i := 276) (by decide +kernel)
set_option maxRecDepth 10000 in
theorem eL_law_457 : (457, Instr.ireturn, 1, 1, 0, 0) ∈ kL_law := List.mem_of_getElem? (i := 277) (by decide +kernel)
set_option maxRecDepth 10000 in
theorem eL_law_458 : (458, Instr.aload_n 1, 1, 0, 0, 0) ∈ kL_law := List.mem_of_getElem? (i := 278) (by decide +kernel)
set_option maxRecDepth 10000 in
theorem eL_law_459 : (459, Instr.aload_n 0, 1, 0, 0, 0) ∈ kL_law := List.mem_of_getElem? (i := 279) (by decide +kernel)
set_option maxRecDepth 10000 in
theorem eL_law_460 : (460, Instr.iload_n 3, 1, 0, 0, 0) ∈ kL_law := List.mem_of_getElem? (i := 280) (by decide +kernel)
set_option maxRecDepth 10000 in
theorem eL_law_461 : (461, Instr.iconst 1, 1, 0, 0, 0) ∈ kL_law := List.mem_of_getElem? (i := 281) (by decide +kernel)
set_option maxRecDepth 10000 in
theorem eL_law_462 : (462, Instr.iadd, 1, 0, 0, 0) ∈ kL_law := List.mem_of_getElem? (i := 282) (by decide +kernel)
set_option maxRecDepth 10000 in
theorem eL_law_463 : (463, Instr.iaload, 1, 0, 0, 0) ∈ kL_law := List.mem_of_getElem? (i := 283) (by decide +kernel)
set_option maxRecDepth 10000 in
theorem eL_law_464 : (464, Instr.invokevirtual 42, 3, 32, 1, 365) ∈ kL_law := List.mem_of_getElem? (i := 284) (by decide +kernel)
set_option maxRecDepth 10000 in
theorem eL_law_467 : (467, Instr.aload_n 2, 1, 0, 0, 0) ∈ kL_law := List.mem_of_getElem? (i := 285) (by decide +kernel)
set_option maxRecDepth 10000 in
theorem eL_law_468 : (468, Instr.aload_n 0, 1, 0, 0, 0) ∈ kL_law := List.mem_of_getElem? (i := 286) (by decide +kernel)
set_option maxRecDepth 10000 in
theorem eL_law_469 : (469, Instr.iload_n 3, 1, 0, 0, 0) ∈ kL_law := List.mem_of_getElem? (i := 287) (by decide +kernel)
set_option maxRecDepth 10000 in
theorem eL_law_470 : (470, Instr.iconst 1, 1, 0, 0, 0) ∈ kL_law := List.mem_of_getElem? (i := 288) (by decide +kernel)
set_option maxRecDepth 10000 in
theorem eL_law_471 : (471, Instr.iadd, 1, 0, 0, 0) ∈ kL_law := List.mem_of_getElem? (i := 289) (by decide +kernel)
set_option maxRecDepth 10000 in
theorem eL_law_472 : (472, Instr.iaload, 1, 0, 0, 0) ∈ kL_law := List.mem_of_getElem? (i := 290) (by decide +kernel)
set_option maxRecDepth 10000 in
theorem eL_law_473 : (473, Instr.invokevirtual 45, 3, 97, 1, 750) ∈ kL_law := List.mem_of_getElem? (i := 291) (by decide +kernel)
set_option maxRecDepth 10000 in
theorem eL_law_476 : (476, Instr.if_icmp .eq 403, 3, 879, 0, 0) ∈ kL_law := List.mem_of_getElem? (i := 292) (by decide +kernel)
set_option maxRecDepth 10000 in
theorem eL_law_479 : (479, Instr.iconst 0, 1, 0, 0, 0) ∈ kL_law := List.mem_of_getElem? (i := 293) (by decide +kernel)
set_option maxRecDepth 10000 in
theorem eL_law_480 : (480, Instr.ireturn, 1, 1, 0, 0) ∈ kL_law := List.mem_of_getElem? (i := 294) (by decide +kernel)
set_option maxRecDepth 10000 in
theorem eL_law_481 : (481, Instr.aload_n 1, 1, 0, 0, 0) ∈ kL_law := List.mem_of_getElem? (i := 295) (by decide +kernel)
set_option maxRecDepth 10000 in
theorem eL_law_482 : (482, Instr.invokevirtual 46, 3, 33, 0, 382) ∈ kL_law := List.mem_of_getElem? (i := 296) (by decide +kernel)
set_option maxRecDepth 10000 in
theorem eL_law_485 : (485, Instr.aload_n 2, 1, 0, 0, 0) ∈ kL_law := List.mem_of_getElem? (i := 297) (by decide +kernel)
set_option maxRecDepth 10000 in
theorem eL_law_486 : (486, Instr.invokevirtual 50, 3, 98, 0, 759) ∈ kL_law := List.mem_of_getElem? (i := 298) (by decide +kernel)
set_option maxRecDepth 10000 in
theorem eL_law_489 : (489, Instr.if_icmp .eq 390, 3, 879, 0, 0) ∈ kL_law := List.mem_of_getElem? (i := 299) (by decide +kernel)
set_option maxRecDepth 10000 in
theorem eL_law_492 : (492, Instr.iconst 0, 1, 0, 0, 0) ∈ kL_law := List.mem_of_getElem? (i := 300) (by decide +kernel)
set_option maxRecDepth 10000 in
theorem eL_law_493 : (493, Instr.ireturn, 1, 1, 0, 0) ∈ kL_law := List.mem_of_getElem? (i := 301) (by decide +kernel)
set_option maxRecDepth 10000 in
theorem eL_law_494 : (494, Instr.aload_n 1, 1, 0, 0, 0) ∈ kL_law := List.mem_of_getElem? (i := 302) (by decide +kernel)
set_option maxRecDepth 10000 in
theorem eL_law_495 : (495, Instr.aload_n 0, 1, 0, 0, 0) ∈ kL_law := List.mem_of_getElem? (i := 303) (by decide +kernel)
set_option maxRecDepth 10000 in
theorem eL_law_496 : (496, Instr.iload_n 3, 1, 0, 0, 0) ∈ kL_law := List.mem_of_getElem? (i := 304) (by decide +kernel)
set_option maxRecDepth 10000 in
theorem eL_law_497 : (497, Instr.iconst 1, 1, 0, 0, 0) ∈ kL_law := List.mem_of_getElem? (i := 305) (by decide +kernel)
set_option maxRecDepth 10000 in
theorem eL_law_498 : (498, Instr.iadd, 1, 0, 0, 0) ∈ kL_law := List.mem_of_getElem? (i := 306) (by decide +kernel)
set_option maxRecDepth 10000 in
theorem eL_law_499 : (499, Instr.iaload, 1, 0, 0, 0) ∈ kL_law := List.mem_of_getElem? (i := 307) (by decide +kernel)
set_option maxRecDepth 10000 in
theorem eL_law_500 : (500, Instr.aload_n 0, 1, 0, 0, 0) ∈ kL_law := List.mem_of_getElem? (i := 308) (by decide +kernel)
set_option maxRecDepth 10000 in
theorem eL_law_501 : (501, Instr.iload_n 3, 1, 0, 0, 0) ∈ kL_law := List.mem_of_getElem? (i := 309) (by decide +kernel)
set_option maxRecDepth 10000 in
theorem eL_law_502 : (502, Instr.iconst 2, 1, 0, 0, 0) ∈ kL_law := List.mem_of_getElem? (i := 310) (by decide +kernel)
set_option maxRecDepth 10000 in
theorem eL_law_503 : (503, Instr.iadd, 1, 0, 0, 0) ∈ kL_law := List.mem_of_getElem? (i := 311) (by decide +kernel)
set_option maxRecDepth 10000 in
theorem eL_law_504 : (504, Instr.iaload, 1, 0, 0, 0) ∈ kL_law := List.mem_of_getElem? (i := 312) (by decide +kernel)
set_option maxRecDepth 10000 in
theorem eL_law_505 : (505, Instr.aload_n 0, 1, 0, 0, 0) ∈ kL_law := List.mem_of_getElem? (i := 313) (by decide +kernel)
set_option maxRecDepth 10000 in
theorem eL_law_506 : (506, Instr.iload_n 3, 1, 0, 0, 0) ∈ kL_law := List.mem_of_getElem? (i := 314) (by decide +kernel)
set_option maxRecDepth 10000 in
theorem eL_law_507 : (507, Instr.iconst 3, 1, 0, 0, 0) ∈ kL_law := List.mem_of_getElem? (i := 315) (by decide +kernel)
set_option maxRecDepth 10000 in
theorem eL_law_508 : (508, Instr.iadd, 1, 0, 0, 0) ∈ kL_law := List.mem_of_getElem? (i := 316) (by decide +kernel)
set_option maxRecDepth 10000 in
theorem eL_law_509 : (509, Instr.iaload, 1, 0, 0, 0) ∈ kL_law := List.mem_of_getElem? (i := 317) (by decide +kernel)
set_option maxRecDepth 10000 in
theorem eL_law_510 : (510, Instr.invokevirtual 51, 3, 34, 3, 403) ∈ kL_law := List.mem_of_getElem? (i := 318) (by decide +kernel)
set_option maxRecDepth 10000 in
theorem eL_law_513 : (513, Instr.aload_n 2, 1, 0, 0, 0) ∈ kL_law := List.mem_of_getElem? (i := 319) (by decide +kernel)
set_option maxRecDepth 10000 in
theorem eL_law_514 : (514, Instr.aload_n 0, 1, 0, 0, 0) ∈ kL_law := List.mem_of_getElem? (i := 320) (by decide +kernel)
set_option maxRecDepth 10000 in
theorem eL_law_515 : (515, Instr.iload_n 3, 1, 0, 0, 0) ∈ kL_law := List.mem_of_getElem? (i := 321) (by decide +kernel)
set_option maxRecDepth 10000 in
theorem eL_law_516 : (516, Instr.iconst 1, 1, 0, 0, 0) ∈ kL_law := List.mem_of_getElem? (i := 322) (by decide +kernel)
set_option maxRecDepth 10000 in
theorem eL_law_517 : (517, Instr.iadd, 1, 0, 0, 0) ∈ kL_law := List.mem_of_getElem? (i := 323) (by decide +kernel)
set_option maxRecDepth 10000 in
theorem eL_law_518 : (518, Instr.iaload, 1, 0, 0, 0) ∈ kL_law := List.mem_of_getElem? (i := 324) (by decide +kernel)
set_option maxRecDepth 10000 in
theorem eL_law_519 : (519, Instr.aload_n 0, 1, 0, 0, 0) ∈ kL_law := List.mem_of_getElem? (i := 325) (by decide +kernel)
set_option maxRecDepth 10000 in
theorem eL_law_520 : (520, Instr.iload_n 3, 1, 0, 0, 0) ∈ kL_law := List.mem_of_getElem? (i := 326) (by decide +kernel)
set_option maxRecDepth 10000 in
theorem eL_law_521 : (521, Instr.iconst 2, 1, 0, 0, 0) ∈ kL_law := List.mem_of_getElem? (i := 327) (by decide +kernel)
set_option maxRecDepth 10000 in
theorem eL_law_522 : (522, Instr.iadd, 1, 0, 0, 0) ∈ kL_law := List.mem_of_getElem? (i := 328) (by decide +kernel)
set_option maxRecDepth 10000 in
theorem eL_law_523 : (523, Instr.iaload, 1, 0, 0, 0) ∈ kL_law := List.mem_of_getElem? (i := 329) (by decide +kernel)
set_option maxRecDepth 10000 in
theorem eL_law_524 : (524, Instr.aload_n 0, 1, 0, 0, 0) ∈ kL_law := List.mem_of_getElem? (i := 330) (by decide +kernel)
set_option maxRecDepth 10000 in
theorem eL_law_525 : (525, Instr.iload_n 3, 1, 0, 0, 0) ∈ kL_law := List.mem_of_getElem? (i := 331) (by decide +kernel)
set_option maxRecDepth 10000 in
theorem eL_law_526 : (526, Instr.iconst 3, 1, 0, 0, 0) ∈ kL_law := List.mem_of_getElem? (i := 332) (by decide +kernel)
set_option maxRecDepth 10000 in
theorem eL_law_527 : (527, Instr.iadd, 1, 0, 0, 0) ∈ kL_law := List.mem_of_getElem? (i := 333) (by decide +kernel)
set_option maxRecDepth 10000 in
theorem eL_law_528 : (528, Instr.iaload, 1, 0, 0, 0) ∈ kL_law := List.mem_of_getElem? (i := 334) (by decide +kernel)
set_option maxRecDepth 10000 in
theorem eL_law_529 : (529, Instr.invokevirtual 55, 3, 105, 3, 778) ∈ kL_law := List.mem_of_getElem? (i := 335) (by decide +kernel)
set_option maxRecDepth 10000 in
theorem eL_law_532 : (532, Instr.if_icmp .eq 347, 3, 879, 0, 0) ∈ kL_law := List.mem_of_getElem? (i := 336) (by decide +kernel)
set_option maxRecDepth 10000 in
theorem eL_law_535 : (535, Instr.iconst 0, 1, 0, 0, 0) ∈ kL_law := List.mem_of_getElem? (i := 337) (by decide +kernel)
set_option maxRecDepth 10000 in
theorem eL_law_536 : (536, Instr.ireturn, 1, 1, 0, 0) ∈ kL_law := List.mem_of_getElem? (i := 338) (by decide +kernel)
set_option maxRecDepth 10000 in
theorem eL_law_537 : (537, Instr.aload_n 1, 1, 0, 0, 0) ∈ kL_law := List.mem_of_getElem? (i := 339) (by decide +kernel)
set_option maxRecDepth 10000 in
theorem eL_law_538 : (538, Instr.aload_n 0, 1, 0, 0, 0) ∈ kL_law := List.mem_of_getElem? (i := 340) (by decide +kernel)
set_option maxRecDepth 10000 in
theorem eL_law_539 : (539, Instr.iload_n 3, 1, 0, 0, 0) ∈ kL_law := List.mem_of_getElem? (i := 341) (by decide +kernel)
set_option maxRecDepth 10000 in
theorem eL_law_540 : (540, Instr.iconst 1, 1, 0, 0, 0) ∈ kL_law := List.mem_of_getElem? (i := 342) (by decide +kernel)
set_option maxRecDepth 10000 in
theorem eL_law_541 : (541, Instr.iadd, 1, 0, 0, 0) ∈ kL_law := List.mem_of_getElem? (i := 343) (by decide +kernel)
set_option maxRecDepth 10000 in
theorem eL_law_542 : (542, Instr.iaload, 1, 0, 0, 0) ∈ kL_law := List.mem_of_getElem? (i := 344) (by decide +kernel)
set_option maxRecDepth 10000 in
theorem eL_law_543 : (543, Instr.invokevirtual 56, 3, 35, 1, 423) ∈ kL_law := List.mem_of_getElem? (i := 345) (by decide +kernel)
set_option maxRecDepth 10000 in
theorem eL_law_546 : (546, Instr.aload_n 2, 1, 0, 0, 0) ∈ kL_law := List.mem_of_getElem? (i := 346) (by decide +kernel)
set_option maxRecDepth 10000 in
theorem eL_law_547 : (547, Instr.aload_n 0, 1, 0, 0, 0) ∈ kL_law := List.mem_of_getElem? (i := 347) (by decide +kernel)
set_option maxRecDepth 10000 in
theorem eL_law_548 : (548, Instr.iload_n 3, 1, 0, 0, 0) ∈ kL_law := List.mem_of_getElem? (i := 348) (by decide +kernel)
set_option maxRecDepth 10000 in
theorem eL_law_549 : (549, Instr.iconst 1, 1, 0, 0, 0) ∈ kL_law := List.mem_of_getElem? (i := 349) (by decide +kernel)
set_option maxRecDepth 10000 in
theorem eL_law_550 : (550, Instr.iadd, 1, 0, 0, 0) ∈ kL_law := List.mem_of_getElem? (i := 350) (by decide +kernel)
set_option maxRecDepth 10000 in
theorem eL_law_551 : (551, Instr.iaload, 1, 0, 0, 0) ∈ kL_law := List.mem_of_getElem? (i := 351) (by decide +kernel)
set_option maxRecDepth 10000 in
theorem eL_law_552 : (552, Instr.invokevirtual 59, 3, 104, 1, 763) ∈ kL_law := List.mem_of_getElem? (i := 352) (by decide +kernel)
set_option maxRecDepth 10000 in
theorem eL_law_555 : (555, Instr.if_icmp .eq 324, 3, 879, 0, 0) ∈ kL_law := List.mem_of_getElem? (i := 353) (by decide +kernel)
set_option maxRecDepth 10000 in
theorem eL_law_558 : (558, Instr.iconst 0, 1, 0, 0, 0) ∈ kL_law := List.mem_of_getElem? (i := 354) (by decide +kernel)
set_option maxRecDepth 10000 in
theorem eL_law_559 : (559, Instr.ireturn, 1, 1, 0, 0) ∈ kL_law := List.mem_of_getElem? (i := 355) (by decide +kernel)
set_option maxRecDepth 10000 in
theorem eL_law_560 : (560, Instr.aload_n 1, 1, 0, 0, 0) ∈ kL_law := List.mem_of_getElem? (i := 356) (by decide +kernel)
set_option maxRecDepth 10000 in
theorem eL_law_561 : (561, Instr.aload_n 0, 1, 0, 0, 0) ∈ kL_law := List.mem_of_getElem? (i := 357) (by decide +kernel)
set_option maxRecDepth 10000 in
theorem eL_law_562 : (562, Instr.iload_n 3, 1, 0, 0, 0) ∈ kL_law := List.mem_of_getElem? (i := 358) (by decide +kernel)
set_option maxRecDepth 10000 in
theorem eL_law_563 : (563, Instr.iconst 1, 1, 0, 0, 0) ∈ kL_law := List.mem_of_getElem? (i := 359) (by decide +kernel)
set_option maxRecDepth 10000 in
theorem eL_law_564 : (564, Instr.iadd, 1, 0, 0, 0) ∈ kL_law := List.mem_of_getElem? (i := 360) (by decide +kernel)
set_option maxRecDepth 10000 in
theorem eL_law_565 : (565, Instr.iaload, 1, 0, 0, 0) ∈ kL_law := List.mem_of_getElem? (i := 361) (by decide +kernel)
set_option maxRecDepth 10000 in
theorem eL_law_566 : (566, Instr.invokevirtual 60, 3, 36, 1, 427) ∈ kL_law := List.mem_of_getElem? (i := 362) (by decide +kernel)
set_option maxRecDepth 10000 in
theorem eL_law_569 : (569, Instr.aload_n 2, 1, 0, 0, 0) ∈ kL_law := List.mem_of_getElem? (i := 363) (by decide +kernel)
set_option maxRecDepth 10000 in
theorem eL_law_570 : (570, Instr.aload_n 0, 1, 0, 0, 0) ∈ kL_law := List.mem_of_getElem? (i := 364) (by decide +kernel)
set_option maxRecDepth 10000 in
theorem eL_law_571 : (571, Instr.iload_n 3, 1, 0, 0, 0) ∈ kL_law := List.mem_of_getElem? (i := 365) (by decide +kernel)
set_option maxRecDepth 10000 in
theorem eL_law_572 : (572, Instr.iconst 1, 1, 0, 0, 0) ∈ kL_law := List.mem_of_getElem? (i := 366) (by decide +kernel)
set_option maxRecDepth 10000 in
theorem eL_law_573 : (573, Instr.iadd, 1, 0, 0, 0) ∈ kL_law := List.mem_of_getElem? (i := 367) (by decide +kernel)
set_option maxRecDepth 10000 in
theorem eL_law_574 : (574, Instr.iaload, 1, 0, 0, 0) ∈ kL_law := List.mem_of_getElem? (i := 368) (by decide +kernel)
set_option maxRecDepth 10000 in
theorem eL_law_575 : (575, Instr.invokevirtual 63, 3, 106, 1, 783) ∈ kL_law := List.mem_of_getElem? (i := 369) (by decide +kernel)
set_option maxRecDepth 10000 in
theorem eL_law_578 : (578, Instr.if_icmp .eq 301, 3, 879, 0, 0) ∈ kL_law := List.mem_of_getElem? (i := 370) (by decide +kernel)
set_option maxRecDepth 10000 in
theorem eL_law_581 : (581, Instr.iconst 0, 1, 0, 0, 0) ∈ kL_law := List.mem_of_getElem? (i := 371) (by decide +kernel)
set_option maxRecDepth 10000 in
theorem eL_law_582 : (582, Instr.ireturn, 1, 1, 0, 0) ∈ kL_law := List.mem_of_getElem? (i := 372) (by decide +kernel)
set_option maxRecDepth 10000 in
theorem eL_law_583 : (583, Instr.aload_n 1, 1, 0, 0, 0) ∈ kL_law := List.mem_of_getElem? (i := 373) (by decide +kernel)
set_option maxRecDepth 10000 in
theorem eL_law_584 : (584, Instr.aload_n 0, 1, 0, 0, 0) ∈ kL_law := List.mem_of_getElem? (i := 374) (by decide +kernel)
set_option maxRecDepth 10000 in
theorem eL_law_585 : (585, Instr.iload_n 3, 1, 0, 0, 0) ∈ kL_law := List.mem_of_getElem? (i := 375) (by decide +kernel)
set_option maxRecDepth 10000 in
theorem eL_law_586 : (586, Instr.iconst 1, 1, 0, 0, 0) ∈ kL_law := List.mem_of_getElem? (i := 376) (by decide +kernel)
set_option maxRecDepth 10000 in
theorem eL_law_587 : (587, Instr.iadd, 1, 0, 0, 0) ∈ kL_law := List.mem_of_getElem? (i := 377) (by decide +kernel)
set_option maxRecDepth 10000 in
theorem eL_law_588 : (588, Instr.iaload, 1, 0, 0, 0) ∈ kL_law := List.mem_of_getElem? (i := 378) (by decide +kernel)
set_option maxRecDepth 10000 in
theorem eL_law_589 : (589, Instr.invokevirtual 64, 3, 37, 1, 437) ∈ kL_law := List.mem_of_getElem? (i := 379) (by decide +kernel)
set_option maxRecDepth 10000 in
theorem eL_law_592 : (592, Instr.aload_n 2, 1, 0, 0, 0) ∈ kL_law := List.mem_of_getElem? (i := 380) (by decide +kernel)
set_option maxRecDepth 10000 in
theorem eL_law_593 : (593, Instr.aload_n 0, 1, 0, 0, 0) ∈ kL_law := List.mem_of_getElem? (i := 381) (by decide +kernel)
set_option maxRecDepth 10000 in
theorem eL_law_594 : (594, Instr.iload_n 3, 1, 0, 0, 0) ∈ kL_law := List.mem_of_getElem? (i := 382) (by decide +kernel)
set_option maxRecDepth 10000 in
theorem eL_law_595 : (595, Instr.iconst 1, 1, 0, 0, 0) ∈ kL_law := List.mem_of_getElem? (i := 383) (by decide +kernel)
set_option maxRecDepth 10000 in
theorem eL_law_596 : (596, Instr.iadd, 1, 0, 0, 0) ∈ kL_law := List.mem_of_getElem? (i := 384) (by decide +kernel)
set_option maxRecDepth 10000 in
theorem eL_law_597 : (597, Instr.iaload, 1, 0, 0, 0) ∈ kL_law := List.mem_of_getElem? (i := 385) (by decide +kernel)
set_option maxRecDepth 10000 in
theorem eL_law_598 : (598, Instr.invokevirtual 67, 3, 107, 1, 787) ∈ kL_law := List.mem_of_getElem? (i := 386) (by decide +kernel)
set_option maxRecDepth 10000 in
theorem eL_law_601 : (601, Instr.if_icmp .eq 278, 3, 879, 0, 0) ∈ kL_law := List.mem_of_getElem? (i := 387) (by decide +kernel)
set_option maxRecDepth 10000 in
theorem eL_law_604 : (604, Instr.iconst 0, 1, 0, 0, 0) ∈ kL_law := List.mem_of_getElem? (i := 388) (by decide +kernel)
set_option maxRecDepth 10000 in
theorem eL_law_605 : (605, Instr.ireturn, 1, 1, 0, 0) ∈ kL_law := List.mem_of_getElem? (i := 389) (by decide +kernel)
set_option maxRecDepth 10000 in
theorem eL_law_606 : (606, Instr.aload_n 1, 1, 0, 0, 0) ∈ kL_law := List.mem_of_getElem? (i := 390) (by decide +kernel)
set_option maxRecDepth 10000 in
theorem eL_law_607 : (607, Instr.invokevirtual 68, 3, 38, 0, 453) ∈ kL_law := List.mem_of_getElem? (i := 391) (by decide +kernel)
set_option maxRecDepth 10000 in
theorem eL_law_610 : (610, Instr.aload_n 2, 1, 0, 0, 0) ∈ kL_law := List.mem_of_getElem? (i := 392) (by decide +kernel)
set_option maxRecDepth 10000 in
theorem eL_law_611 : (611, Instr.invokevirtual 71, 3, 108, 0, 799) ∈ kL_law := List.mem_of_getElem? (i := 393) (by decide +kernel)
set_option maxRecDepth 10000 in
theorem eL_law_614 : (614, Instr.if_icmp .eq 265, 3, 879, 0, 0) ∈ kL_law := List.mem_of_getElem? (i := 394) (by decide +kernel)
set_option maxRecDepth 10000 in
theorem eL_law_617 : (617, Instr.iconst 0, 1, 0, 0, 0) ∈ kL_law := List.mem_of_getElem? (i := 395) (by decide +kernel)
set_option maxRecDepth 10000 in
theorem eL_law_618 : (618, Instr.ireturn, 1, 1, 0, 0) ∈ kL_law := List.mem_of_getElem? (i := 396) (by decide +kernel)
set_option maxRecDepth 10000 in
theorem eL_law_619 : (619, Instr.aload_n 1, 1, 0, 0, 0) ∈ kL_law := List.mem_of_getElem? (i := 397) (by decide +kernel)
set_option maxRecDepth 10000 in
theorem eL_law_620 : (620, Instr.aload_n 0, 1, 0, 0, 0) ∈ kL_law := List.mem_of_getElem? (i := 398) (by decide +kernel)
set_option maxRecDepth 10000 in
theorem eL_law_621 : (621, Instr.iload_n 3, 1, 0, 0, 0) ∈ kL_law := List.mem_of_getElem? (i := 399) (by decide +kernel)
set_option maxRecDepth 10000 in
theorem eL_law_622 : (622, Instr.iconst 1, 1, 0, 0, 0) ∈ kL_law := List.mem_of_getElem? (i := 400) (by decide +kernel)
set_option maxRecDepth 10000 in
theorem eL_law_623 : (623, Instr.iadd, 1, 0, 0, 0) ∈ kL_law := List.mem_of_getElem? (i := 401) (by decide +kernel)
set_option maxRecDepth 10000 in
theorem eL_law_624 : (624, Instr.iaload, 1, 0, 0, 0) ∈ kL_law := List.mem_of_getElem? (i := 402) (by decide +kernel)
set_option maxRecDepth 10000 in
theorem eL_law_625 : (625, Instr.invokevirtual 72, 3, 39, 1, 462) ∈ kL_law := List.mem_of_getElem? (i := 403) (by decide +kernel)
set_option maxRecDepth 10000 in
theorem eL_law_628 : (628, Instr.aload_n 2, 1, 0, 0, 0) ∈ kL_law := List.mem_of_getElem? (i := 404) (by decide +kernel)
set_option maxRecDepth 10000 in
theorem eL_law_629 : (629, Instr.aload_n 0, 1, 0, 0, 0) ∈ kL_law := List.mem_of_getElem? (i := 405) (by decide +kernel)
set_option maxRecDepth 10000 in
theorem eL_law_630 : (630, Instr.iload_n 3, 1, 0, 0, 0) ∈ kL_law := List.mem_of_getElem? (i := 406) (by decide +kernel)
set_option maxRecDepth 10000 in
theorem eL_law_631 : (631, Instr.iconst 1, 1, 0, 0, 0) ∈ kL_law := List.mem_of_getElem? (i := 407) (by decide +kernel)
set_option maxRecDepth 10000 in
theorem eL_law_632 : (632, Instr.iadd, 1, 0, 0, 0) ∈ kL_law := List.mem_of_getElem? (i := 408) (by decide +kernel)
set_option maxRecDepth 10000 in
theorem eL_law_633 : (633, Instr.iaload, 1, 0, 0, 0) ∈ kL_law := List.mem_of_getElem? (i := 409) (by decide +kernel)
set_option maxRecDepth 10000 in
theorem eL_law_634 : (634, Instr.invokevirtual 75, 3, 109, 1, 803) ∈ kL_law := List.mem_of_getElem? (i := 410) (by decide +kernel)
set_option maxRecDepth 10000 in
theorem eL_law_637 : (637, Instr.if_icmp .eq 242, 3, 879, 0, 0) ∈ kL_law := List.mem_of_getElem? (i := 411) (by decide +kernel)
set_option maxRecDepth 10000 in
theorem eL_law_640 : (640, Instr.iconst 0, 1, 0, 0, 0) ∈ kL_law := List.mem_of_getElem? (i := 412) (by decide +kernel)
set_option maxRecDepth 10000 in
theorem eL_law_641 : (641, Instr.ireturn, 1, 1, 0, 0) ∈ kL_law := List.mem_of_getElem? (i := 413) (by decide +kernel)
set_option maxRecDepth 10000 in
theorem eL_law_642 : (642, Instr.aload_n 1, 1, 0, 0, 0) ∈ kL_law := List.mem_of_getElem? (i := 414) (by decide +kernel)
set_option maxRecDepth 10000 in
theorem eL_law_643 : (643, Instr.invokevirtual 76, 3, 40, 0, 478) ∈ kL_law := List.mem_of_getElem? (i := 415) (by decide +kernel)
set_option maxRecDepth 10000 in
theorem eL_law_646 : (646, Instr.aload_n 2, 1, 0, 0, 0) ∈ kL_law := List.mem_of_getElem? (i := 416) (by decide +kernel)
set_option maxRecDepth 10000 in
theorem eL_law_647 : (647, Instr.invokevirtual 79, 3, 110, 0, 807) ∈ kL_law := List.mem_of_getElem? (i := 417) (by decide +kernel)
set_option maxRecDepth 10000 in
theorem eL_law_650 : (650, Instr.if_icmp .eq 229, 3, 879, 0, 0) ∈ kL_law := List.mem_of_getElem? (i := 418) (by decide +kernel)
set_option maxRecDepth 10000 in
theorem eL_law_653 : (653, Instr.iconst 0, 1, 0, 0, 0) ∈ kL_law := List.mem_of_getElem? (i := 419) (by decide +kernel)
set_option maxRecDepth 10000 in
theorem eL_law_654 : (654, Instr.ireturn, 1, 1, 0, 0) ∈ kL_law := List.mem_of_getElem? (i := 420) (by decide +kernel)
set_option maxRecDepth 10000 in
theorem eL_law_655 : (655, Instr.aload_n 1, 1, 0, 0, 0) ∈ kL_law := List.mem_of_getElem? (i := 421) (by decide +kernel)
set_option maxRecDepth 10000 in
theorem eL_law_656 : (656, Instr.aload_n 0, 1, 0, 0, 0) ∈ kL_law := List.mem_of_getElem? (i := 422) (by decide +kernel)
set_option maxRecDepth 10000 in
theorem eL_law_657 : (657, Instr.iload_n 3, 1, 0, 0, 0) ∈ kL_law := List.mem_of_getElem? (i := 423) (by decide +kernel)
set_option maxRecDepth 10000 in
theorem eL_law_658 : (658, Instr.iconst 1, 1, 0, 0, 0) ∈ kL_law := List.mem_of_getElem? (i := 424) (by decide +kernel)
set_option maxRecDepth 10000 in
theorem eL_law_659 : (659, Instr.iadd, 1, 0, 0, 0) ∈ kL_law := List.mem_of_getElem? (i := 425) (by decide +kernel)
set_option maxRecDepth 10000 in
theorem eL_law_660 : (660, Instr.iaload, 1, 0, 0, 0) ∈ kL_law := List.mem_of_getElem? (i := 426) (by decide +kernel)
set_option maxRecDepth 10000 in
theorem eL_law_661 : (661, Instr.aload_n 0, 1, 0, 0, 0) ∈ kL_law := List.mem_of_getElem? (i := 427) (by decide +kernel)
set_option maxRecDepth 10000 in
theorem eL_law_662 : (662, Instr.iload_n 3, 1, 0, 0, 0) ∈ kL_law := List.mem_of_getElem? (i := 428) (by decide +kernel)
set_option maxRecDepth 10000 in
theorem eL_law_663 : (663, Instr.iconst 2, 1, 0, 0, 0) ∈ kL_law := List.mem_of_getElem? (i := 429) (by decide +kernel)
set_option maxRecDepth 10000 in
theorem eL_law_664 : (664, Instr.iadd, 1, 0, 0, 0) ∈ kL_law := List.mem_of_getElem? (i := 430) (by decide +kernel)
set_option maxRecDepth 10000 in
theorem eL_law_665 : (665, Instr.iaload, 1, 0, 0, 0) ∈ kL_law := List.mem_of_getElem? (i := 431) (by decide +kernel)
set_option maxRecDepth 10000 in
theorem eL_law_666 : (666, Instr.invokevirtual 80, 3, 41, 2, 510) ∈ kL_law := List.mem_of_getElem? (i := 432) (by decide +kernel)
set_option maxRecDepth 10000 in
theorem eL_law_669 : (669, Instr.aload_n 2, 1, 0, 0, 0) ∈ kL_law := List.mem_of_getElem? (i := 433) (by decide +kernel)
set_option maxRecDepth 10000 in
theorem eL_law_670 : (670, Instr.aload_n 0, 1, 0, 0, 0) ∈ kL_law := List.mem_of_getElem? (i := 434) (by decide +kernel)
set_option maxRecDepth 10000 in
theorem eL_law_671 : (671, Instr.iload_n 3, 1, 0, 0, 0) ∈ kL_law := List.mem_of_getElem? (i := 435) (by decide +kernel)
set_option maxRecDepth 10000 in
theorem eL_law_672 : (672, Instr.iconst 1, 1, 0, 0, 0) ∈ kL_law := List.mem_of_getElem? (i := 436) (by decide +kernel)
set_option maxRecDepth 10000 in
theorem eL_law_673 : (673, Instr.iadd, 1, 0, 0, 0) ∈ kL_law := List.mem_of_getElem? (i := 437) (by decide +kernel)
set_option maxRecDepth 10000 in
theorem eL_law_674 : (674, Instr.iaload, 1, 0, 0, 0) ∈ kL_law := List.mem_of_getElem? (i := 438) (by decide +kernel)
set_option maxRecDepth 10000 in
theorem eL_law_675 : (675, Instr.aload_n 0, 1, 0, 0, 0) ∈ kL_law := List.mem_of_getElem? (i := 439) (by decide +kernel)
set_option maxRecDepth 10000 in
theorem eL_law_676 : (676, Instr.iload_n 3, 1, 0, 0, 0) ∈ kL_law := List.mem_of_getElem? (i := 440) (by decide +kernel)
set_option maxRecDepth 10000 in
theorem eL_law_677 : (677, Instr.iconst 2, 1, 0, 0, 0) ∈ kL_law := List.mem_of_getElem? (i := 441) (by decide +kernel)
set_option maxRecDepth 10000 in
theorem eL_law_678 : (678, Instr.iadd, 1, 0, 0, 0) ∈ kL_law := List.mem_of_getElem? (i := 442) (by decide +kernel)
set_option maxRecDepth 10000 in
theorem eL_law_679 : (679, Instr.iaload, 1, 0, 0, 0) ∈ kL_law := List.mem_of_getElem? (i := 443) (by decide +kernel)
set_option maxRecDepth 10000 in
theorem eL_law_680 : (680, Instr.invokevirtual 84, 3, 111, 2, 811) ∈ kL_law := List.mem_of_getElem? (i := 444) (by decide +kernel)
set_option maxRecDepth 10000 in
theorem eL_law_683 : (683, Instr.if_icmp .eq 196, 3, 879, 0, 0) ∈ kL_law := List.mem_of_getElem? (i := 445) (by decide +kernel)
set_option maxRecDepth 10000 in
theorem eL_law_686 : (686, Instr.iconst 0, 1, 0, 0, 0) ∈ kL_law := List.mem_of_getElem? (i := 446) (by decide +kernel)
set_option maxRecDepth 10000 in
theorem eL_law_687 : (687, Instr.ireturn, 1, 1, 0, 0) ∈ kL_law := List.mem_of_getElem? (i := 447) (by decide +kernel)
set_option maxRecDepth 10000 in
theorem eL_law_688 : (688, Instr.aload_n 1, 1, 0, 0, 0) ∈ kL_law := List.mem_of_getElem? (i := 448) (by decide +kernel)
set_option maxRecDepth 10000 in
theorem eL_law_689 : (689, Instr.aload_n 0, 1, 0, 0, 0) ∈ kL_law := List.mem_of_getElem? (i := 449) (by decide +kernel)
set_option maxRecDepth 10000 in
theorem eL_law_690 : (690, Instr.iload_n 3, 1, 0, 0, 0) ∈ kL_law := List.mem_of_getElem? (i := 450) (by decide +kernel)
set_option maxRecDepth 10000 in
theorem eL_law_691 : (691, Instr.iconst 1, 1, 0, 0, 0) ∈ kL_law := List.mem_of_getElem? (i := 451) (by decide +kernel)
set_option maxRecDepth 10000 in
theorem eL_law_692 : (692, Instr.iadd, 1, 0, 0, 0) ∈ kL_law := List.mem_of_getElem? (i := 452) (by decide +kernel)
set_option maxRecDepth 10000 in
theorem eL_law_693 : (693, Instr.iaload, 1, 0, 0, 0) ∈ kL_law := List.mem_of_getElem? (i := 453) (by decide +kernel)
set_option maxRecDepth 10000 in
theorem eL_law_694 : (694, Instr.invokevirtual 85, 3, 42, 1, 514) ∈ kL_law := List.mem_of_getElem? (i := 454) (by decide +kernel)
set_option maxRecDepth 10000 in
theorem eL_law_697 : (697, Instr.aload_n 2, 1, 0, 0, 0) ∈ kL_law := List.mem_of_getElem? (i := 455) (by decide +kernel)
set_option maxRecDepth 10000 in
theorem eL_law_698 : (698, Instr.aload_n 0, 1, 0, 0, 0) ∈ kL_law := List.mem_of_getElem? (i := 456) (by decide +kernel)
set_option maxRecDepth 10000 in
theorem eL_law_699 : (699, Instr.iload_n 3, 1, 0, 0, 0) ∈ kL_law := List.mem_of_getElem? (i := 457) (by decide +kernel)
set_option maxRecDepth 10000 in
theorem eL_law_700 : (700, Instr.iconst 1, 1, 0, 0, 0) ∈ kL_law := List.mem_of_getElem? (i := 458) (by decide +kernel)
set_option maxRecDepth 10000 in
theorem eL_law_701 : (701, Instr.iadd, 1, 0, 0, 0) ∈ kL_law := List.mem_of_getElem? (i := 459) (by decide +kernel)
set_option maxRecDepth 10000 in
theorem eL_law_702 : (702, Instr.iaload, 1, 0, 0, 0) ∈ kL_law := List.mem_of_getElem? (i := 460) (by decide +kernel)
set_option maxRecDepth 10000 in
theorem eL_law_703 : (703, Instr.invokevirtual 88, 3, 112, 1, 815) ∈ kL_law := List.mem_of_getElem? (i := 461) (by decide +kernel)
set_option maxRecDepth 10000 in
theorem eL_law_706 : (706, Instr.if_icmp .eq 173, 3, 879, 0, 0) ∈ kL_law := List.mem_of_getElem? (i := 462) (by decide +kernel)
set_option maxRecDepth 10000 in
theorem eL_law_709 : (709, Instr.iconst 0, 1, 0, 0, 0) ∈ kL_law := List.mem_of_getElem? (i := 463) (by decide +kernel)
set_option maxRecDepth 10000 in
theorem eL_law_710 : (710, Instr.ireturn, 1, 1, 0, 0) ∈ kL_law := List.mem_of_getElem? (i := 464) (by decide +kernel)
set_option maxRecDepth 10000 in
theorem eL_law_711 : (711, Instr.aload_n 1, 1, 0, 0, 0) ∈ kL_law := List.mem_of_getElem? (i := 465) (by decide +kernel)
set_option maxRecDepth 10000 in
theorem eL_law_712 : (712, Instr.aload_n 0, 1, 0, 0, 0) ∈ kL_law := List.mem_of_getElem? (i := 466) (by decide +kernel)
set_option maxRecDepth 10000 in
theorem eL_law_713 : (713, Instr.iload_n 3, 1, 0, 0, 0) ∈ kL_law := List.mem_of_getElem? (i := 467) (by decide +kernel)
set_option maxRecDepth 10000 in
theorem eL_law_714 : (714, Instr.iconst 1, 1, 0, 0, 0) ∈ kL_law := List.mem_of_getElem? (i := 468) (by decide +kernel)
set_option maxRecDepth 10000 in
theorem eL_law_715 : (715, Instr.iadd, 1, 0, 0, 0) ∈ kL_law := List.mem_of_getElem? (i := 469) (by decide +kernel)
set_option maxRecDepth 10000 in
theorem eL_law_716 : (716, Instr.iaload, 1, 0, 0, 0) ∈ kL_law := List.mem_of_getElem? (i := 470) (by decide +kernel)
set_option maxRecDepth 10000 in
theorem eL_law_717 : (717, Instr.invokevirtual 89, 3, 43, 1, 519) ∈ kL_law := List.mem_of_getElem? (i := 471) (by decide +kernel)
set_option maxRecDepth 10000 in
theorem eL_law_720 : (720, Instr.aload_n 2, 1, 0, 0, 0) ∈ kL_law := List.mem_of_getElem? (i := 472) (by decide +kernel)
set_option maxRecDepth 10000 in
theorem eL_law_721 : (721, Instr.aload_n 0, 1, 0, 0, 0) ∈ kL_law := List.mem_of_getElem? (i := 473) (by decide +kernel)
set_option maxRecDepth 10000 in
theorem eL_law_722 : (722, Instr.iload_n 3, 1, 0, 0, 0) ∈ kL_law := List.mem_of_getElem? (i := 474) (by decide +kernel)
set_option maxRecDepth 10000 in
theorem eL_law_723 : (723, Instr.iconst 1, 1, 0, 0, 0) ∈ kL_law := List.mem_of_getElem? (i := 475) (by decide +kernel)
set_option maxRecDepth 10000 in
theorem eL_law_724 : (724, Instr.iadd, 1, 0, 0, 0) ∈ kL_law := List.mem_of_getElem? (i := 476) (by decide +kernel)
set_option maxRecDepth 10000 in
theorem eL_law_725 : (725, Instr.iaload, 1, 0, 0, 0) ∈ kL_law := List.mem_of_getElem? (i := 477) (by decide +kernel)
set_option maxRecDepth 10000 in
theorem eL_law_726 : (726, Instr.invokevirtual 93, 3, 113, 1, 819) ∈ kL_law := List.mem_of_getElem? (i := 478) (by decide +kernel)
set_option maxRecDepth 10000 in
theorem eL_law_729 : (729, Instr.if_icmp .eq 150, 3, 879, 0, 0) ∈ kL_law := List.mem_of_getElem? (i := 479) (by decide +kernel)
set_option maxRecDepth 10000 in
theorem eL_law_732 : (732, Instr.iconst 0, 1, 0, 0, 0) ∈ kL_law := List.mem_of_getElem? (i := 480) (by decide +kernel)
set_option maxRecDepth 10000 in
theorem eL_law_733 : (733, Instr.ireturn, 1, 1, 0, 0) ∈ kL_law := List.mem_of_getElem? (i := 481) (by decide +kernel)
set_option maxRecDepth 10000 in
theorem eL_law_734 : (734, Instr.aload_n 1, 1, 0, 0, 0) ∈ kL_law := List.mem_of_getElem? (i := 482) (by decide +kernel)
set_option maxRecDepth 10000 in
theorem eL_law_735 : (735, Instr.aload_n 0, 1, 0, 0, 0) ∈ kL_law := List.mem_of_getElem? (i := 483) (by decide +kernel)
set_option maxRecDepth 10000 in
theorem eL_law_736 : (736, Instr.iload_n 3, 1, 0, 0, 0) ∈ kL_law := List.mem_of_getElem? (i := 484) (by decide +kernel)
set_option maxRecDepth 10000 in
theorem eL_law_737 : (737, Instr.iconst 1, 1, 0, 0, 0) ∈ kL_law := List.mem_of_getElem? (i := 485) (by decide +kernel)
set_option maxRecDepth 10000 in
theorem eL_law_738 : (738, Instr.iadd, 1, 0, 0, 0) ∈ kL_law := List.mem_of_getElem? (i := 486) (by decide +kernel)
set_option maxRecDepth 10000 in
theorem eL_law_739 : (739, Instr.iaload, 1, 0, 0, 0) ∈ kL_law := List.mem_of_getElem? (i := 487) (by decide +kernel)
set_option maxRecDepth 10000 in
theorem eL_law_740 : (740, Instr.invokevirtual 94, 3, 44, 1, 527) ∈ kL_law := List.mem_of_getElem? (i := 488) (by decide +kernel)
set_option maxRecDepth 10000 in
theorem eL_law_743 : (743, Instr.aload_n 2, 1, 0, 0, 0) ∈ kL_law := List.mem_of_getElem? (i := 489) (by decide +kernel)
set_option maxRecDepth 10000 in
theorem eL_law_744 : (744, Instr.aload_n 0, 1, 0, 0, 0) ∈ kL_law := List.mem_of_getElem? (i := 490) (by decide +kernel)
set_option maxRecDepth 10000 in
theorem eL_law_745 : (745, Instr.iload_n 3, 1, 0, 0, 0) ∈ kL_law := List.mem_of_getElem? (i := 491) (by decide +kernel)
set_option maxRecDepth 10000 in
theorem eL_law_746 : (746, Instr.iconst 1, 1, 0, 0, 0) ∈ kL_law := List.mem_of_getElem? (i := 492) (by decide +kernel)
set_option maxRecDepth 10000 in
theorem eL_law_747 : (747, Instr.iadd, 1, 0, 0, 0) ∈ kL_law := List.mem_of_getElem? (i := 493) (by decide +kernel)
set_option maxRecDepth 10000 in
theorem eL_law_748 : (748, Instr.iaload, 1, 0, 0, 0) ∈ kL_law := List.mem_of_getElem? (i := 494) (by decide +kernel)
set_option maxRecDepth 10000 in
theorem eL_law_749 : (749, Instr.invokevirtual 97, 3, 114, 1, 823) ∈ kL_law := List.mem_of_getElem? (i := 495) (by decide +kernel)
set_option maxRecDepth 10000 in
theorem eL_law_752 : (752, Instr.if_icmp .eq 127, 3, 879, 0, 0) ∈ kL_law := List.mem_of_getElem? (i := 496) (by decide +kernel)
set_option maxRecDepth 10000 in
theorem eL_law_755 : (755, Instr.iconst 0, 1, 0, 0, 0) ∈ kL_law := List.mem_of_getElem? (i := 497) (by decide +kernel)
set_option maxRecDepth 10000 in
theorem eL_law_756 : (756, Instr.ireturn, 1, 1, 0, 0) ∈ kL_law := List.mem_of_getElem? (i := 498) (by decide +kernel)
set_option maxRecDepth 10000 in
theorem eL_law_757 : (757, Instr.aload_n 1, 1, 0, 0, 0) ∈ kL_law := List.mem_of_getElem? (i := 499) (by decide +kernel)
set_option maxRecDepth 10000 in
theorem eL_law_758 : (758, Instr.aload_n 0, 1, 0, 0, 0) ∈ kL_law := List.mem_of_getElem? (i := 500) (by decide +kernel)
set_option maxRecDepth 10000 in
theorem eL_law_759 : (759, Instr.iload_n 3, 1, 0, 0, 0) ∈ kL_law := List.mem_of_getElem? (i := 501) (by decide +kernel)
set_option maxRecDepth 10000 in
theorem eL_law_760 : (760, Instr.iconst 1, 1, 0, 0, 0) ∈ kL_law := List.mem_of_getElem? (i := 502) (by decide +kernel)
set_option maxRecDepth 10000 in
theorem eL_law_761 : (761, Instr.iadd, 1, 0, 0, 0) ∈ kL_law := List.mem_of_getElem? (i := 503) (by decide +kernel)
set_option maxRecDepth 10000 in
theorem eL_law_762 : (762, Instr.iaload, 1, 0, 0, 0) ∈ kL_law := List.mem_of_getElem? (i := 504) (by decide +kernel)
set_option maxRecDepth 10000 in
theorem eL_law_763 : (763, Instr.aload_n 0, 1, 0, 0, 0) ∈ kL_law := List.mem_of_getElem? (i := 505) (by decide +kernel)
set_option maxRecDepth 10000 in
theorem eL_law_764 : (764, Instr.iload_n 3, 1, 0, 0, 0) ∈ kL_law := List.mem_of_getElem? (i := 506) (by decide +kernel)
set_option maxRecDepth 10000 in
theorem eL_law_765 : (765, Instr.iconst 2, 1, 0, 0, 0) ∈ kL_law := List.mem_of_getElem? (i := 507) (by decide +kernel)
set_option maxRecDepth 10000 in
theorem eL_law_766 : (766, Instr.iadd, 1, 0, 0, 0) ∈ kL_law := List.mem_of_getElem? (i := 508) (by decide +kernel)
set_option maxRecDepth 10000 in
theorem eL_law_767 : (767, Instr.iaload, 1, 0, 0, 0) ∈ kL_law := List.mem_of_getElem? (i := 509) (by decide +kernel)
set_option maxRecDepth 10000 in
theorem eL_law_768 : (768, Instr.invokevirtual 98, 3, 45, 2, 531) ∈ kL_law := List.mem_of_getElem? (i := 510) (by decide +kernel)
set_option maxRecDepth 10000 in
theorem eL_law_771 : (771, Instr.aload_n 2, 1, 0, 0, 0) ∈ kL_law := List.mem_of_getElem? (i := 511) (by decide +kernel)
set_option maxRecDepth 10000 in
theorem eL_law_772 : (772, Instr.aload_n 0, 1, 0, 0, 0) ∈ kL_law := List.mem_of_getElem? (i := 512) (by decide +kernel)
set_option maxRecDepth 10000 in
theorem eL_law_773 : (773, Instr.iload_n 3, 1, 0, 0, 0) ∈ kL_law := List.mem_of_getElem? (i := 513) (by decide +kernel)
set_option maxRecDepth 10000 in
theorem eL_law_774 : (774, Instr.iconst 1, 1, 0, 0, 0) ∈ kL_law := List.mem_of_getElem? (i := 514) (by decide +kernel)
set_option maxRecDepth 10000 in
theorem eL_law_775 : (775, Instr.iadd, 1, 0, 0, 0) ∈ kL_law := List.mem_of_getElem? (i := 515) (by decide +kernel)
set_option maxRecDepth 10000 in
theorem eL_law_776 : (776, Instr.iaload, 1, 0, 0, 0) ∈ kL_law := List.mem_of_getElem? (i := 516) (by decide +kernel)
set_option maxRecDepth 10000 in
theorem eL_law_777 : (777, Instr.aload_n 0, 1, 0, 0, 0) ∈ kL_law := List.mem_of_getElem? (i := 517) (by decide +kernel)
set_option maxRecDepth 10000 in
theorem eL_law_778 : (778, Instr.iload_n 3, 1, 0, 0, 0) ∈ kL_law := List.mem_of_getElem? (i := 518) (by decide +kernel)
set_option maxRecDepth 10000 in
theorem eL_law_779 : (779, Instr.iconst 2, 1, 0, 0, 0) ∈ kL_law := List.mem_of_getElem? (i := 519) (by decide +kernel)
set_option maxRecDepth 10000 in
theorem eL_law_780 : (780, Instr.iadd, 1, 0, 0, 0) ∈ kL_law := List.mem_of_getElem? (i := 520) (by decide +kernel)
set_option maxRecDepth 10000 in
theorem eL_law_781 : (781, Instr.iaload, 1, 0, 0, 0) ∈ kL_law := List.mem_of_getElem? (i := 521) (by decide +kernel)
set_option maxRecDepth 10000 in
theorem eL_law_782 : (782, Instr.invokevirtual 101, 3, 115, 2, 827) ∈ kL_law := List.mem_of_getElem? (i := 522) (by decide +kernel)
set_option maxRecDepth 10000 in
theorem eL_law_785 : (785, Instr.if_icmp .eq 94, 3, 879, 0, 0) ∈ kL_law := List.mem_of_getElem? (i := 523) (by decide +kernel)
set_option maxRecDepth 10000 in
theorem eL_law_788 : (788, Instr.iconst 0, 1, 0, 0, 0) ∈ kL_law := List.mem_of_getElem? (i := 524) (by decide +kernel)
set_option maxRecDepth 10000 in
theorem eL_law_789 : (789, Instr.ireturn, 1, 1, 0, 0) ∈ kL_law := List.mem_of_getElem? (i := 525) (by decide +kernel)
set_option maxRecDepth 10000 in
theorem eL_law_790 : (790, Instr.aload_n 1, 1, 0, 0, 0) ∈ kL_law := List.mem_of_getElem? (i := 526) (by decide +kernel)
set_option maxRecDepth 10000 in
theorem eL_law_791 : (791, Instr.aload_n 0, 1, 0, 0, 0) ∈ kL_law := List.mem_of_getElem? (i := 527) (by decide +kernel)
set_option maxRecDepth 10000 in
theorem eL_law_792 : (792, Instr.iload_n 3, 1, 0, 0, 0) ∈ kL_law := List.mem_of_getElem? (i := 528) (by decide +kernel)
set_option maxRecDepth 10000 in
theorem eL_law_793 : (793, Instr.iconst 1, 1, 0, 0, 0) ∈ kL_law := List.mem_of_getElem? (i := 529) (by decide +kernel)
set_option maxRecDepth 10000 in
theorem eL_law_794 : (794, Instr.iadd, 1, 0, 0, 0) ∈ kL_law := List.mem_of_getElem? (i := 530) (by decide +kernel)
set_option maxRecDepth 10000 in
theorem eL_law_795 : (795, Instr.iaload, 1, 0, 0, 0) ∈ kL_law := List.mem_of_getElem? (i := 531) (by decide +kernel)
set_option maxRecDepth 10000 in
theorem eL_law_796 : (796, Instr.aload_n 0, 1, 0, 0, 0) ∈ kL_law := List.mem_of_getElem? (i := 532) (by decide +kernel)
set_option maxRecDepth 10000 in
theorem eL_law_797 : (797, Instr.iload_n 3, 1, 0, 0, 0) ∈ kL_law := List.mem_of_getElem? (i := 533) (by decide +kernel)
set_option maxRecDepth 10000 in
theorem eL_law_798 : (798, Instr.iconst 2, 1, 0, 0, 0) ∈ kL_law := List.mem_of_getElem? (i := 534) (by decide +kernel)
set_option maxRecDepth 10000 in
theorem eL_law_799 : (799, Instr.iadd, 1, 0, 0, 0) ∈ kL_law := List.mem_of_getElem? (i := 535) (by decide +kernel)
set_option maxRecDepth 10000 in
theorem eL_law_800 : (800, Instr.iaload, 1, 0, 0, 0) ∈ kL_law := List.mem_of_getElem? (i := 536) (by decide +kernel)
set_option maxRecDepth 10000 in
theorem eL_law_801 : (801, Instr.invokevirtual 102, 3, 46, 2, 538) ∈ kL_law := List.mem_of_getElem? (i := 537) (by decide +kernel)
set_option maxRecDepth 10000 in
theorem eL_law_804 : (804, Instr.aload_n 2, 1, 0, 0, 0) ∈ kL_law := List.mem_of_getElem? (i := 538) (by decide +kernel)
set_option maxRecDepth 10000 in
theorem eL_law_805 : (805, Instr.aload_n 0, 1, 0, 0, 0) ∈ kL_law := List.mem_of_getElem? (i := 539) (by decide +kernel)
set_option maxRecDepth 10000 in
theorem eL_law_806 : (806, Instr.iload_n 3, 1, 0, 0, 0) ∈ kL_law := List.mem_of_getElem? (i := 540) (by decide +kernel)
set_option maxRecDepth 10000 in
theorem eL_law_807 : (807, Instr.iconst 1, 1, 0, 0, 0) ∈ kL_law := List.mem_of_getElem? (i := 541) (by decide +kernel)
set_option maxRecDepth 10000 in
theorem eL_law_808 : (808, Instr.iadd, 1, 0, 0, 0) ∈ kL_law := List.mem_of_getElem? (i := 542) (by decide +kernel)
set_option maxRecDepth 10000 in
theorem eL_law_809 : (809, Instr.iaload, 1, 0, 0, 0) ∈ kL_law := List.mem_of_getElem? (i := 543) (by decide +kernel)
set_option maxRecDepth 10000 in
theorem eL_law_810 : (810, Instr.aload_n 0, 1, 0, 0, 0) ∈ kL_law := List.mem_of_getElem? (i := 544) (by decide +kernel)
set_option maxRecDepth 10000 in
theorem eL_law_811 : (811, Instr.iload_n 3, 1, 0, 0, 0) ∈ kL_law := List.mem_of_getElem? (i := 545) (by decide +kernel)
set_option maxRecDepth 10000 in
theorem eL_law_812 : (812, Instr.iconst 2, 1, 0, 0, 0) ∈ kL_law := List.mem_of_getElem? (i := 546) (by decide +kernel)
set_option maxRecDepth 10000 in
theorem eL_law_813 : (813, Instr.iadd, 1, 0, 0, 0) ∈ kL_law := List.mem_of_getElem? (i := 547) (by decide +kernel)
set_option maxRecDepth 10000 in
theorem eL_law_814 : (814, Instr.iaload, 1, 0, 0, 0) ∈ kL_law := List.mem_of_getElem? (i := 548) (by decide +kernel)
set_option maxRecDepth 10000 in
theorem eL_law_815 : (815, Instr.invokevirtual 105, 3, 116, 2, 831) ∈ kL_law := List.mem_of_getElem? (i := 549) (by decide +kernel)
set_option maxRecDepth 10000 in
theorem eL_law_818 : (818, Instr.if_icmp .eq 61, 3, 879, 0, 0) ∈ kL_law := List.mem_of_getElem? (i := 550) (by decide +kernel)
set_option maxRecDepth 10000 in
theorem eL_law_821 : (821, Instr.iconst 0, 1, 0, 0, 0) ∈ kL_law := List.mem_of_getElem? (i := 551) (by decide +kernel)
set_option maxRecDepth 10000 in
theorem eL_law_822 : (822, Instr.ireturn, 1, 1, 0, 0) ∈ kL_law := List.mem_of_getElem? (i := 552) (by decide +kernel)
set_option maxRecDepth 10000 in
theorem eL_law_823 : (823, Instr.aload_n 1, 1, 0, 0, 0) ∈ kL_law := List.mem_of_getElem? (i := 553) (by decide +kernel)
set_option maxRecDepth 10000 in
theorem eL_law_824 : (824, Instr.aload_n 0, 1, 0, 0, 0) ∈ kL_law := List.mem_of_getElem? (i := 554) (by decide +kernel)
set_option maxRecDepth 10000 in
theorem eL_law_825 : (825, Instr.iload_n 3, 1, 0, 0, 0) ∈ kL_law := List.mem_of_getElem? (i := 555) (by decide +kernel)
set_option maxRecDepth 10000 in
theorem eL_law_826 : (826, Instr.iconst 1, 1, 0, 0, 0) ∈ kL_law := List.mem_of_getElem? (i := 556) (by decide +kernel)
set_option maxRecDepth 10000 in
theorem eL_law_827 : (827, Instr.iadd, 1, 0, 0, 0) ∈ kL_law := List.mem_of_getElem? (i := 557) (by decide +kernel)
set_option maxRecDepth 10000 in
theorem eL_law_828 : (828, Instr.iaload, 1, 0, 0, 0) ∈ kL_law := List.mem_of_getElem? (i := 558) (by decide +kernel)
set_option maxRecDepth 10000 in
theorem eL_law_829 : (829, Instr.aload_n 0, 1, 0, 0, 0) ∈ kL_law := List.mem_of_getElem? (i := 559) (by decide +kernel)
set_option maxRecDepth 10000 in
theorem eL_law_830 : (830, Instr.iload_n 3, 1, 0, 0, 0) ∈ kL_law := List.mem_of_getElem? (i := 560) (by decide +kernel)
set_option maxRecDepth 10000 in
theorem eL_law_831 : (831, Instr.iconst 2, 1, 0, 0, 0) ∈ kL_law := List.mem_of_getElem? (i := 561) (by decide +kernel)
set_option maxRecDepth 10000 in
theorem eL_law_832 : (832, Instr.iadd, 1, 0, 0, 0) ∈ kL_law := List.mem_of_getElem? (i := 562) (by decide +kernel)
set_option maxRecDepth 10000 in
theorem eL_law_833 : (833, Instr.iaload, 1, 0, 0, 0) ∈ kL_law := List.mem_of_getElem? (i := 563) (by decide +kernel)
set_option maxRecDepth 10000 in
theorem eL_law_834 : (834, Instr.invokevirtual 106, 3, 47, 2, 547) ∈ kL_law := List.mem_of_getElem? (i := 564) (by decide +kernel)
set_option maxRecDepth 10000 in
theorem eL_law_837 : (837, Instr.aload_n 2, 1, 0, 0, 0) ∈ kL_law := List.mem_of_getElem? (i := 565) (by decide +kernel)
set_option maxRecDepth 10000 in
theorem eL_law_838 : (838, Instr.aload_n 0, 1, 0, 0, 0) ∈ kL_law := List.mem_of_getElem? (i := 566) (by decide +kernel)
set_option maxRecDepth 10000 in
theorem eL_law_839 : (839, Instr.iload_n 3, 1, 0, 0, 0) ∈ kL_law := List.mem_of_getElem? (i := 567) (by decide +kernel)
set_option maxRecDepth 10000 in
theorem eL_law_840 : (840, Instr.iconst 1, 1, 0, 0, 0) ∈ kL_law := List.mem_of_getElem? (i := 568) (by decide +kernel)
set_option maxRecDepth 10000 in
theorem eL_law_841 : (841, Instr.iadd, 1, 0, 0, 0) ∈ kL_law := List.mem_of_getElem? (i := 569) (by decide +kernel)
set_option maxRecDepth 10000 in
theorem eL_law_842 : (842, Instr.iaload, 1, 0, 0, 0) ∈ kL_law := List.mem_of_getElem? (i := 570) (by decide +kernel)
set_option maxRecDepth 10000 in
theorem eL_law_843 : (843, Instr.aload_n 0, 1, 0, 0, 0) ∈ kL_law := List.mem_of_getElem? (i := 571) (by decide +kernel)
set_option maxRecDepth 10000 in
theorem eL_law_844 : (844, Instr.iload_n 3, 1, 0, 0, 0) ∈ kL_law := List.mem_of_getElem? (i := 572) (by decide +kernel)
set_option maxRecDepth 10000 in
theorem eL_law_845 : (845, Instr.iconst 2, 1, 0, 0, 0) ∈ kL_law := List.mem_of_getElem? (i := 573) (by decide +kernel)
set_option maxRecDepth 10000 in
theorem eL_law_846 : (846, Instr.iadd, 1, 0, 0, 0) ∈ kL_law := List.mem_of_getElem? (i := 574) (by decide +kernel)
set_option maxRecDepth 10000 in
theorem eL_law_847 : (847, Instr.iaload, 1, 0, 0, 0) ∈ kL_law := List.mem_of_getElem? (i := 575) (by decide +kernel)
set_option maxRecDepth 10000 in
theorem eL_law_848 : (848, Instr.invokevirtual 109, 3, 117, 2, 835) ∈ kL_law := List.mem_of_getElem? (i := 576) (by decide +kernel)
set_option maxRecDepth 10000 in
theorem eL_law_851 : (851, Instr.if_icmp .eq 28, 3, 879, 0, 0) ∈ kL_law := List.mem_of_getElem? (i := 577) (by decide +kernel)
set_option maxRecDepth 10000 in
theorem eL_law_854 : (854, Instr.iconst 0, 1, 0, 0, 0) ∈ kL_law := List.mem_of_getElem? (i := 578) (by decide +kernel)
set_option maxRecDepth 10000 in
theorem eL_law_855 : (855, Instr.ireturn, 1, 1, 0, 0) ∈ kL_law := List.mem_of_getElem? (i := 579) (by decide +kernel)
set_option maxRecDepth 10000 in
theorem eL_law_856 : (856, Instr.aload_n 1, 1, 0, 0, 0) ∈ kL_law := List.mem_of_getElem? (i := 580) (by decide +kernel)
set_option maxRecDepth 10000 in
theorem eL_law_857 : (857, Instr.aload_n 0, 1, 0, 0, 0) ∈ kL_law := List.mem_of_getElem? (i := 581) (by decide +kernel)
set_option maxRecDepth 10000 in
theorem eL_law_858 : (858, Instr.iload_n 3, 1, 0, 0, 0) ∈ kL_law := List.mem_of_getElem? (i := 582) (by decide +kernel)
set_option maxRecDepth 10000 in
theorem eL_law_859 : (859, Instr.iconst 1, 1, 0, 0, 0) ∈ kL_law := List.mem_of_getElem? (i := 583) (by decide +kernel)
set_option maxRecDepth 10000 in
theorem eL_law_860 : (860, Instr.iadd, 1, 0, 0, 0) ∈ kL_law := List.mem_of_getElem? (i := 584) (by decide +kernel)
set_option maxRecDepth 10000 in
theorem eL_law_861 : (861, Instr.iaload, 1, 0, 0, 0) ∈ kL_law := List.mem_of_getElem? (i := 585) (by decide +kernel)
set_option maxRecDepth 10000 in
theorem eL_law_862 : (862, Instr.invokevirtual 110, 3, 48, 1, 551) ∈ kL_law := List.mem_of_getElem? (i := 586) (by decide +kernel)
set_option maxRecDepth 10000 in
theorem eL_law_865 : (865, Instr.aload_n 2, 1, 0, 0, 0) ∈ kL_law := List.mem_of_getElem? (i := 587) (by decide +kernel)
set_option maxRecDepth 10000 in
theorem eL_law_866 : (866, Instr.aload_n 0, 1, 0, 0, 0) ∈ kL_law := List.mem_of_getElem? (i := 588) (by decide +kernel)
set_option maxRecDepth 10000 in
theorem eL_law_867 : (867, Instr.iload_n 3, 1, 0, 0, 0) ∈ kL_law := List.mem_of_getElem? (i := 589) (by decide +kernel)
set_option maxRecDepth 10000 in
theorem eL_law_868 : (868, Instr.iconst 1, 1, 0, 0, 0) ∈ kL_law := List.mem_of_getElem? (i := 590) (by decide +kernel)
set_option maxRecDepth 10000 in
theorem eL_law_869 : (869, Instr.iadd, 1, 0, 0, 0) ∈ kL_law := List.mem_of_getElem? (i := 591) (by decide +kernel)
set_option maxRecDepth 10000 in
theorem eL_law_870 : (870, Instr.iaload, 1, 0, 0, 0) ∈ kL_law := List.mem_of_getElem? (i := 592) (by decide +kernel)
set_option maxRecDepth 10000 in
theorem eL_law_871 : (871, Instr.invokevirtual 113, 3, 118, 1, 839) ∈ kL_law := List.mem_of_getElem? (i := 593) (by decide +kernel)
set_option maxRecDepth 10000 in
theorem eL_law_874 : (874, Instr.if_icmp .eq 5, 3, 879, 0, 0) ∈ kL_law := List.mem_of_getElem? (i := 594) (by decide +kernel)
set_option maxRecDepth 10000 in
theorem eL_law_877 : (877, Instr.iconst 0, 1, 0, 0, 0) ∈ kL_law := List.mem_of_getElem? (i := 595) (by decide +kernel)
set_option maxRecDepth 10000 in
theorem eL_law_878 : (878, Instr.ireturn, 1, 1, 0, 0) ∈ kL_law := List.mem_of_getElem? (i := 596) (by decide +kernel)
set_option maxRecDepth 10000 in
theorem eL_law_879 : (879, Instr.iinc 3 7, 3, 0, 0, 0) ∈ kL_law := List.mem_of_getElem? (i := 597) (by decide +kernel)
set_option maxRecDepth 10000 in
theorem eL_law_882 : (882, Instr.goto (-864), 3, 18, 0, 0) ∈ kL_law := List.mem_of_getElem? (i := 598) (by decide +kernel)
set_option maxRecDepth 10000 in
theorem eL_law_885 : (885, Instr.iconst 1, 1, 0, 0, 0) ∈ kL_law := List.mem_of_getElem? (i := 599) (by decide +kernel)
set_option maxRecDepth 10000 in
theorem eL_law_886 : (886, Instr.ireturn, 1, 1, 0, 0) ∈ kL_law := List.mem_of_getElem? (i := 600) (by decide +kernel)
end
section
/-! THE REFERENCE'S CELLS: its object is cell 10, its arrays are cells 11 to 37; what it holds is S = the heap's ints -/
abbrev St : Type := Nat → Nat → Int32
abbrev md (x y : Int32) : Int32 := x - x / y * y
abbrev ab (x : Int32) : Int32 := if 0 ≤ x then x else 0 - x
abbrev mx (x y : Int32) : Int32 := if x < y then y else x
abbrev mn (x y : Int32) : Int32 := if y < x then y else x
def Ar (h : Hp) (a K N : Nat) : Prop := Ob h a K ∧ am_l h a = N
def mo_tab : List (Nat × Nat × Nat × Nat) := [(6, 11, 7, 12), (7, 12, 7, 12), (8, 13, 7, 12), (9, 14, 7, 12), (10, 15, 7, 12), (13, 16, 7, 16), (14, 17, 7, 16), (15, 18, 7, 16), (16, 19, 8, 16), (17, 20, 8, 16), (18, 21, 7, 120), (19, 22, 7, 120), (20, 23, 7, 120), (21, 24, 7, 120), (22, 25, 7, 120), (23, 26, 7, 120), (24, 27, 7, 120), (25, 28, 7, 120), (26, 29, 7, 120), (27, 30, 8, 120), (28, 31, 8, 120), (30, 32, 7, 160), (31, 33, 7, 40), (32, 34, 8, 40), (33, 35, 7, 6), (34, 36, 7, 6), (35, 37, 7, 16)]
def MOK (h : Hp) : Prop := 38 ≤ am_n h ∧ am_k h 10 = 6 ∧ ∀ q ∈ mo_tab, am_r h 10 q.1 = some q.2.1 ∧ am_k h q.2.1 = q.2.2.1 ∧ am_l h q.2.1 = q.2.2.2
theorem MOK.ob {h : Hp} (hM : MOK h) : Ob h 10 6 := ⟨by decide, Nat.lt_of_lt_of_le (by decide) hM.1, hM.2.1⟩
theorem MOK.r6 {h : Hp} (hM : MOK h) : am_r h 10 6 = some 11 := (hM.2.2 (6, 11, 7, 12) (by decide)).1
theorem MOK.a11 {h : Hp} (hM : MOK h) : Ar h 11 7 12 := ⟨⟨by decide, Nat.lt_of_lt_of_le (by decide) hM.1, (hM.2.2 (6, 11, 7, 12) (by decide)).2.1⟩, (hM.2.2 (6, 11, 7, 12) (by decide)).2.2⟩
theorem MOK.r7 {h : Hp} (hM : MOK h) : am_r h 10 7 = some 12 := (hM.2.2 (7, 12, 7, 12) (by decide)).1
theorem MOK.a12 {h : Hp} (hM : MOK h) : Ar h 12 7 12 := ⟨⟨by decide, Nat.lt_of_lt_of_le (by decide) hM.1, (hM.2.2 (7, 12, 7, 12) (by decide)).2.1⟩, (hM.2.2 (7, 12, 7, 12) (by decide)).2.2⟩
theorem MOK.r8 {h : Hp} (hM : MOK h) : am_r h 10 8 = some 13 := (hM.2.2 (8, 13, 7, 12) (by decide)).1
theorem MOK.a13 {h : Hp} (hM : MOK h) : Ar h 13 7 12 := ⟨⟨by decide, Nat.lt_of_lt_of_le (by decide) hM.1, (hM.2.2 (8, 13, 7, 12) (by decide)).2.1⟩, (hM.2.2 (8, 13, 7, 12) (by decide)).2.2⟩
theorem MOK.r9 {h : Hp} (hM : MOK h) : am_r h 10 9 = some 14 := (hM.2.2 (9, 14, 7, 12) (by decide)).1
theorem MOK.a14 {h : Hp} (hM : MOK h) : Ar h 14 7 12 := ⟨⟨by decide, Nat.lt_of_lt_of_le (by decide) hM.1, (hM.2.2 (9, 14, 7, 12) (by decide)).2.1⟩, (hM.2.2 (9, 14, 7, 12) (by decide)).2.2⟩
theorem MOK.r10 {h : Hp} (hM : MOK h) : am_r h 10 10 = some 15 := (hM.2.2 (10, 15, 7, 12) (by decide)).1
theorem MOK.a15 {h : Hp} (hM : MOK h) : Ar h 15 7 12 := ⟨⟨by decide, Nat.lt_of_lt_of_le (by decide) hM.1, (hM.2.2 (10, 15, 7, 12) (by decide)).2.1⟩, (hM.2.2 (10, 15, 7, 12) (by decide)).2.2⟩
theorem MOK.r13 {h : Hp} (hM : MOK h) : am_r h 10 13 = some 16 := (hM.2.2 (13, 16, 7, 16) (by decide)).1
theorem MOK.a16 {h : Hp} (hM : MOK h) : Ar h 16 7 16 := ⟨⟨by decide, Nat.lt_of_lt_of_le (by decide) hM.1, (hM.2.2 (13, 16, 7, 16) (by decide)).2.1⟩, (hM.2.2 (13, 16, 7, 16) (by decide)).2.2⟩
theorem MOK.r14 {h : Hp} (hM : MOK h) : am_r h 10 14 = some 17 := (hM.2.2 (14, 17, 7, 16) (by decide)).1
theorem MOK.a17 {h : Hp} (hM : MOK h) : Ar h 17 7 16 := ⟨⟨by decide, Nat.lt_of_lt_of_le (by decide) hM.1, (hM.2.2 (14, 17, 7, 16) (by decide)).2.1⟩, (hM.2.2 (14, 17, 7, 16) (by decide)).2.2⟩
theorem MOK.r15 {h : Hp} (hM : MOK h) : am_r h 10 15 = some 18 := (hM.2.2 (15, 18, 7, 16) (by decide)).1
theorem MOK.a18 {h : Hp} (hM : MOK h) : Ar h 18 7 16 := ⟨⟨by decide, Nat.lt_of_lt_of_le (by decide) hM.1, (hM.2.2 (15, 18, 7, 16) (by decide)).2.1⟩, (hM.2.2 (15, 18, 7, 16) (by decide)).2.2⟩
theorem MOK.r16 {h : Hp} (hM : MOK h) : am_r h 10 16 = some 19 := (hM.2.2 (16, 19, 8, 16) (by decide)).1
theorem MOK.a19 {h : Hp} (hM : MOK h) : Ar h 19 8 16 := ⟨⟨by decide, Nat.lt_of_lt_of_le (by decide) hM.1, (hM.2.2 (16, 19, 8, 16) (by decide)).2.1⟩, (hM.2.2 (16, 19, 8, 16) (by decide)).2.2⟩
theorem MOK.r17 {h : Hp} (hM : MOK h) : am_r h 10 17 = some 20 := (hM.2.2 (17, 20, 8, 16) (by decide)).1
theorem MOK.a20 {h : Hp} (hM : MOK h) : Ar h 20 8 16 := ⟨⟨by decide, Nat.lt_of_lt_of_le (by decide) hM.1, (hM.2.2 (17, 20, 8, 16) (by decide)).2.1⟩, (hM.2.2 (17, 20, 8, 16) (by decide)).2.2⟩
theorem MOK.r18 {h : Hp} (hM : MOK h) : am_r h 10 18 = some 21 := (hM.2.2 (18, 21, 7, 120) (by decide)).1
theorem MOK.a21 {h : Hp} (hM : MOK h) : Ar h 21 7 120 := ⟨⟨by decide, Nat.lt_of_lt_of_le (by decide) hM.1, (hM.2.2 (18, 21, 7, 120) (by decide)).2.1⟩, (hM.2.2 (18, 21, 7, 120) (by decide)).2.2⟩
theorem MOK.r19 {h : Hp} (hM : MOK h) : am_r h 10 19 = some 22 := (hM.2.2 (19, 22, 7, 120) (by decide)).1
theorem MOK.a22 {h : Hp} (hM : MOK h) : Ar h 22 7 120 := ⟨⟨by decide, Nat.lt_of_lt_of_le (by decide) hM.1, (hM.2.2 (19, 22, 7, 120) (by decide)).2.1⟩, (hM.2.2 (19, 22, 7, 120) (by decide)).2.2⟩
theorem MOK.r20 {h : Hp} (hM : MOK h) : am_r h 10 20 = some 23 := (hM.2.2 (20, 23, 7, 120) (by decide)).1
theorem MOK.a23 {h : Hp} (hM : MOK h) : Ar h 23 7 120 := ⟨⟨by decide, Nat.lt_of_lt_of_le (by decide) hM.1, (hM.2.2 (20, 23, 7, 120) (by decide)).2.1⟩, (hM.2.2 (20, 23, 7, 120) (by decide)).2.2⟩
theorem MOK.r21 {h : Hp} (hM : MOK h) : am_r h 10 21 = some 24 := (hM.2.2 (21, 24, 7, 120) (by decide)).1
theorem MOK.a24 {h : Hp} (hM : MOK h) : Ar h 24 7 120 := ⟨⟨by decide, Nat.lt_of_lt_of_le (by decide) hM.1, (hM.2.2 (21, 24, 7, 120) (by decide)).2.1⟩, (hM.2.2 (21, 24, 7, 120) (by decide)).2.2⟩
theorem MOK.r22 {h : Hp} (hM : MOK h) : am_r h 10 22 = some 25 := (hM.2.2 (22, 25, 7, 120) (by decide)).1
theorem MOK.a25 {h : Hp} (hM : MOK h) : Ar h 25 7 120 := ⟨⟨by decide, Nat.lt_of_lt_of_le (by decide) hM.1, (hM.2.2 (22, 25, 7, 120) (by decide)).2.1⟩, (hM.2.2 (22, 25, 7, 120) (by decide)).2.2⟩
theorem MOK.r23 {h : Hp} (hM : MOK h) : am_r h 10 23 = some 26 := (hM.2.2 (23, 26, 7, 120) (by decide)).1
theorem MOK.a26 {h : Hp} (hM : MOK h) : Ar h 26 7 120 := ⟨⟨by decide, Nat.lt_of_lt_of_le (by decide) hM.1, (hM.2.2 (23, 26, 7, 120) (by decide)).2.1⟩, (hM.2.2 (23, 26, 7, 120) (by decide)).2.2⟩
theorem MOK.r24 {h : Hp} (hM : MOK h) : am_r h 10 24 = some 27 := (hM.2.2 (24, 27, 7, 120) (by decide)).1
theorem MOK.a27 {h : Hp} (hM : MOK h) : Ar h 27 7 120 := ⟨⟨by decide, Nat.lt_of_lt_of_le (by decide) hM.1, (hM.2.2 (24, 27, 7, 120) (by decide)).2.1⟩, (hM.2.2 (24, 27, 7, 120) (by decide)).2.2⟩
theorem MOK.r25 {h : Hp} (hM : MOK h) : am_r h 10 25 = some 28 := (hM.2.2 (25, 28, 7, 120) (by decide)).1
theorem MOK.a28 {h : Hp} (hM : MOK h) : Ar h 28 7 120 := ⟨⟨by decide, Nat.lt_of_lt_of_le (by decide) hM.1, (hM.2.2 (25, 28, 7, 120) (by decide)).2.1⟩, (hM.2.2 (25, 28, 7, 120) (by decide)).2.2⟩
theorem MOK.r26 {h : Hp} (hM : MOK h) : am_r h 10 26 = some 29 := (hM.2.2 (26, 29, 7, 120) (by decide)).1
theorem MOK.a29 {h : Hp} (hM : MOK h) : Ar h 29 7 120 := ⟨⟨by decide, Nat.lt_of_lt_of_le (by decide) hM.1, (hM.2.2 (26, 29, 7, 120) (by decide)).2.1⟩, (hM.2.2 (26, 29, 7, 120) (by decide)).2.2⟩
theorem MOK.r27 {h : Hp} (hM : MOK h) : am_r h 10 27 = some 30 := (hM.2.2 (27, 30, 8, 120) (by decide)).1
theorem MOK.a30 {h : Hp} (hM : MOK h) : Ar h 30 8 120 := ⟨⟨by decide, Nat.lt_of_lt_of_le (by decide) hM.1, (hM.2.2 (27, 30, 8, 120) (by decide)).2.1⟩, (hM.2.2 (27, 30, 8, 120) (by decide)).2.2⟩
theorem MOK.r28 {h : Hp} (hM : MOK h) : am_r h 10 28 = some 31 := (hM.2.2 (28, 31, 8, 120) (by decide)).1
theorem MOK.a31 {h : Hp} (hM : MOK h) : Ar h 31 8 120 := ⟨⟨by decide, Nat.lt_of_lt_of_le (by decide) hM.1, (hM.2.2 (28, 31, 8, 120) (by decide)).2.1⟩, (hM.2.2 (28, 31, 8, 120) (by decide)).2.2⟩
theorem MOK.r30 {h : Hp} (hM : MOK h) : am_r h 10 30 = some 32 := (hM.2.2 (30, 32, 7, 160) (by decide)).1
theorem MOK.a32 {h : Hp} (hM : MOK h) : Ar h 32 7 160 := ⟨⟨by decide, Nat.lt_of_lt_of_le (by decide) hM.1, (hM.2.2 (30, 32, 7, 160) (by decide)).2.1⟩, (hM.2.2 (30, 32, 7, 160) (by decide)).2.2⟩
theorem MOK.r31 {h : Hp} (hM : MOK h) : am_r h 10 31 = some 33 := (hM.2.2 (31, 33, 7, 40) (by decide)).1
theorem MOK.a33 {h : Hp} (hM : MOK h) : Ar h 33 7 40 := ⟨⟨by decide, Nat.lt_of_lt_of_le (by decide) hM.1, (hM.2.2 (31, 33, 7, 40) (by decide)).2.1⟩, (hM.2.2 (31, 33, 7, 40) (by decide)).2.2⟩
theorem MOK.r32 {h : Hp} (hM : MOK h) : am_r h 10 32 = some 34 := (hM.2.2 (32, 34, 8, 40) (by decide)).1
theorem MOK.a34 {h : Hp} (hM : MOK h) : Ar h 34 8 40 := ⟨⟨by decide, Nat.lt_of_lt_of_le (by decide) hM.1, (hM.2.2 (32, 34, 8, 40) (by decide)).2.1⟩, (hM.2.2 (32, 34, 8, 40) (by decide)).2.2⟩
theorem MOK.r33 {h : Hp} (hM : MOK h) : am_r h 10 33 = some 35 := (hM.2.2 (33, 35, 7, 6) (by decide)).1
theorem MOK.a35 {h : Hp} (hM : MOK h) : Ar h 35 7 6 := ⟨⟨by decide, Nat.lt_of_lt_of_le (by decide) hM.1, (hM.2.2 (33, 35, 7, 6) (by decide)).2.1⟩, (hM.2.2 (33, 35, 7, 6) (by decide)).2.2⟩
theorem MOK.r34 {h : Hp} (hM : MOK h) : am_r h 10 34 = some 36 := (hM.2.2 (34, 36, 7, 6) (by decide)).1
theorem MOK.a36 {h : Hp} (hM : MOK h) : Ar h 36 7 6 := ⟨⟨by decide, Nat.lt_of_lt_of_le (by decide) hM.1, (hM.2.2 (34, 36, 7, 6) (by decide)).2.1⟩, (hM.2.2 (34, 36, 7, 6) (by decide)).2.2⟩
theorem MOK.r35 {h : Hp} (hM : MOK h) : am_r h 10 35 = some 37 := (hM.2.2 (35, 37, 7, 16) (by decide)).1
theorem MOK.a37 {h : Hp} (hM : MOK h) : Ar h 37 7 16 := ⟨⟨by decide, Nat.lt_of_lt_of_le (by decide) hM.1, (hM.2.2 (35, 37, 7, 16) (by decide)).2.1⟩, (hM.2.2 (35, 37, 7, 16) (by decide)).2.2⟩
section WPS
variable {cod : List am_E} {Cal : am_Ct} {Q : Option Value → Hp → Prop} {pc : Nat} {ls ls' : am_Ls} {st : List Value} {h : Hp} {len r1 r2 r3 : Nat}
theorem am_lt31 {N : Nat} (hN : Nat.ble N 1000 = true) : N < 2 ^ 31 := Nat.lt_of_le_of_lt (Nat.le_of_ble_eq_true hN) (by decide)
theorem wp_top {x y : Int32} (e : x = y) (k : WP cod Cal Q pc ls (.int y :: st) h) : WP cod Cal Q pc ls (.int x :: st) h := by rw [e]; exact k
theorem wp_ial (hm : (pc, Instr.iaload, len, r1, r2, r3) ∈ cod) {a N t : Nat} {v : Int32} (hA : Ar h a 7 N) (ht : t < N) (hN : Nat.ble N 1000 = true) (hv : am_i h a t = v) (kk : WP cod Cal Q (pc + 1) ls (.int v :: st) h) : WP cod Cal Q pc ls (.int (nI t) :: .ref a :: st) h :=
  wp_iaload hm hA.1.2.1 hA.1.2.2 (by rw [hA.2]; exact vp_in_nI ht (am_lt31 hN)) (by rw [nI_clamp (Nat.lt_trans ht (am_lt31 hN))]; exact hv) kk
theorem wp_zal (hm : (pc, Instr.baload, len, r1, r2, r3) ∈ cod) {a N t : Nat} {v : Int32} (hA : Ar h a 8 N) (ht : t < N) (hN : Nat.ble N 1000 = true) (hv : am_i h a t = v) (kk : WP cod Cal Q (pc + 1) ls (.int v :: st) h) : WP cod Cal Q pc ls (.int (nI t) :: .ref a :: st) h :=
  wp_baload hm hA.1 (by rw [hA.2]; exact vp_in_nI ht (am_lt31 hN)) (by rw [nI_clamp (Nat.lt_trans ht (am_lt31 hN))]; exact hv) kk
theorem wp_ias (hm : (pc, Instr.iastore, len, r1, r2, r3) ∈ cod) {a N t : Nat} {x : Int32} {h' : Hp} (hA : Ar h a 7 N) (ht : t < N) (hN : Nat.ble N 1000 = true) (hh : am_setI h a t x = h') (kk : WP cod Cal Q (pc + 1) ls st h') : WP cod Cal Q pc ls (.int x :: .int (nI t) :: .ref a :: st) h :=
  wp_iastore hm hA.1 (by rw [hA.2]; exact vp_in_nI ht (am_lt31 hN)) (by rw [nI_clamp (Nat.lt_trans ht (am_lt31 hN))]; exact hh) kk
theorem wp_zas (hm : (pc, Instr.bastore, len, r1, r2, r3) ∈ cod) {a N t : Nat} {x : Int32} {h' : Hp} (hA : Ar h a 8 N) (ht : t < N) (hN : Nat.ble N 1000 = true) (hx : x = 0 ∨ x = 1) (hh : am_setI h a t x = h') (kk : WP cod Cal Q (pc + 1) ls st h') : WP cod Cal Q pc ls (.int x :: .int (nI t) :: .ref a :: st) h :=
  wp_bastore hm hA.1 (by rw [hA.2]; exact vp_in_nI ht (am_lt31 hN)) hx (by rw [nI_clamp (Nat.lt_trans ht (am_lt31 hN))]; exact hh) kk
theorem wp_aalO (hm : (pc, Instr.aaload, len, r1, r2, r3) ∈ cod) {a K N t : Nat} {v : Option Nat} (hA : Ar h a K N) (h9 : Nat.ble 9 K = true) (h12 : Nat.ble K 12 = true) (ht : t < N) (hN : Nat.ble N 1000 = true) (hv : am_r h a t = v) (kk : WP cod Cal Q (pc + 1) ls (va_rf v :: st) h) : WP cod Cal Q pc ls (.int (nI t) :: .ref a :: st) h :=
  wp_aaloadO hm hA.1 h9 h12 (by rw [hA.2]; exact vp_in_nI ht (am_lt31 hN)) (by rw [nI_clamp (Nat.lt_trans ht (am_lt31 hN))]; exact hv) kk
theorem wp_aal (hm : (pc, Instr.aaload, len, r1, r2, r3) ∈ cod) {a K N t v : Nat} (hA : Ar h a K N) (h9 : Nat.ble 9 K = true) (h12 : Nat.ble K 12 = true) (ht : t < N) (hN : Nat.ble N 1000 = true) (hv : am_r h a t = some v) (kk : WP cod Cal Q (pc + 1) ls (.ref v :: st) h) : WP cod Cal Q pc ls (.int (nI t) :: .ref a :: st) h := wp_aalO hm hA h9 h12 ht hN hv kk
theorem wp_aas (hm : (pc, Instr.aastore, len, r1, r2, r3) ∈ cod) {a K N t v : Nat} {h' : Hp} (hA : Ar h a K N) (h9 : Nat.ble 9 K = true) (h12 : Nat.ble K 12 = true) (hV : Ob h v (am_el K)) (ht : t < N) (hN : Nat.ble N 1000 = true) (hh : am_setR h a t (some v) = h') (kk : WP cod Cal Q (pc + 1) ls st h') : WP cod Cal Q pc ls (.ref v :: .int (nI t) :: .ref a :: st) h :=
  wp_aastore hm hA.1 h9 h12 hV (by rw [hA.2]; exact vp_in_nI ht (am_lt31 hN)) (by rw [nI_clamp (Nat.lt_trans ht (am_lt31 hN))]; exact hh) kk
end WPS
theorem am_swI {pc : Nat} {d lo hi off : Int} {offs : Array Int} {x : Int32} {t : Nat} (h1 : ¬ x.toInt < lo) (h2 : ¬ hi < x.toInt) (h3 : offs[(x.toInt - lo).toNat]? = some off) (h4 : (pc : Int) + off = (t : Int)) : am_sw pc d lo hi offs x t := Or.inr ⟨h1, h2, off, h3, h4⟩
theorem am_swO {pc : Nat} {d lo hi : Int} {offs : Array Int} {x : Int32} {t : Nat} (h1 : x.toInt < lo ∨ hi < x.toInt) (h4 : (pc : Int) + d = (t : Int)) : am_sw pc d lo hi offs x t := Or.inl ⟨h1, h4⟩
theorem am_neT {x k : Int32} {i : Int} (h : ¬ x = k) (hk : k.toInt = i) : ¬ x.toInt = i := fun q => h (Int32.toInt_inj.mp (q.trans hk.symm))
theorem am_out2 {x : Int32} (c0 : ¬ x = 0) (c1 : ¬ x = 1) (c2 : ¬ x = 2) : x.toInt < 0 ∨ 2 < x.toInt := by
  have d0 := am_neT (i := 0) c0 (by decide)
  have d1 := am_neT (i := 1) c1 (by decide)
  have d2 := am_neT (i := 2) c2 (by decide)
  omega
theorem am_out6 {x : Int32} (c0 : ¬ x = 0) (c1 : ¬ x = 1) (c2 : ¬ x = 2) (c3 : ¬ x = 3) (c4 : ¬ x = 4) (c5 : ¬ x = 5) (c6 : ¬ x = 6) : x.toInt < 0 ∨ 6 < x.toInt := by
  have d0 := am_neT (i := 0) c0 (by decide)
  have d1 := am_neT (i := 1) c1 (by decide)
  have d2 := am_neT (i := 2) c2 (by decide)
  have d3 := am_neT (i := 3) c3 (by decide)
  have d4 := am_neT (i := 4) c4 (by decide)
  have d5 := am_neT (i := 5) c5 (by decide)
  have d6 := am_neT (i := 6) c6 (by decide)
  omega
theorem am_out10 {x : Int32} (c0 : ¬ x = 0) (c1 : ¬ x = 1) (c2 : ¬ x = 2) (c3 : ¬ x = 3) (c4 : ¬ x = 4) (c5 : ¬ x = 5) (c6 : ¬ x = 6) (c7 : ¬ x = 7) (c8 : ¬ x = 8) (c9 : ¬ x = 9) (c10 : ¬ x = 10) : x.toInt < 0 ∨ 10 < x.toInt := by
  have d0 := am_neT (i := 0) c0 (by decide)
  have d1 := am_neT (i := 1) c1 (by decide)
  have d2 := am_neT (i := 2) c2 (by decide)
  have d3 := am_neT (i := 3) c3 (by decide)
  have d4 := am_neT (i := 4) c4 (by decide)
  have d5 := am_neT (i := 5) c5 (by decide)
  have d6 := am_neT (i := 6) c6 (by decide)
  have d7 := am_neT (i := 7) c7 (by decide)
  have d8 := am_neT (i := 8) c8 (by decide)
  have d9 := am_neT (i := 9) c9 (by decide)
  have d10 := am_neT (i := 10) c10 (by decide)
  omega
theorem am_out12 {x : Int32} (c0 : ¬ x = 0) (c1 : ¬ x = 1) (c2 : ¬ x = 2) (c3 : ¬ x = 3) (c4 : ¬ x = 4) (c5 : ¬ x = 5) (c6 : ¬ x = 6) (c7 : ¬ x = 7) (c8 : ¬ x = 8) (c9 : ¬ x = 9) (c10 : ¬ x = 10) (c11 : ¬ x = 11) (c12 : ¬ x = 12) : x.toInt < 0 ∨ 12 < x.toInt := by
  have d0 := am_neT (i := 0) c0 (by decide)
  have d1 := am_neT (i := 1) c1 (by decide)
  have d2 := am_neT (i := 2) c2 (by decide)
  have d3 := am_neT (i := 3) c3 (by decide)
  have d4 := am_neT (i := 4) c4 (by decide)
  have d5 := am_neT (i := 5) c5 (by decide)
  have d6 := am_neT (i := 6) c6 (by decide)
  have d7 := am_neT (i := 7) c7 (by decide)
  have d8 := am_neT (i := 8) c8 (by decide)
  have d9 := am_neT (i := 9) c9 (by decide)
  have d10 := am_neT (i := 10) c10 (by decide)
  have d11 := am_neT (i := 11) c11 (by decide)
  have d12 := am_neT (i := 12) c12 (by decide)
  omega
theorem am_out22 {x : Int32} (c0 : ¬ x = 0) (c1 : ¬ x = 1) (c2 : ¬ x = 2) (c3 : ¬ x = 3) (c4 : ¬ x = 4) (c5 : ¬ x = 5) (c6 : ¬ x = 6) (c7 : ¬ x = 7) (c8 : ¬ x = 8) (c9 : ¬ x = 9) (c10 : ¬ x = 10) (c11 : ¬ x = 11) (c12 : ¬ x = 12) (c13 : ¬ x = 13) (c14 : ¬ x = 14) (c15 : ¬ x = 15) (c16 : ¬ x = 16) (c17 : ¬ x = 17) (c18 : ¬ x = 18) (c19 : ¬ x = 19) (c20 : ¬ x = 20) (c21 : ¬ x = 21) (c22 : ¬ x = 22) : x.toInt < 0 ∨ 22 < x.toInt := by
  have d0 := am_neT (i := 0) c0 (by decide)
  have d1 := am_neT (i := 1) c1 (by decide)
  have d2 := am_neT (i := 2) c2 (by decide)
  have d3 := am_neT (i := 3) c3 (by decide)
  have d4 := am_neT (i := 4) c4 (by decide)
  have d5 := am_neT (i := 5) c5 (by decide)
  have d6 := am_neT (i := 6) c6 (by decide)
  have d7 := am_neT (i := 7) c7 (by decide)
  have d8 := am_neT (i := 8) c8 (by decide)
  have d9 := am_neT (i := 9) c9 (by decide)
  have d10 := am_neT (i := 10) c10 (by decide)
  have d11 := am_neT (i := 11) c11 (by decide)
  have d12 := am_neT (i := 12) c12 (by decide)
  have d13 := am_neT (i := 13) c13 (by decide)
  have d14 := am_neT (i := 14) c14 (by decide)
  have d15 := am_neT (i := 15) c15 (by decide)
  have d16 := am_neT (i := 16) c16 (by decide)
  have d17 := am_neT (i := 17) c17 (by decide)
  have d18 := am_neT (i := 18) c18 (by decide)
  have d19 := am_neT (i := 19) c19 (by decide)
  have d20 := am_neT (i := 20) c20 (by decide)
  have d21 := am_neT (i := 21) c21 (by decide)
  have d22 := am_neT (i := 22) c22 (by decide)
  omega
/-! what the reference's private methods answer, of S -/
def cR (S : St) : Nat := (S 10 5).toNatClampNeg
def cS (S : St) : Nat := (S 10 11).toNatClampNeg
def cT (S : St) : Nat := (S 10 12).toNatClampNeg
def cC (S : St) : Nat := (S 10 29).toNatClampNeg
/-- the counts are within their limits -/
def MW (S : St) : Prop := (S 10 5 = nI (cR S) ∧ cR S ≤ 12) ∧ (S 10 11 = nI (cS S) ∧ cS S ≤ 16) ∧ (S 10 12 = nI (cT S) ∧ cT S ≤ 120) ∧ (S 10 29 = nI (cC S) ∧ cC S ≤ 40)
def sIn (v l m : Int32) : Int32 := if l ≤ v ∧ v ≤ m then 1 else 0
def sGap (a b : Int32) : Int32 := if b < a then a - b else b - a
def sOpen (S : St) : Int32 := if S 10 1 ≤ md (S 10 0) 1440 ∧ md (S 10 0) 1440 < S 10 2 then 1 else 0
def sRow (S : St) (day : Int32) : Nat → Int32
  | 0 => -1
  | n + 1 => if S 11 n ≤ day then nI n else sRow S day n
def sFree (S : St) (s : Nat) : Nat → Int32
  | 0 => S 16 s
  | n + 1 => if S 26 n = 0 ∧ S 27 n = nI s then sFree S s n - S 21 n else sFree S s n
def sSuit (S : St) (t s : Nat) : Int32 := if S 20 s = 0 ∧ S 22 t ≤ S 17 s ∧ S 19 s = S 30 t then 1 else 0
def sFits (S : St) (t s : Nat) : Int32 := if sSuit S t s = 1 ∧ S 21 t ≤ sFree S s (cT S) then 1 else 0
def sHrs (S : St) (t : Nat) : Int32 := if S 10 0 < S 24 t then (S 24 t - S 10 0) / 60 else 0
def sWant (S : St) (t : Nat) : Int32 := if 98 < sHrs S t then 99 else 1 + sHrs S t
def sMis (S : St) (t s : Nat) : Int32 := sGap (S 18 s) (sWant S t)
def sTick (x : Int32) : Int32 := 100 * x + md (37 * x + 11) 97
def sThOf (S : St) (x : Int32) : Int32 := if x < 0 ∨ ¬ md x 100 = md (37 * (x / 100) + 11) 97 then -2 else if x / 100 < S 10 12 then x / 100 else -3
def sMk (m k : Int32) : Int32 := (m >>> ((4 * k) &&& 31)) &&& 15
theorem sIn_01 (v l m : Int32) : sIn v l m = 0 ∨ sIn v l m = 1 := by unfold sIn; split <;> simp
theorem sOpen_01 (S : St) : sOpen S = 0 ∨ sOpen S = 1 := by unfold sOpen; split <;> simp
theorem sSuit_01 (S : St) (t s : Nat) : sSuit S t s = 0 ∨ sSuit S t s = 1 := by unfold sSuit; split <;> simp
theorem sFits_01 (S : St) (t s : Nat) : sFits S t s = 0 ∨ sFits S t s = 1 := by unfold sFits; split <;> simp
end
section
/-! THE REFERENCE: its small methods -/
set_option maxRecDepth 4000 in
theorem rX6_in (d : Nat) (h : Hp) (v l m : Int32) : Res (d + 1) nX6_in [.int v, .int l, .int m] h (some (.int (sIn v l m))) h := by
  refine Res_intro (ls := [some (.int v), some (.int l), some (.int m)]) aX6_in rfl rfl rfl rfl ?_
  show WP kX6_in _ _ _ _ _ _
  refine wp_iload_n eX6_in_0 rfl ?_
  refine wp_iload_n eX6_in_1 rfl ?_
  refine wp_icmp eX6_in_2 (fun (c_2 : v < l) => ?_) (fun (c_2 : ¬ (v < l)) => ?_)
  · refine wp_iconst (v := 0) eX6_in_14 rfl ?_
    exact wp_zret eX6_in_15 (by first | exact Or.inl rfl | exact Or.inr rfl | assumption) ⟨congrArg (fun z => some (Value.int z)) (by unfold sIn; (repeat' split) <;> first | rfl | (exfalso; simp_all; done) | (exfalso; simp only [Int32.lt_iff_toInt_lt, Int32.le_iff_toInt_le, ← Int32.toInt_inj] at *; omega)), rfl⟩
  · refine wp_iload_n eX6_in_5 rfl ?_
    refine wp_iload_n eX6_in_6 rfl ?_
    refine wp_icmp eX6_in_7 (fun (c_7 : m < v) => ?_) (fun (c_7 : ¬ (m < v)) => ?_)
    · refine wp_iconst (v := 0) eX6_in_14 rfl ?_
      exact wp_zret eX6_in_15 (by first | exact Or.inl rfl | exact Or.inr rfl | assumption) ⟨congrArg (fun z => some (Value.int z)) (by unfold sIn; (repeat' split) <;> first | rfl | (exfalso; simp_all; done) | (exfalso; simp only [Int32.lt_iff_toInt_lt, Int32.le_iff_toInt_le, ← Int32.toInt_inj] at *; omega)), rfl⟩
    · refine wp_iconst (v := 1) eX6_in_10 rfl ?_
      refine wp_goto eX6_in_11 ?_
      exact wp_zret eX6_in_15 (by first | exact Or.inl rfl | exact Or.inr rfl | assumption) ⟨congrArg (fun z => some (Value.int z)) (by unfold sIn; (repeat' split) <;> first | rfl | (exfalso; simp_all; done) | (exfalso; simp only [Int32.lt_iff_toInt_lt, Int32.le_iff_toInt_le, ← Int32.toInt_inj] at *; omega)), rfl⟩

set_option maxRecDepth 4000 in
theorem rX6_gap (d : Nat) (h : Hp) (a b : Int32) : Res (d + 1) nX6_gap [.int a, .int b] h (some (.int (sGap a b))) h := by
  refine Res_intro (ls := [some (.int a), some (.int b)]) aX6_gap rfl rfl rfl rfl ?_
  show WP kX6_gap _ _ _ _ _ _
  refine wp_iload_n eX6_gap_0 rfl ?_
  refine wp_iload_n eX6_gap_1 rfl ?_
  refine wp_icmp eX6_gap_2 (fun (c_2 : a ≤ b) => ?_) (fun (c_2 : ¬ (a ≤ b)) => ?_)
  · refine wp_iload_n eX6_gap_11 rfl ?_
    refine wp_iload_n eX6_gap_12 rfl ?_
    refine wp_isub eX6_gap_13 ?_
    exact wp_iret eX6_gap_14 ⟨congrArg (fun z => some (Value.int z)) (by unfold sGap; (repeat' split) <;> first | rfl | (exfalso; simp_all; done) | (exfalso; simp only [Int32.lt_iff_toInt_lt, Int32.le_iff_toInt_le, ← Int32.toInt_inj] at *; omega)), rfl⟩
  · refine wp_iload_n eX6_gap_5 rfl ?_
    refine wp_iload_n eX6_gap_6 rfl ?_
    refine wp_isub eX6_gap_7 ?_
    refine wp_goto eX6_gap_8 ?_
    exact wp_iret eX6_gap_14 ⟨congrArg (fun z => some (Value.int z)) (by unfold sGap; (repeat' split) <;> first | rfl | (exfalso; simp_all; done) | (exfalso; simp only [Int32.lt_iff_toInt_lt, Int32.le_iff_toInt_le, ← Int32.toInt_inj] at *; omega)), rfl⟩

set_option maxRecDepth 4000 in
theorem rX6_isOpen (d : Nat) {h : Hp} (hM : MOK h) (S : St) : Res (d + 1) nX6_isOpen [.ref 10] (am_wi h S) (some (.int (sOpen S))) (am_wi h S) := by
  refine Res_intro (ls := [some (.ref 10)]) aX6_isOpen rfl rfl rfl rfl ?_
  show WP kX6_isOpen _ _ _ _ _ _
  refine wp_aload_n eX6_isOpen_0 rfl ?_
  refine wp_getI (v := S 10 0) eX6_isOpen_1 hM.ob rfl rfl ?_
  refine wp_sipush (v := 1440) eX6_isOpen_4 rfl ?_
  refine wp_irem eX6_isOpen_7 (by decide) ?_
  refine wp_aload_n eX6_isOpen_8 rfl ?_
  refine wp_getI (v := S 10 1) eX6_isOpen_9 hM.ob rfl rfl ?_
  refine wp_icmp eX6_isOpen_12 (fun (c_12 : (md (S 10 0) 1440) < (S 10 1)) => ?_) (fun (c_12 : ¬ ((md (S 10 0) 1440) < (S 10 1))) => ?_)
  · refine wp_iconst (v := 0) eX6_isOpen_34 rfl ?_
    exact wp_zret eX6_isOpen_35 (by first | exact Or.inl rfl | exact Or.inr rfl | assumption) ⟨congrArg (fun z => some (Value.int z)) (by unfold sOpen; (repeat' split) <;> first | rfl | (exfalso; simp_all; done) | (exfalso; simp only [Int32.lt_iff_toInt_lt, Int32.le_iff_toInt_le, ← Int32.toInt_inj] at *; omega)), rfl⟩
  · refine wp_aload_n eX6_isOpen_15 rfl ?_
    refine wp_getI (v := S 10 0) eX6_isOpen_16 hM.ob rfl rfl ?_
    refine wp_sipush (v := 1440) eX6_isOpen_19 rfl ?_
    refine wp_irem eX6_isOpen_22 (by decide) ?_
    refine wp_aload_n eX6_isOpen_23 rfl ?_
    refine wp_getI (v := S 10 2) eX6_isOpen_24 hM.ob rfl rfl ?_
    refine wp_icmp eX6_isOpen_27 (fun (c_27 : (S 10 2) ≤ (md (S 10 0) 1440)) => ?_) (fun (c_27 : ¬ ((S 10 2) ≤ (md (S 10 0) 1440))) => ?_)
    · refine wp_iconst (v := 0) eX6_isOpen_34 rfl ?_
      exact wp_zret eX6_isOpen_35 (by first | exact Or.inl rfl | exact Or.inr rfl | assumption) ⟨congrArg (fun z => some (Value.int z)) (by unfold sOpen; (repeat' split) <;> first | rfl | (exfalso; simp_all; done) | (exfalso; simp only [Int32.lt_iff_toInt_lt, Int32.le_iff_toInt_le, ← Int32.toInt_inj] at *; omega)), rfl⟩
    · refine wp_iconst (v := 1) eX6_isOpen_30 rfl ?_
      refine wp_goto eX6_isOpen_31 ?_
      exact wp_zret eX6_isOpen_35 (by first | exact Or.inl rfl | exact Or.inr rfl | assumption) ⟨congrArg (fun z => some (Value.int z)) (by unfold sOpen; (repeat' split) <;> first | rfl | (exfalso; simp_all; done) | (exfalso; simp only [Int32.lt_iff_toInt_lt, Int32.le_iff_toInt_le, ← Int32.toInt_inj] at *; omega)), rfl⟩

set_option maxRecDepth 4000 in
theorem rX6_suits (d : Nat) {h : Hp} (hM : MOK h) (S : St) (t s : Nat) (ht : t < 120) (hs : s < 16) : Res (d + 1) nX6_suits [.ref 10, .int (nI t), .int (nI s)] (am_wi h S) (some (.int (sSuit S t s))) (am_wi h S) := by
  refine Res_intro (ls := [some (.ref 10), some (.int (nI t)), some (.int (nI s))]) aX6_suits rfl rfl rfl rfl ?_
  show WP kX6_suits _ _ _ _ _ _
  refine wp_aload_n eX6_suits_0 rfl ?_
  refine wp_getR (v := 20) eX6_suits_1 hM.ob rfl hM.r17 ?_
  refine wp_iload_n eX6_suits_4 rfl ?_
  refine wp_zal (v := S 20 s) (t := s) eX6_suits_5 hM.a20 (by omega) rfl rfl ?_
  refine wp_if eX6_suits_6 (fun (c_6 : ¬ (S 20 s) = 0) => ?_) (fun (c_6 : ¬ (¬ (S 20 s) = 0)) => ?_)
  · refine wp_iconst (v := 0) eX6_suits_43 rfl ?_
    exact wp_zret eX6_suits_44 (by first | exact Or.inl rfl | exact Or.inr rfl | assumption) ⟨congrArg (fun z => some (Value.int z)) (by unfold sSuit; (repeat' split) <;> first | rfl | (exfalso; simp_all; done) | (exfalso; simp only [Int32.lt_iff_toInt_lt, Int32.le_iff_toInt_le, ← Int32.toInt_inj] at *; omega)), rfl⟩
  · refine wp_aload_n eX6_suits_9 rfl ?_
    refine wp_getR (v := 17) eX6_suits_10 hM.ob rfl hM.r14 ?_
    refine wp_iload_n eX6_suits_13 rfl ?_
    refine wp_ial (v := S 17 s) (t := s) eX6_suits_14 hM.a17 (by omega) rfl rfl ?_
    refine wp_aload_n eX6_suits_15 rfl ?_
    refine wp_getR (v := 22) eX6_suits_16 hM.ob rfl hM.r19 ?_
    refine wp_iload_n eX6_suits_19 rfl ?_
    refine wp_ial (v := S 22 t) (t := t) eX6_suits_20 hM.a22 (by omega) rfl rfl ?_
    refine wp_icmp eX6_suits_21 (fun (c_21 : (S 17 s) < (S 22 t)) => ?_) (fun (c_21 : ¬ ((S 17 s) < (S 22 t))) => ?_)
    · refine wp_iconst (v := 0) eX6_suits_43 rfl ?_
      exact wp_zret eX6_suits_44 (by first | exact Or.inl rfl | exact Or.inr rfl | assumption) ⟨congrArg (fun z => some (Value.int z)) (by unfold sSuit; (repeat' split) <;> first | rfl | (exfalso; simp_all; done) | (exfalso; simp only [Int32.lt_iff_toInt_lt, Int32.le_iff_toInt_le, ← Int32.toInt_inj] at *; omega)), rfl⟩
    · refine wp_aload_n eX6_suits_24 rfl ?_
      refine wp_getR (v := 19) eX6_suits_25 hM.ob rfl hM.r16 ?_
      refine wp_iload_n eX6_suits_28 rfl ?_
      refine wp_zal (v := S 19 s) (t := s) eX6_suits_29 hM.a19 (by omega) rfl rfl ?_
      refine wp_aload_n eX6_suits_30 rfl ?_
      refine wp_getR (v := 30) eX6_suits_31 hM.ob rfl hM.r27 ?_
      refine wp_iload_n eX6_suits_34 rfl ?_
      refine wp_zal (v := S 30 t) (t := t) eX6_suits_35 hM.a30 (by omega) rfl rfl ?_
      refine wp_icmp eX6_suits_36 (fun (c_36 : ¬ (S 19 s) = (S 30 t)) => ?_) (fun (c_36 : ¬ (¬ (S 19 s) = (S 30 t))) => ?_)
      · refine wp_iconst (v := 0) eX6_suits_43 rfl ?_
        exact wp_zret eX6_suits_44 (by first | exact Or.inl rfl | exact Or.inr rfl | assumption) ⟨congrArg (fun z => some (Value.int z)) (by unfold sSuit; (repeat' split) <;> first | rfl | (exfalso; simp_all; done) | (exfalso; simp only [Int32.lt_iff_toInt_lt, Int32.le_iff_toInt_le, ← Int32.toInt_inj] at *; omega)), rfl⟩
      · refine wp_iconst (v := 1) eX6_suits_39 rfl ?_
        refine wp_goto eX6_suits_40 ?_
        exact wp_zret eX6_suits_44 (by first | exact Or.inl rfl | exact Or.inr rfl | assumption) ⟨congrArg (fun z => some (Value.int z)) (by unfold sSuit; (repeat' split) <;> first | rfl | (exfalso; simp_all; done) | (exfalso; simp only [Int32.lt_iff_toInt_lt, Int32.le_iff_toInt_le, ← Int32.toInt_inj] at *; omega)), rfl⟩

set_option maxRecDepth 4000 in
theorem rX6_wanted (d : Nat) {h : Hp} (hM : MOK h) (S : St) (t : Nat) (ht : t < 120) : Res (d + 1) nX6_wanted [.ref 10, .int (nI t)] (am_wi h S) (some (.int (sWant S t))) (am_wi h S) := by
  refine Res_intro (ls := [some (.ref 10), some (.int (nI t)), none]) aX6_wanted rfl rfl rfl rfl ?_
  show WP kX6_wanted _ _ _ _ _ _
  refine wp_aload_n eX6_wanted_0 rfl ?_
  refine wp_getR (v := 24) eX6_wanted_1 hM.ob rfl hM.r21 ?_
  refine wp_iload_n eX6_wanted_4 rfl ?_
  refine wp_ial (v := S 24 t) (t := t) eX6_wanted_5 hM.a24 (by omega) rfl rfl ?_
  refine wp_aload_n eX6_wanted_6 rfl ?_
  refine wp_getI (v := S 10 0) eX6_wanted_7 hM.ob rfl rfl ?_
  refine wp_icmp eX6_wanted_10 (fun (c_10 : (S 24 t) ≤ (S 10 0)) => ?_) (fun (c_10 : ¬ ((S 24 t) ≤ (S 10 0))) => ?_)
  · refine wp_iconst (v := 0) eX6_wanted_30 rfl ?_
    refine wp_istore_n (ls' := [some (.ref 10), some (.int (nI t)), some (.int 0)]) eX6_wanted_31 rfl rfl ?_
    refine wp_iload_n eX6_wanted_32 rfl ?_
    refine wp_bipush (v := 98) eX6_wanted_33 rfl ?_
    refine wp_icmp eX6_wanted_35 (fun (c_35 : 0 ≤ 98) => ?_) (fun (c_35 : ¬ (0 ≤ 98)) => ?_)
    · refine wp_iconst (v := 1) eX6_wanted_43 rfl ?_
      refine wp_iload_n eX6_wanted_44 rfl ?_
      refine wp_iadd eX6_wanted_45 ?_
      exact wp_iret eX6_wanted_46 ⟨congrArg (fun z => some (Value.int z)) (by unfold sWant sHrs; (repeat' split) <;> first | rfl | (exfalso; simp_all; done) | (exfalso; simp only [Int32.lt_iff_toInt_lt, Int32.le_iff_toInt_le, ← Int32.toInt_inj] at *; omega)), rfl⟩
    · refine wp_bipush (v := 99) eX6_wanted_38 rfl ?_
      refine wp_goto eX6_wanted_40 ?_
      exact wp_iret eX6_wanted_46 ⟨congrArg (fun z => some (Value.int z)) (by unfold sWant sHrs; (repeat' split) <;> first | rfl | (exfalso; simp_all; done) | (exfalso; simp only [Int32.lt_iff_toInt_lt, Int32.le_iff_toInt_le, ← Int32.toInt_inj] at *; omega)), rfl⟩
  · refine wp_aload_n eX6_wanted_13 rfl ?_
    refine wp_getR (v := 24) eX6_wanted_14 hM.ob rfl hM.r21 ?_
    refine wp_iload_n eX6_wanted_17 rfl ?_
    refine wp_ial (v := S 24 t) (t := t) eX6_wanted_18 hM.a24 (by omega) rfl rfl ?_
    refine wp_aload_n eX6_wanted_19 rfl ?_
    refine wp_getI (v := S 10 0) eX6_wanted_20 hM.ob rfl rfl ?_
    refine wp_isub eX6_wanted_23 ?_
    refine wp_bipush (v := 60) eX6_wanted_24 rfl ?_
    refine wp_idiv eX6_wanted_26 (by decide) ?_
    refine wp_goto eX6_wanted_27 ?_
    refine wp_istore_n (ls' := [some (.ref 10), some (.int (nI t)), some (.int (((S 24 t) - (S 10 0)) / 60))]) eX6_wanted_31 rfl rfl ?_
    refine wp_iload_n eX6_wanted_32 rfl ?_
    refine wp_bipush (v := 98) eX6_wanted_33 rfl ?_
    refine wp_icmp eX6_wanted_35 (fun (c_35 : (((S 24 t) - (S 10 0)) / 60) ≤ 98) => ?_) (fun (c_35 : ¬ ((((S 24 t) - (S 10 0)) / 60) ≤ 98)) => ?_)
    · refine wp_iconst (v := 1) eX6_wanted_43 rfl ?_
      refine wp_iload_n eX6_wanted_44 rfl ?_
      refine wp_iadd eX6_wanted_45 ?_
      exact wp_iret eX6_wanted_46 ⟨congrArg (fun z => some (Value.int z)) (by unfold sWant sHrs; (repeat' split) <;> first | rfl | (exfalso; simp_all; done) | (exfalso; simp only [Int32.lt_iff_toInt_lt, Int32.le_iff_toInt_le, ← Int32.toInt_inj] at *; omega)), rfl⟩
    · refine wp_bipush (v := 99) eX6_wanted_38 rfl ?_
      refine wp_goto eX6_wanted_40 ?_
      exact wp_iret eX6_wanted_46 ⟨congrArg (fun z => some (Value.int z)) (by unfold sWant sHrs; (repeat' split) <;> first | rfl | (exfalso; simp_all; done) | (exfalso; simp only [Int32.lt_iff_toInt_lt, Int32.le_iff_toInt_le, ← Int32.toInt_inj] at *; omega)), rfl⟩

set_option maxRecDepth 4000 in
theorem rX6_misfitOn (d : Nat) {h : Hp} (hM : MOK h) (S : St) (t s : Nat) (ht : t < 120) (hs : s < 16) : Res (d + 2) nX6_misfitOn [.ref 10, .int (nI t), .int (nI s)] (am_wi h S) (some (.int (sMis S t s))) (am_wi h S) := by
  refine Res_intro (ls := [some (.ref 10), some (.int (nI t)), some (.int (nI s))]) aX6_misfitOn rfl rfl rfl rfl ?_
  show WP kX6_misfitOn _ _ _ _ _ _
  refine wp_aload_n eX6_misfitOn_0 rfl ?_
  refine wp_getR (v := 18) eX6_misfitOn_1 hM.ob rfl hM.r15 ?_
  refine wp_iload_n eX6_misfitOn_4 rfl ?_
  refine wp_ial (v := S 18 s) (t := s) eX6_misfitOn_5 hM.a18 (by omega) rfl rfl ?_
  refine wp_aload_n eX6_misfitOn_6 rfl ?_
  refine wp_iload_n eX6_misfitOn_7 rfl ?_
  refine wp_virt (rv := (some (.int (sWant S t)))) (h' := am_wi h S) (r := [.int (S 18 s)]) eX6_misfitOn_8 [.int (nI t)] rfl rfl rfl hM.ob (rX6_wanted _ hM _ _ (by omega)) ?_
  refine wp_stat (rv := (some (.int (sGap (S 18 s) (sWant S t))))) (h' := am_wi h S) (r := []) eX6_misfitOn_11 [.int (S 18 s), .int (sWant S t)] rfl rfl rfl rfl (rX6_gap _ _ _ _) ?_
  exact wp_iret eX6_misfitOn_14 ⟨congrArg (fun z => some (Value.int z)) (rfl), rfl⟩

set_option maxRecDepth 4000 in
theorem rX6_ticketOf (d : Nat) (h : Hp) (x : Int32) : Res (d + 1) nX6_ticketOf [.int x] h (some (.int (sTick x))) h := by
  refine Res_intro (ls := [some (.int x)]) aX6_ticketOf rfl rfl rfl rfl ?_
  show WP kX6_ticketOf _ _ _ _ _ _
  refine wp_bipush (v := 100) eX6_ticketOf_0 rfl ?_
  refine wp_iload_n eX6_ticketOf_2 rfl ?_
  refine wp_imul eX6_ticketOf_3 ?_
  refine wp_bipush (v := 37) eX6_ticketOf_4 rfl ?_
  refine wp_iload_n eX6_ticketOf_6 rfl ?_
  refine wp_imul eX6_ticketOf_7 ?_
  refine wp_bipush (v := 11) eX6_ticketOf_8 rfl ?_
  refine wp_iadd eX6_ticketOf_10 ?_
  refine wp_bipush (v := 97) eX6_ticketOf_11 rfl ?_
  refine wp_irem eX6_ticketOf_13 (by decide) ?_
  refine wp_iadd eX6_ticketOf_14 ?_
  exact wp_iret eX6_ticketOf_15 ⟨congrArg (fun z => some (Value.int z)) (rfl), rfl⟩

set_option maxRecDepth 4000 in
theorem rX6_markOf (d : Nat) (h : Hp) (m k : Int32) : Res (d + 1) nX6_markOf [.int m, .int k] h (some (.int (sMk m k))) h := by
  refine Res_intro (ls := [some (.int m), some (.int k)]) aX6_markOf rfl rfl rfl rfl ?_
  show WP kX6_markOf _ _ _ _ _ _
  refine wp_iload_n eX6_markOf_0 rfl ?_
  refine wp_iconst (v := 4) eX6_markOf_1 rfl ?_
  refine wp_iload_n eX6_markOf_2 rfl ?_
  refine wp_imul eX6_markOf_3 ?_
  refine wp_ishr eX6_markOf_4 ?_
  refine wp_bipush (v := 15) eX6_markOf_5 rfl ?_
  refine wp_iand eX6_markOf_7 ?_
  exact wp_iret eX6_markOf_8 ⟨congrArg (fun z => some (Value.int z)) (rfl), rfl⟩

set_option maxRecDepth 4000 in
theorem rX6_thingOf (d : Nat) {h : Hp} (hM : MOK h) (S : St) (x : Int32) : Res (d + 1) nX6_thingOf [.ref 10, .int x] (am_wi h S) (some (.int (sThOf S x))) (am_wi h S) := by
  refine Res_intro (ls := [some (.ref 10), some (.int x)]) aX6_thingOf rfl rfl rfl rfl ?_
  show WP kX6_thingOf _ _ _ _ _ _
  refine wp_iload_n eX6_thingOf_0 rfl ?_
  refine wp_if eX6_thingOf_1 (fun (c_1 : x < 0) => ?_) (fun (c_1 : ¬ (x < 0)) => ?_)
  · refine wp_bipush (v := (-2)) eX6_thingOf_24 rfl ?_
    exact wp_iret eX6_thingOf_26 ⟨congrArg (fun z => some (Value.int z)) (by unfold sThOf; (repeat' split) <;> first | rfl | (exfalso; simp_all; done) | (exfalso; simp only [Int32.lt_iff_toInt_lt, Int32.le_iff_toInt_le, ← Int32.toInt_inj] at *; omega)), rfl⟩
  · refine wp_iload_n eX6_thingOf_4 rfl ?_
    refine wp_bipush (v := 100) eX6_thingOf_5 rfl ?_
    refine wp_irem eX6_thingOf_7 (by decide) ?_
    refine wp_bipush (v := 37) eX6_thingOf_8 rfl ?_
    refine wp_iload_n eX6_thingOf_10 rfl ?_
    refine wp_bipush (v := 100) eX6_thingOf_11 rfl ?_
    refine wp_idiv eX6_thingOf_13 (by decide) ?_
    refine wp_imul eX6_thingOf_14 ?_
    refine wp_bipush (v := 11) eX6_thingOf_15 rfl ?_
    refine wp_iadd eX6_thingOf_17 ?_
    refine wp_bipush (v := 97) eX6_thingOf_18 rfl ?_
    refine wp_irem eX6_thingOf_20 (by decide) ?_
    refine wp_icmp eX6_thingOf_21 (fun (c_21 : (md x 100) = (md ((37 * (x / 100)) + 11) 97)) => ?_) (fun (c_21 : ¬ ((md x 100) = (md ((37 * (x / 100)) + 11) 97))) => ?_)
    · refine wp_iload_n eX6_thingOf_27 rfl ?_
      refine wp_bipush (v := 100) eX6_thingOf_28 rfl ?_
      refine wp_idiv eX6_thingOf_30 (by decide) ?_
      refine wp_aload_n eX6_thingOf_31 rfl ?_
      refine wp_getI (v := S 10 12) eX6_thingOf_32 hM.ob rfl rfl ?_
      refine wp_icmp eX6_thingOf_35 (fun (c_35 : (S 10 12) ≤ (x / 100)) => ?_) (fun (c_35 : ¬ ((S 10 12) ≤ (x / 100))) => ?_)
      · refine wp_bipush (v := (-3)) eX6_thingOf_45 rfl ?_
        exact wp_iret eX6_thingOf_47 ⟨congrArg (fun z => some (Value.int z)) (by unfold sThOf; (repeat' split) <;> first | rfl | (exfalso; simp_all; done) | (exfalso; simp only [Int32.lt_iff_toInt_lt, Int32.le_iff_toInt_le, ← Int32.toInt_inj] at *; omega)), rfl⟩
      · refine wp_iload_n eX6_thingOf_38 rfl ?_
        refine wp_bipush (v := 100) eX6_thingOf_39 rfl ?_
        refine wp_idiv eX6_thingOf_41 (by decide) ?_
        refine wp_goto eX6_thingOf_42 ?_
        exact wp_iret eX6_thingOf_47 ⟨congrArg (fun z => some (Value.int z)) (by unfold sThOf; (repeat' split) <;> first | rfl | (exfalso; simp_all; done) | (exfalso; simp only [Int32.lt_iff_toInt_lt, Int32.le_iff_toInt_le, ← Int32.toInt_inj] at *; omega)), rfl⟩
    · refine wp_bipush (v := (-2)) eX6_thingOf_24 rfl ?_
      exact wp_iret eX6_thingOf_26 ⟨congrArg (fun z => some (Value.int z)) (by unfold sThOf; (repeat' split) <;> first | rfl | (exfalso; simp_all; done) | (exfalso; simp only [Int32.lt_iff_toInt_lt, Int32.le_iff_toInt_le, ← Int32.toInt_inj] at *; omega)), rfl⟩

set_option maxRecDepth 4000 in
theorem rX6_isClaim (d : Nat) {h : Hp} (hM : MOK h) (S : St) (c : Int32) : Res (d + 2) nX6_isClaim [.ref 10, .int c] (am_wi h S) (some (.int (sIn c 0 (S 10 29 - 1)))) (am_wi h S) := by
  refine Res_intro (ls := [some (.ref 10), some (.int c)]) aX6_isClaim rfl rfl rfl rfl ?_
  show WP kX6_isClaim _ _ _ _ _ _
  refine wp_iload_n eX6_isClaim_0 rfl ?_
  refine wp_iconst (v := 0) eX6_isClaim_1 rfl ?_
  refine wp_aload_n eX6_isClaim_2 rfl ?_
  refine wp_getI (v := S 10 29) eX6_isClaim_3 hM.ob rfl rfl ?_
  refine wp_iconst (v := 1) eX6_isClaim_6 rfl ?_
  refine wp_isub eX6_isClaim_7 ?_
  refine wp_stat (rv := (some (.int (sIn c 0 ((S 10 29) - 1))))) (h' := am_wi h S) (r := []) eX6_isClaim_8 [.int c, .int 0, .int ((S 10 29) - 1)] rfl rfl rfl rfl (rX6_in _ _ _ _ _) ?_
  exact wp_zret eX6_isClaim_11 (sIn_01 _ _ _) ⟨congrArg (fun z => some (Value.int z)) (rfl), rfl⟩
end
