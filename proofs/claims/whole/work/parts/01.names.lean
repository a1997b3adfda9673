-- ===== PART A: goes FIRST, ahead of the names: the tables' words, and 'selects' of the private methods out of them =====
/-- a private method of a class that the tables say can be made, by its rows of tables_1 -/
def lw_okq (q : MethodName × Nat) : Prop := (q.1.cls ≠ "java/lang/invoke/MethodHandle" ∧ q.1.cls ≠ "java/lang/invoke/VarHandle") ∧ Cond.instantiable q.1.cls q.2 ∈ tables_1 ∧ Cond.privateMethod q.1 ∈ tables_1 ∧ Cond.instanceMethod q.1 ∈ tables_1
theorem lw_p0 : lw_okq (⟨"LuggageCounter", "letOldCoinsFall", "()V"⟩, 15) := ⟨⟨by decide +kernel, by decide +kernel⟩, List.mem_of_getElem? (i := 10) (by decide +kernel), List.mem_of_getElem? (i := 95) (by decide +kernel), List.mem_of_getElem? (i := 96) (by decide +kernel)⟩
theorem lw_p1 : lw_okq (⟨"LuggageCounter", "today", "()I"⟩, 15) := ⟨⟨by decide +kernel, by decide +kernel⟩, List.mem_of_getElem? (i := 10) (by decide +kernel), List.mem_of_getElem? (i := 99) (by decide +kernel), List.mem_of_getElem? (i := 100) (by decide +kernel)⟩
theorem lw_p2 : lw_okq (⟨"LuggageCounter", "lastRowDay", "()I"⟩, 15) := ⟨⟨by decide +kernel, by decide +kernel⟩, List.mem_of_getElem? (i := 10) (by decide +kernel), List.mem_of_getElem? (i := 120) (by decide +kernel), List.mem_of_getElem? (i := 121) (by decide +kernel)⟩
theorem lw_p3 : lw_okq (⟨"LuggageCounter", "isOpen", "()Z"⟩, 15) := ⟨⟨by decide +kernel, by decide +kernel⟩, List.mem_of_getElem? (i := 10) (by decide +kernel), List.mem_of_getElem? (i := 197) (by decide +kernel), List.mem_of_getElem? (i := 198) (by decide +kernel)⟩
theorem lw_p4 : lw_okq (⟨"LuggageCounter", "shelfForNew", "(LLuggageCounter$Thing;)LLuggageCounter$Shelf;"⟩, 15) := ⟨⟨by decide +kernel, by decide +kernel⟩, List.mem_of_getElem? (i := 10) (by decide +kernel), List.mem_of_getElem? (i := 258) (by decide +kernel), List.mem_of_getElem? (i := 259) (by decide +kernel)⟩
theorem lw_p5 : lw_okq (⟨"LuggageCounter", "isNearer", "(LLuggageCounter$Shelf;LLuggageCounter$Shelf;LLuggageCounter$Thing;)Z"⟩, 15) := ⟨⟨by decide +kernel, by decide +kernel⟩, List.mem_of_getElem? (i := 10) (by decide +kernel), List.mem_of_getElem? (i := 270) (by decide +kernel), List.mem_of_getElem? (i := 271) (by decide +kernel)⟩
theorem lw_p6 : lw_okq (⟨"LuggageCounter", "thingAt", "(I)LLuggageCounter$Thing;"⟩, 15) := ⟨⟨by decide +kernel, by decide +kernel⟩, List.mem_of_getElem? (i := 10) (by decide +kernel), List.mem_of_getElem? (i := 308) (by decide +kernel), List.mem_of_getElem? (i := 309) (by decide +kernel)⟩
theorem lw_p7 : lw_okq (⟨"LuggageCounter", "feeOf", "(LLuggageCounter$Thing;)I"⟩, 15) := ⟨⟨by decide +kernel, by decide +kernel⟩, List.mem_of_getElem? (i := 10) (by decide +kernel), List.mem_of_getElem? (i := 312) (by decide +kernel), List.mem_of_getElem? (i := 313) (by decide +kernel)⟩
theorem lw_p8 : lw_okq (⟨"LuggageCounter", "rowOn", "(I)LLuggageCounter$PriceRow;"⟩, 15) := ⟨⟨by decide +kernel, by decide +kernel⟩, List.mem_of_getElem? (i := 10) (by decide +kernel), List.mem_of_getElem? (i := 316) (by decide +kernel), List.mem_of_getElem? (i := 317) (by decide +kernel)⟩
theorem lw_p9 : lw_okq (⟨"LuggageCounter", "takeAway", "(LLuggageCounter$Thing;I)V"⟩, 15) := ⟨⟨by decide +kernel, by decide +kernel⟩, List.mem_of_getElem? (i := 10) (by decide +kernel), List.mem_of_getElem? (i := 338) (by decide +kernel), List.mem_of_getElem? (i := 339) (by decide +kernel)⟩
theorem lw_p10 : lw_okq (⟨"LuggageCounter", "claimAt", "(I)LLuggageCounter$Claim;"⟩, 15) := ⟨⟨by decide +kernel, by decide +kernel⟩, List.mem_of_getElem? (i := 10) (by decide +kernel), List.mem_of_getElem? (i := 371) (by decide +kernel), List.mem_of_getElem? (i := 372) (by decide +kernel)⟩
theorem lw_p11 : lw_okq (⟨"LuggageCounter", "meantBy", "(LLuggageCounter$Claim;)I"⟩, 15) := ⟨⟨by decide +kernel, by decide +kernel⟩, List.mem_of_getElem? (i := 10) (by decide +kernel), List.mem_of_getElem? (i := 375) (by decide +kernel), List.mem_of_getElem? (i := 376) (by decide +kernel)⟩
theorem lw_p12 : lw_okq (⟨"LuggageCounter", "greatestHeap", "(LLuggageCounter$Claim;I)I"⟩, 15) := ⟨⟨by decide +kernel, by decide +kernel⟩, List.mem_of_getElem? (i := 10) (by decide +kernel), List.mem_of_getElem? (i := 395) (by decide +kernel), List.mem_of_getElem? (i := 396) (by decide +kernel)⟩
theorem lw_p13 : lw_okq (⟨"LuggageCounter", "firstMeantBy", "(LLuggageCounter$Claim;)I"⟩, 15) := ⟨⟨by decide +kernel, by decide +kernel⟩, List.mem_of_getElem? (i := 10) (by decide +kernel), List.mem_of_getElem? (i := 409) (by decide +kernel), List.mem_of_getElem? (i := 410) (by decide +kernel)⟩
theorem lw_p14 : lw_okq (⟨"LuggageCounter", "isContested", "(LLuggageCounter$Claim;LLuggageCounter$Thing;)Z"⟩, 15) := ⟨⟨by decide +kernel, by decide +kernel⟩, List.mem_of_getElem? (i := 10) (by decide +kernel), List.mem_of_getElem? (i := 413) (by decide +kernel), List.mem_of_getElem? (i := 414) (by decide +kernel)⟩
theorem lw_p15 : lw_okq (⟨"LuggageCounter", "makeBestMove", "()Z"⟩, 15) := ⟨⟨by decide +kernel, by decide +kernel⟩, List.mem_of_getElem? (i := 10) (by decide +kernel), List.mem_of_getElem? (i := 430) (by decide +kernel), List.mem_of_getElem? (i := 431) (by decide +kernel)⟩
def lw_privs_1 : List (MethodName × Nat) := [(⟨"LuggageCounter", "letOldCoinsFall", "()V"⟩, 15), (⟨"LuggageCounter", "today", "()I"⟩, 15), (⟨"LuggageCounter", "lastRowDay", "()I"⟩, 15), (⟨"LuggageCounter", "isOpen", "()Z"⟩, 15), (⟨"LuggageCounter", "shelfForNew", "(LLuggageCounter$Thing;)LLuggageCounter$Shelf;"⟩, 15), (⟨"LuggageCounter", "isNearer", "(LLuggageCounter$Shelf;LLuggageCounter$Shelf;LLuggageCounter$Thing;)Z"⟩, 15), (⟨"LuggageCounter", "thingAt", "(I)LLuggageCounter$Thing;"⟩, 15), (⟨"LuggageCounter", "feeOf", "(LLuggageCounter$Thing;)I"⟩, 15), (⟨"LuggageCounter", "rowOn", "(I)LLuggageCounter$PriceRow;"⟩, 15), (⟨"LuggageCounter", "takeAway", "(LLuggageCounter$Thing;I)V"⟩, 15), (⟨"LuggageCounter", "claimAt", "(I)LLuggageCounter$Claim;"⟩, 15), (⟨"LuggageCounter", "meantBy", "(LLuggageCounter$Claim;)I"⟩, 15), (⟨"LuggageCounter", "greatestHeap", "(LLuggageCounter$Claim;I)I"⟩, 15), (⟨"LuggageCounter", "firstMeantBy", "(LLuggageCounter$Claim;)I"⟩, 15), (⟨"LuggageCounter", "isContested", "(LLuggageCounter$Claim;LLuggageCounter$Thing;)Z"⟩, 15), (⟨"LuggageCounter", "makeBestMove", "()Z"⟩, 15)]
theorem lw_r1 : ∀ q ∈ lw_privs_1, lw_okq q := List.forall_mem_cons.mpr ⟨lw_p0, List.forall_mem_cons.mpr ⟨lw_p1, List.forall_mem_cons.mpr ⟨lw_p2, List.forall_mem_cons.mpr ⟨lw_p3, List.forall_mem_cons.mpr ⟨lw_p4, List.forall_mem_cons.mpr ⟨lw_p5, List.forall_mem_cons.mpr ⟨lw_p6, List.forall_mem_cons.mpr ⟨lw_p7, List.forall_mem_cons.mpr ⟨lw_p8, List.forall_mem_cons.mpr ⟨lw_p9, List.forall_mem_cons.mpr ⟨lw_p10, List.forall_mem_cons.mpr ⟨lw_p11, List.forall_mem_cons.mpr ⟨lw_p12, List.forall_mem_cons.mpr ⟨lw_p13, List.forall_mem_cons.mpr ⟨lw_p14, List.forall_mem_cons.mpr ⟨lw_p15, fun _ h => absurd h List.not_mem_nil⟩⟩⟩⟩⟩⟩⟩⟩⟩⟩⟩⟩⟩⟩⟩⟩
theorem lw_p16 : lw_okq (⟨"LuggageCounter", "shelfForMove", "(LLuggageCounter$Thing;)LLuggageCounter$Shelf;"⟩, 15) := ⟨⟨by decide +kernel, by decide +kernel⟩, List.mem_of_getElem? (i := 10) (by decide +kernel), List.mem_of_getElem? (i := 434) (by decide +kernel), List.mem_of_getElem? (i := 435) (by decide +kernel)⟩
theorem lw_p17 : lw_okq (⟨"LuggageCounter", "move", "(LLuggageCounter$Thing;LLuggageCounter$Shelf;)V"⟩, 15) := ⟨⟨by decide +kernel, by decide +kernel⟩, List.mem_of_getElem? (i := 10) (by decide +kernel), List.mem_of_getElem? (i := 438) (by decide +kernel), List.mem_of_getElem? (i := 439) (by decide +kernel)⟩
theorem lw_p18 : lw_okq (⟨"LuggageCounter$Arranger", "fullSet", "()I"⟩, 3) := ⟨⟨by decide +kernel, by decide +kernel⟩, List.mem_of_getElem? (i := 26) (by decide +kernel), List.mem_of_getElem? (i := 459) (by decide +kernel), List.mem_of_getElem? (i := 460) (by decide +kernel)⟩
theorem lw_p19 : lw_okq (⟨"LuggageCounter$Arranger", "partSum", "(ILLuggageCounter$Shelf;I)I"⟩, 3) := ⟨⟨by decide +kernel, by decide +kernel⟩, List.mem_of_getElem? (i := 26) (by decide +kernel), List.mem_of_getElem? (i := 463) (by decide +kernel), List.mem_of_getElem? (i := 464) (by decide +kernel)⟩
theorem lw_p20 : lw_okq (⟨"LuggageCounter", "shelfAt", "(I)LLuggageCounter$Shelf;"⟩, 15) := ⟨⟨by decide +kernel, by decide +kernel⟩, List.mem_of_getElem? (i := 10) (by decide +kernel), List.mem_of_getElem? (i := 487) (by decide +kernel), List.mem_of_getElem? (i := 488) (by decide +kernel)⟩
theorem lw_p21 : lw_okq (⟨"LuggageCounter", "thingsIn", "()I"⟩, 15) := ⟨⟨by decide +kernel, by decide +kernel⟩, List.mem_of_getElem? (i := 10) (by decide +kernel), List.mem_of_getElem? (i := 519) (by decide +kernel), List.mem_of_getElem? (i := 520) (by decide +kernel)⟩
theorem lw_p22 : lw_okq (⟨"LuggageCounter", "coinsKept", "()I"⟩, 15) := ⟨⟨by decide +kernel, by decide +kernel⟩, List.mem_of_getElem? (i := 10) (by decide +kernel), List.mem_of_getElem? (i := 523) (by decide +kernel), List.mem_of_getElem? (i := 524) (by decide +kernel)⟩
theorem lw_p23 : lw_okq (⟨"LuggageCounterModel", "isOpen", "()Z"⟩, 36) := ⟨⟨by decide +kernel, by decide +kernel⟩, List.mem_of_getElem? (i := 527) (by decide +kernel), List.mem_of_getElem? (i := 668) (by decide +kernel), List.mem_of_getElem? (i := 669) (by decide +kernel)⟩
theorem lw_p24 : lw_okq (⟨"LuggageCounterModel", "fits", "(II)Z"⟩, 36) := ⟨⟨by decide +kernel, by decide +kernel⟩, List.mem_of_getElem? (i := 527) (by decide +kernel), List.mem_of_getElem? (i := 672) (by decide +kernel), List.mem_of_getElem? (i := 673) (by decide +kernel)⟩
theorem lw_p25 : lw_okq (⟨"LuggageCounterModel", "suits", "(II)Z"⟩, 36) := ⟨⟨by decide +kernel, by decide +kernel⟩, List.mem_of_getElem? (i := 527) (by decide +kernel), List.mem_of_getElem? (i := 676) (by decide +kernel), List.mem_of_getElem? (i := 677) (by decide +kernel)⟩
theorem lw_p26 : lw_okq (⟨"LuggageCounterModel", "free", "(I)I"⟩, 36) := ⟨⟨by decide +kernel, by decide +kernel⟩, List.mem_of_getElem? (i := 527) (by decide +kernel), List.mem_of_getElem? (i := 680) (by decide +kernel), List.mem_of_getElem? (i := 681) (by decide +kernel)⟩
theorem lw_p27 : lw_okq (⟨"LuggageCounterModel", "misfitOn", "(II)I"⟩, 36) := ⟨⟨by decide +kernel, by decide +kernel⟩, List.mem_of_getElem? (i := 527) (by decide +kernel), List.mem_of_getElem? (i := 684) (by decide +kernel), List.mem_of_getElem? (i := 685) (by decide +kernel)⟩
theorem lw_p28 : lw_okq (⟨"LuggageCounterModel", "wanted", "(I)I"⟩, 36) := ⟨⟨by decide +kernel, by decide +kernel⟩, List.mem_of_getElem? (i := 527) (by decide +kernel), List.mem_of_getElem? (i := 688) (by decide +kernel), List.mem_of_getElem? (i := 689) (by decide +kernel)⟩
theorem lw_p29 : lw_okq (⟨"LuggageCounterModel", "thingOf", "(I)I"⟩, 36) := ⟨⟨by decide +kernel, by decide +kernel⟩, List.mem_of_getElem? (i := 527) (by decide +kernel), List.mem_of_getElem? (i := 702) (by decide +kernel), List.mem_of_getElem? (i := 703) (by decide +kernel)⟩
theorem lw_p30 : lw_okq (⟨"LuggageCounterModel", "feeOf", "(I)I"⟩, 36) := ⟨⟨by decide +kernel, by decide +kernel⟩, List.mem_of_getElem? (i := 527) (by decide +kernel), List.mem_of_getElem? (i := 706) (by decide +kernel), List.mem_of_getElem? (i := 707) (by decide +kernel)⟩
theorem lw_p31 : lw_okq (⟨"LuggageCounterModel", "rowOf", "(I)I"⟩, 36) := ⟨⟨by decide +kernel, by decide +kernel⟩, List.mem_of_getElem? (i := 527) (by decide +kernel), List.mem_of_getElem? (i := 710) (by decide +kernel), List.mem_of_getElem? (i := 711) (by decide +kernel)⟩
def lw_privs_2 : List (MethodName × Nat) := [(⟨"LuggageCounter", "shelfForMove", "(LLuggageCounter$Thing;)LLuggageCounter$Shelf;"⟩, 15), (⟨"LuggageCounter", "move", "(LLuggageCounter$Thing;LLuggageCounter$Shelf;)V"⟩, 15), (⟨"LuggageCounter$Arranger", "fullSet", "()I"⟩, 3), (⟨"LuggageCounter$Arranger", "partSum", "(ILLuggageCounter$Shelf;I)I"⟩, 3), (⟨"LuggageCounter", "shelfAt", "(I)LLuggageCounter$Shelf;"⟩, 15), (⟨"LuggageCounter", "thingsIn", "()I"⟩, 15), (⟨"LuggageCounter", "coinsKept", "()I"⟩, 15), (⟨"LuggageCounterModel", "isOpen", "()Z"⟩, 36), (⟨"LuggageCounterModel", "fits", "(II)Z"⟩, 36), (⟨"LuggageCounterModel", "suits", "(II)Z"⟩, 36), (⟨"LuggageCounterModel", "free", "(I)I"⟩, 36), (⟨"LuggageCounterModel", "misfitOn", "(II)I"⟩, 36), (⟨"LuggageCounterModel", "wanted", "(I)I"⟩, 36), (⟨"LuggageCounterModel", "thingOf", "(I)I"⟩, 36), (⟨"LuggageCounterModel", "feeOf", "(I)I"⟩, 36), (⟨"LuggageCounterModel", "rowOf", "(I)I"⟩, 36)]
theorem lw_r2 : ∀ q ∈ lw_privs_2, lw_okq q := List.forall_mem_cons.mpr ⟨lw_p16, List.forall_mem_cons.mpr ⟨lw_p17, List.forall_mem_cons.mpr ⟨lw_p18, List.forall_mem_cons.mpr ⟨lw_p19, List.forall_mem_cons.mpr ⟨lw_p20, List.forall_mem_cons.mpr ⟨lw_p21, List.forall_mem_cons.mpr ⟨lw_p22, List.forall_mem_cons.mpr ⟨lw_p23, List.forall_mem_cons.mpr ⟨lw_p24, List.forall_mem_cons.mpr ⟨lw_p25, List.forall_mem_cons.mpr ⟨lw_p26, List.forall_mem_cons.mpr ⟨lw_p27, List.forall_mem_cons.mpr ⟨lw_p28, List.forall_mem_cons.mpr ⟨lw_p29, List.forall_mem_cons.mpr ⟨lw_p30, List.forall_mem_cons.mpr ⟨lw_p31, fun _ h => absurd h List.not_mem_nil⟩⟩⟩⟩⟩⟩⟩⟩⟩⟩⟩⟩⟩⟩⟩⟩
theorem lw_p32 : lw_okq (⟨"LuggageCounterModel", "leaves", "(II)V"⟩, 36) := ⟨⟨by decide +kernel, by decide +kernel⟩, List.mem_of_getElem? (i := 527) (by decide +kernel), List.mem_of_getElem? (i := 719) (by decide +kernel), List.mem_of_getElem? (i := 720) (by decide +kernel)⟩
theorem lw_p33 : lw_okq (⟨"LuggageCounterModel", "isClaim", "(I)Z"⟩, 36) := ⟨⟨by decide +kernel, by decide +kernel⟩, List.mem_of_getElem? (i := 527) (by decide +kernel), List.mem_of_getElem? (i := 731) (by decide +kernel), List.mem_of_getElem? (i := 732) (by decide +kernel)⟩
theorem lw_p34 : lw_okq (⟨"LuggageCounterModel", "isMeant", "(II)Z"⟩, 36) := ⟨⟨by decide +kernel, by decide +kernel⟩, List.mem_of_getElem? (i := 527) (by decide +kernel), List.mem_of_getElem? (i := 735) (by decide +kernel), List.mem_of_getElem? (i := 736) (by decide +kernel)⟩
theorem lw_p35 : lw_okq (⟨"LuggageCounterModel", "manyTold", "(I)I"⟩, 36) := ⟨⟨by decide +kernel, by decide +kernel⟩, List.mem_of_getElem? (i := 527) (by decide +kernel), List.mem_of_getElem? (i := 755) (by decide +kernel), List.mem_of_getElem? (i := 756) (by decide +kernel)⟩
theorem lw_p36 : lw_okq (⟨"LuggageCounterModel", "meant", "(I)I"⟩, 36) := ⟨⟨by decide +kernel, by decide +kernel⟩, List.mem_of_getElem? (i := 527) (by decide +kernel), List.mem_of_getElem? (i := 759) (by decide +kernel), List.mem_of_getElem? (i := 760) (by decide +kernel)⟩
def lw_privs_3 : List (MethodName × Nat) := [(⟨"LuggageCounterModel", "leaves", "(II)V"⟩, 36), (⟨"LuggageCounterModel", "isClaim", "(I)Z"⟩, 36), (⟨"LuggageCounterModel", "isMeant", "(II)Z"⟩, 36), (⟨"LuggageCounterModel", "manyTold", "(I)I"⟩, 36), (⟨"LuggageCounterModel", "meant", "(I)I"⟩, 36)]
theorem lw_r3 : ∀ q ∈ lw_privs_3, lw_okq q := List.forall_mem_cons.mpr ⟨lw_p32, List.forall_mem_cons.mpr ⟨lw_p33, List.forall_mem_cons.mpr ⟨lw_p34, List.forall_mem_cons.mpr ⟨lw_p35, List.forall_mem_cons.mpr ⟨lw_p36, fun _ h => absurd h List.not_mem_nil⟩⟩⟩⟩⟩
def lw_privs : List (MethodName × Nat) := lw_privs_1 ++ (lw_privs_2 ++ (lw_privs_3))
def lw_tbl : List Cond := k2_sels lw_privs ++ tables_1
theorem lw_privs_ok : ∀ q ∈ lw_privs, lw_okq q := by
  show ∀ q ∈ lw_privs_1 ++ (lw_privs_2 ++ (lw_privs_3)), lw_okq q
  exact List.forall_mem_append.mpr ⟨lw_r1, List.forall_mem_append.mpr ⟨lw_r2, lw_r3⟩⟩
-- ===== the printed names (kit: claim/NAMES.whole.lean.txt, its head) =====
/-! ===== BEGIN words of one list among another's, by their places ===== -/
theorem goodIn_r {big : List Cond} (ws : List Cond) (ps : List Nat) (hp : ws = ps.filterMap (fun i => big[i]?)) (h : ws.all goodWord = true) : GoodIn big ws := by
  intro w hw
  have h1 := List.all_eq_true.mp h w hw
  rw [hp] at hw
  obtain ⟨i, -, hi⟩ := List.mem_filterMap.mp hw
  have hm : w ∈ big := by first | exact List.mem_of_getElem? hi | exact List.getElem?_mem hi
  exact ⟨hm, good_of_word h1⟩
theorem goodIn_app {big a b : List Cond} (ha : GoodIn big a) (hb : GoodIn big b) : GoodIn big (a ++ b) := fun w h => (List.mem_append.mp h).elim (ha w) (hb w)
theorem goodIn_ca {big a b : List Cond} {c : Cond} (ha : GoodIn big (c :: a)) (hb : GoodIn big b) : GoodIn big (c :: (a ++ b)) := fun w h => (List.mem_cons.mp h).elim (fun e => ha w (List.mem_cons.mpr (Or.inl e))) (fun h => (List.mem_append.mp h).elim (fun h => ha w (List.mem_cons.mpr (Or.inr h))) (hb w))
theorem goodIn_sub {big ws : List Cond} (hm : ∀ w ∈ ws, w ∈ big) (h : ws.all goodWord = true) : GoodIn big ws := fun w hw => ⟨hm w hw, good_of_word (List.all_eq_true.mp h w hw)⟩
/-! ===== END ===== -/

/-! ===== BEGIN printed: names, fields, word lists, decode rows ===== -/
def RX0 : String := "LuggageCounter$Arranger"
def TX0 : u_T := fun k => match k with
  | 0 => ("LuggageCounter$Arranger", "loose", "[LLuggageCounter$Thing;", true)
  | 1 => ("LuggageCounter$Arranger", "sums", "[I", true)
  | _ => ("LuggageCounter$Arranger", "size", "I", false)
def tyX0 : Nat → FieldType := fun k => match k with
  | 0 => .array (.object "LuggageCounter$Thing")
  | 1 => .array .int
  | _ => .int
abbrev wsX00 : List Cond := u_ws RX0 TX0 3
theorem nmX0 : ∀ a, a < 3 → ∀ b, b < 3 → a ≠ b → (TX0 a).2.1 ≠ (TX0 b).2.1 := by decide +kernel
theorem tyX0_ok : ∀ k, k < 3 → parseFieldDescriptor (TX0 k).2.2.1 = some (tyX0 k) := by decide +kernel
abbrev cX0_init : ByteArray := prog_2_method_1_code
def yX0_init : MethodName := ⟨RX0, "<init>", "()V"⟩
abbrev cX0_clear : ByteArray := prog_2_method_2_code
def yX0_clear : MethodName := ⟨RX0, "clear", "()V"⟩
abbrev cX0_add : ByteArray := prog_2_method_3_code
def yX0_add : MethodName := ⟨RX0, "add", "(LLuggageCounter$Thing;)Z"⟩
abbrev cX0_offer : ByteArray := prog_2_method_4_code
def yX0_offer : MethodName := ⟨RX0, "offer", "(LLuggageCounter$Shelf;I)V"⟩
abbrev cX0_leastSum : ByteArray := prog_2_method_5_code
def yX0_leastSum : MethodName := ⟨RX0, "leastSum", "()I"⟩
abbrev cX0_fullSet : ByteArray := prog_2_method_6_code
def yX0_fullSet : MethodName := ⟨RX0, "fullSet", "()I"⟩
abbrev cX0_partSum : ByteArray := prog_2_method_7_code
def yX0_partSum : MethodName := ⟨RX0, "partSum", "(ILLuggageCounter$Shelf;I)I"⟩
def RX1 : String := "LuggageCounter$Claim"
def TX1 : u_T := fun k => match k with
  | 0 => ("LuggageCounter$Claim", "told", "[I", true)
  | 1 => ("LuggageCounter$Claim", "done", "Z", false)
  | _ => ("LuggageCounter$Claim", "got", "I", false)
def tyX1 : Nat → FieldType := fun k => match k with
  | 0 => .array .int
  | 1 => .boolean
  | _ => .int
abbrev wsX10 : List Cond := u_ws RX1 TX1 3
theorem nmX1 : ∀ a, a < 3 → ∀ b, b < 3 → a ≠ b → (TX1 a).2.1 ≠ (TX1 b).2.1 := by decide +kernel
theorem tyX1_ok : ∀ k, k < 3 → parseFieldDescriptor (TX1 k).2.2.1 = some (tyX1 k) := by decide +kernel
abbrev cX1_init : ByteArray := prog_3_method_1_code
def yX1_init : MethodName := ⟨RX1, "<init>", "()V"⟩
abbrev cX1_toldCount : ByteArray := prog_3_method_2_code
def yX1_toldCount : MethodName := ⟨RX1, "toldCount", "()I"⟩
abbrev cX1_isAbout : ByteArray := prog_3_method_3_code
def yX1_isAbout : MethodName := ⟨RX1, "isAbout", "(LLuggageCounter$Thing;)Z"⟩
def RX2 : String := "LuggageCounter$PriceRow"
def TX2 : u_T := fun k => match k with
  | 0 => ("LuggageCounter$PriceRow", "from", "I", true)
  | 1 => ("LuggageCounter$PriceRow", "base", "I", true)
  | 2 => ("LuggageCounter$PriceRow", "aDay", "I", true)
  | 3 => ("LuggageCounter$PriceRow", "aSize", "I", true)
  | _ => ("LuggageCounter$PriceRow", "cold", "I", true)
def tyX2 : Nat → FieldType := fun k => match k with
  | 0 => .int
  | 1 => .int
  | 2 => .int
  | 3 => .int
  | _ => .int
abbrev wsX20 : List Cond := u_ws RX2 TX2 5
theorem nmX2 : ∀ a, a < 5 → ∀ b, b < 5 → a ≠ b → (TX2 a).2.1 ≠ (TX2 b).2.1 := by decide +kernel
theorem tyX2_ok : ∀ k, k < 5 → parseFieldDescriptor (TX2 k).2.2.1 = some (tyX2 k) := by decide +kernel
abbrev cX2_init : ByteArray := prog_4_method_1_code
def yX2_init : MethodName := ⟨RX2, "<init>", "(IIIII)V"⟩
abbrev cX2_dayPrice : ByteArray := prog_4_method_2_code
def yX2_dayPrice : MethodName := ⟨RX2, "dayPrice", "(LLuggageCounter$Thing;)I"⟩
def RX3 : String := "LuggageCounter$Shelf"
def TX3 : u_T := fun k => match k with
  | 0 => ("LuggageCounter$Shelf", "number", "I", true)
  | 1 => ("LuggageCounter$Shelf", "room", "I", true)
  | 2 => ("LuggageCounter$Shelf", "height", "I", true)
  | 3 => ("LuggageCounter$Shelf", "cold", "Z", true)
  | 4 => ("LuggageCounter$Shelf", "distance", "I", true)
  | 5 => ("LuggageCounter$Shelf", "free", "I", false)
  | 6 => ("LuggageCounter$Shelf", "load", "I", false)
  | _ => ("LuggageCounter$Shelf", "torn", "Z", false)
def tyX3 : Nat → FieldType := fun k => match k with
  | 0 => .int
  | 1 => .int
  | 2 => .int
  | 3 => .boolean
  | 4 => .int
  | 5 => .int
  | 6 => .int
  | _ => .boolean
abbrev wsX30 : List Cond := u_ws RX3 TX3 8
theorem nmX3 : ∀ a, a < 8 → ∀ b, b < 8 → a ≠ b → (TX3 a).2.1 ≠ (TX3 b).2.1 := by decide +kernel
theorem tyX3_ok : ∀ k, k < 8 → parseFieldDescriptor (TX3 k).2.2.1 = some (tyX3 k) := by decide +kernel
abbrev cX3_init : ByteArray := prog_5_method_1_code
def yX3_init : MethodName := ⟨RX3, "<init>", "(IIIZI)V"⟩
abbrev cX3_suits : ByteArray := prog_5_method_2_code
def yX3_suits : MethodName := ⟨RX3, "suits", "(LLuggageCounter$Thing;)Z"⟩
abbrev cX3_fits : ByteArray := prog_5_method_3_code
def yX3_fits : MethodName := ⟨RX3, "fits", "(LLuggageCounter$Thing;)Z"⟩
abbrev cX3_take : ByteArray := prog_5_method_4_code
def yX3_take : MethodName := ⟨RX3, "take", "(LLuggageCounter$Thing;)V"⟩
abbrev cX3_release : ByteArray := prog_5_method_5_code
def yX3_release : MethodName := ⟨RX3, "release", "(LLuggageCounter$Thing;)V"⟩
def RX4 : String := "LuggageCounter$Thing"
def TX4 : u_T := fun k => match k with
  | 0 => ("LuggageCounter$Thing", "size", "I", true)
  | 1 => ("LuggageCounter$Thing", "height", "I", true)
  | 2 => ("LuggageCounter$Thing", "cold", "Z", true)
  | 3 => ("LuggageCounter$Thing", "locked", "Z", true)
  | 4 => ("LuggageCounter$Thing", "marks", "I", true)
  | 5 => ("LuggageCounter$Thing", "due", "I", true)
  | 6 => ("LuggageCounter$Thing", "came", "I", true)
  | 7 => ("LuggageCounter$Thing", "how", "I", false)
  | 8 => ("LuggageCounter$Thing", "place", "LLuggageCounter$Shelf;", false)
  | 9 => ("LuggageCounter$Thing", "coins", "I", false)
  | _ => ("LuggageCounter$Thing", "soldDay", "I", false)
def tyX4 : Nat → FieldType := fun k => match k with
  | 0 => .int
  | 1 => .int
  | 2 => .boolean
  | 3 => .boolean
  | 4 => .int
  | 5 => .int
  | 6 => .int
  | 7 => .int
  | 8 => .object "LuggageCounter$Shelf"
  | 9 => .int
  | _ => .int
abbrev wsX40 : List Cond := u_ws RX4 TX4 11
theorem nmX4 : ∀ a, a < 11 → ∀ b, b < 11 → a ≠ b → (TX4 a).2.1 ≠ (TX4 b).2.1 := by decide +kernel
theorem tyX4_ok : ∀ k, k < 11 → parseFieldDescriptor (TX4 k).2.2.1 = some (tyX4 k) := by decide +kernel
abbrev cX4_init : ByteArray := prog_6_method_1_code
def yX4_init : MethodName := ⟨RX4, "<init>", "(IIZZIII)V"⟩
abbrev cX4_dueDay : ByteArray := prog_6_method_2_code
def yX4_dueDay : MethodName := ⟨RX4, "dueDay", "()I"⟩
abbrev cX4_markAt : ByteArray := prog_6_method_3_code
def yX4_markAt : MethodName := ⟨RX4, "markAt", "(I)I"⟩
abbrev cX4_wanted : ByteArray := prog_6_method_4_code
def yX4_wanted : MethodName := ⟨RX4, "wanted", "(I)I"⟩
abbrev cX4_misfitOn : ByteArray := prog_6_method_5_code
def yX4_misfitOn : MethodName := ⟨RX4, "misfitOn", "(LLuggageCounter$Shelf;I)I"⟩
abbrev cX4_misfitHere : ByteArray := prog_6_method_6_code
def yX4_misfitHere : MethodName := ⟨RX4, "misfitHere", "(I)I"⟩
abbrev cX4_placeNumber : ByteArray := prog_6_method_7_code
def yX4_placeNumber : MethodName := ⟨RX4, "placeNumber", "()I"⟩
abbrev cX4_isStuck : ByteArray := prog_6_method_8_code
def yX4_isStuck : MethodName := ⟨RX4, "isStuck", "()Z"⟩
def RX5 : String := "LuggageCounter"
def TX5 : u_T := fun k => match k with
  | 0 => ("LuggageCounter", "shelves", "[LLuggageCounter$Shelf;", true)
  | 1 => ("LuggageCounter", "shelfCount", "I", false)
  | 2 => ("LuggageCounter", "things", "[LLuggageCounter$Thing;", true)
  | 3 => ("LuggageCounter", "thingCount", "I", false)
  | 4 => ("LuggageCounter", "claims", "[LLuggageCounter$Claim;", true)
  | 5 => ("LuggageCounter", "claimCount", "I", false)
  | 6 => ("LuggageCounter", "rows", "[LLuggageCounter$PriceRow;", true)
  | 7 => ("LuggageCounter", "rowCount", "I", false)
  | 8 => ("LuggageCounter", "heaps", "[I", true)
  | 9 => ("LuggageCounter", "arranger", "LLuggageCounter$Arranger;", true)
  | 10 => ("LuggageCounter", "minute", "I", false)
  | 11 => ("LuggageCounter", "opens", "I", false)
  | 12 => ("LuggageCounter", "shuts", "I", false)
  | 13 => ("LuggageCounter", "till", "I", false)
  | _ => ("LuggageCounter", "steps", "I", false)
def tyX5 : Nat → FieldType := fun k => match k with
  | 0 => .array (.object "LuggageCounter$Shelf")
  | 1 => .int
  | 2 => .array (.object "LuggageCounter$Thing")
  | 3 => .int
  | 4 => .array (.object "LuggageCounter$Claim")
  | 5 => .int
  | 6 => .array (.object "LuggageCounter$PriceRow")
  | 7 => .int
  | 8 => .array .int
  | 9 => .object "LuggageCounter$Arranger"
  | 10 => .int
  | 11 => .int
  | 12 => .int
  | 13 => .int
  | _ => .int
abbrev wsX50 : List Cond := u_ws RX5 TX5 15
theorem nmX5 : ∀ a, a < 15 → ∀ b, b < 15 → a ≠ b → (TX5 a).2.1 ≠ (TX5 b).2.1 := by decide +kernel
theorem tyX5_ok : ∀ k, k < 15 → parseFieldDescriptor (TX5 k).2.2.1 = some (tyX5 k) := by decide +kernel
abbrev cX5_init : ByteArray := prog_1_method_1_code
def yX5_init : MethodName := ⟨RX5, "<init>", "()V"⟩
abbrev cX5_clock : ByteArray := prog_1_method_2_code
def yX5_clock : MethodName := ⟨RX5, "clock", "(I)I"⟩
abbrev cX5_hours : ByteArray := prog_1_method_3_code
def yX5_hours : MethodName := ⟨RX5, "hours", "(II)Z"⟩
abbrev cX5_prices : ByteArray := prog_1_method_4_code
def yX5_prices : MethodName := ⟨RX5, "prices", "(IIIII)Z"⟩
abbrev cX5_shelf : ByteArray := prog_1_method_5_code
def yX5_shelf : MethodName := ⟨RX5, "shelf", "(IIZI)I"⟩
abbrev cX5_put : ByteArray := prog_1_method_6_code
def yX5_put : MethodName := ⟨RX5, "put", "(IIZZII)I"⟩
abbrev cX5_fee : ByteArray := prog_1_method_7_code
def yX5_fee : MethodName := ⟨RX5, "fee", "(I)I"⟩
abbrev cX5_give : ByteArray := prog_1_method_8_code
def yX5_give : MethodName := ⟨RX5, "give", "(I)I"⟩
abbrev cX5_claim : ByteArray := prog_1_method_9_code
def yX5_claim : MethodName := ⟨RX5, "claim", "()I"⟩
abbrev cX5_mark : ByteArray := prog_1_method_10_code
def yX5_mark : MethodName := ⟨RX5, "mark", "(III)I"⟩
abbrev cX5_means : ByteArray := prog_1_method_11_code
def yX5_means : MethodName := ⟨RX5, "means", "(I)I"⟩
abbrev cX5_ask : ByteArray := prog_1_method_12_code
def yX5_ask : MethodName := ⟨RX5, "ask", "(I)I"⟩
abbrev cX5_settle : ByteArray := prog_1_method_13_code
def yX5_settle : MethodName := ⟨RX5, "settle", "(I)I"⟩
abbrev cX5_misfit : ByteArray := prog_1_method_14_code
def yX5_misfit : MethodName := ⟨RX5, "misfit", "()I"⟩
abbrev cX5_tidy : ByteArray := prog_1_method_15_code
def yX5_tidy : MethodName := ⟨RX5, "tidy", "(I)I"⟩
abbrev cX5_least : ByteArray := prog_1_method_16_code
def yX5_least : MethodName := ⟨RX5, "least", "()I"⟩
abbrev cX5_sell : ByteArray := prog_1_method_17_code
def yX5_sell : MethodName := ⟨RX5, "sell", "(II)I"⟩
abbrev cX5_pay : ByteArray := prog_1_method_18_code
def yX5_pay : MethodName := ⟨RX5, "pay", "(I)I"⟩
abbrev cX5_tear : ByteArray := prog_1_method_19_code
def yX5_tear : MethodName := ⟨RX5, "tear", "(I)Z"⟩
abbrev cX5_mend : ByteArray := prog_1_method_20_code
def yX5_mend : MethodName := ⟨RX5, "mend", "(I)Z"⟩
abbrev cX5_shelfOf : ByteArray := prog_1_method_21_code
def yX5_shelfOf : MethodName := ⟨RX5, "shelfOf", "(II)I"⟩
abbrev cX5_thing : ByteArray := prog_1_method_22_code
def yX5_thing : MethodName := ⟨RX5, "thing", "(II)I"⟩
abbrev cX5_claimOf : ByteArray := prog_1_method_23_code
def yX5_claimOf : MethodName := ⟨RX5, "claimOf", "(II)I"⟩
abbrev cX5_count : ByteArray := prog_1_method_24_code
def yX5_count : MethodName := ⟨RX5, "count", "(I)I"⟩
abbrev cX5_isWithin : ByteArray := prog_1_method_25_code
def yX5_isWithin : MethodName := ⟨RX5, "isWithin", "(III)Z"⟩
abbrev cX5_isPrice : ByteArray := prog_1_method_26_code
def yX5_isPrice : MethodName := ⟨RX5, "isPrice", "(I)Z"⟩
abbrev cX5_asNumber : ByteArray := prog_1_method_27_code
def yX5_asNumber : MethodName := ⟨RX5, "asNumber", "(Z)I"⟩
abbrev cX5_dayOf : ByteArray := prog_1_method_28_code
def yX5_dayOf : MethodName := ⟨RX5, "dayOf", "(I)I"⟩
abbrev cX5_today : ByteArray := prog_1_method_29_code
def yX5_today : MethodName := ⟨RX5, "today", "()I"⟩
abbrev cX5_isOpen : ByteArray := prog_1_method_30_code
def yX5_isOpen : MethodName := ⟨RX5, "isOpen", "()Z"⟩
abbrev cX5_shelfAt : ByteArray := prog_1_method_31_code
def yX5_shelfAt : MethodName := ⟨RX5, "shelfAt", "(I)LLuggageCounter$Shelf;"⟩
abbrev cX5_thingAt : ByteArray := prog_1_method_32_code
def yX5_thingAt : MethodName := ⟨RX5, "thingAt", "(I)LLuggageCounter$Thing;"⟩
abbrev cX5_claimAt : ByteArray := prog_1_method_33_code
def yX5_claimAt : MethodName := ⟨RX5, "claimAt", "(I)LLuggageCounter$Claim;"⟩
abbrev cX5_ticketOf : ByteArray := prog_1_method_34_code
def yX5_ticketOf : MethodName := ⟨RX5, "ticketOf", "(I)I"⟩
abbrev cX5_checkOf : ByteArray := prog_1_method_35_code
def yX5_checkOf : MethodName := ⟨RX5, "checkOf", "(I)I"⟩
abbrev cX5_isTicket : ByteArray := prog_1_method_36_code
def yX5_isTicket : MethodName := ⟨RX5, "isTicket", "(I)Z"⟩
abbrev cX5_lastRowDay : ByteArray := prog_1_method_37_code
def yX5_lastRowDay : MethodName := ⟨RX5, "lastRowDay", "()I"⟩
abbrev cX5_rowOn : ByteArray := prog_1_method_38_code
def yX5_rowOn : MethodName := ⟨RX5, "rowOn", "(I)LLuggageCounter$PriceRow;"⟩
abbrev cX5_feeOf : ByteArray := prog_1_method_39_code
def yX5_feeOf : MethodName := ⟨RX5, "feeOf", "(LLuggageCounter$Thing;)I"⟩
abbrev cX5_letOldCoinsFall : ByteArray := prog_1_method_40_code
def yX5_letOldCoinsFall : MethodName := ⟨RX5, "letOldCoinsFall", "()V"⟩
abbrev cX5_shelfForNew : ByteArray := prog_1_method_41_code
def yX5_shelfForNew : MethodName := ⟨RX5, "shelfForNew", "(LLuggageCounter$Thing;)LLuggageCounter$Shelf;"⟩
abbrev cX5_isNearer : ByteArray := prog_1_method_42_code
def yX5_isNearer : MethodName := ⟨RX5, "isNearer", "(LLuggageCounter$Shelf;LLuggageCounter$Shelf;LLuggageCounter$Thing;)Z"⟩
abbrev cX5_takeAway : ByteArray := prog_1_method_43_code
def yX5_takeAway : MethodName := ⟨RX5, "takeAway", "(LLuggageCounter$Thing;I)V"⟩
abbrev cX5_meantBy : ByteArray := prog_1_method_44_code
def yX5_meantBy : MethodName := ⟨RX5, "meantBy", "(LLuggageCounter$Claim;)I"⟩
abbrev cX5_firstMeantBy : ByteArray := prog_1_method_45_code
def yX5_firstMeantBy : MethodName := ⟨RX5, "firstMeantBy", "(LLuggageCounter$Claim;)I"⟩
abbrev cX5_greatestHeap : ByteArray := prog_1_method_46_code
def yX5_greatestHeap : MethodName := ⟨RX5, "greatestHeap", "(LLuggageCounter$Claim;I)I"⟩
abbrev cX5_isContested : ByteArray := prog_1_method_47_code
def yX5_isContested : MethodName := ⟨RX5, "isContested", "(LLuggageCounter$Claim;LLuggageCounter$Thing;)Z"⟩
abbrev cX5_makeBestMove : ByteArray := prog_1_method_48_code
def yX5_makeBestMove : MethodName := ⟨RX5, "makeBestMove", "()Z"⟩
abbrev cX5_shelfForMove : ByteArray := prog_1_method_49_code
def yX5_shelfForMove : MethodName := ⟨RX5, "shelfForMove", "(LLuggageCounter$Thing;)LLuggageCounter$Shelf;"⟩
abbrev cX5_move : ByteArray := prog_1_method_50_code
def yX5_move : MethodName := ⟨RX5, "move", "(LLuggageCounter$Thing;LLuggageCounter$Shelf;)V"⟩
abbrev cX5_thingsIn : ByteArray := prog_1_method_51_code
def yX5_thingsIn : MethodName := ⟨RX5, "thingsIn", "()I"⟩
abbrev cX5_coinsKept : ByteArray := prog_1_method_52_code
def yX5_coinsKept : MethodName := ⟨RX5, "coinsKept", "()I"⟩
def RX6 : String := "LuggageCounterModel"
def TX6 : u_T := fun k => match k with
  | 0 => ("LuggageCounterModel", "now", "I", false)
  | 1 => ("LuggageCounterModel", "opens", "I", false)
  | 2 => ("LuggageCounterModel", "shuts", "I", false)
  | 3 => ("LuggageCounterModel", "till", "I", false)
  | 4 => ("LuggageCounterModel", "walked", "I", false)
  | 5 => ("LuggageCounterModel", "rows", "I", false)
  | 6 => ("LuggageCounterModel", "rowDay", "[I", true)
  | 7 => ("LuggageCounterModel", "rowBase", "[I", true)
  | 8 => ("LuggageCounterModel", "rowADay", "[I", true)
  | 9 => ("LuggageCounterModel", "rowSize", "[I", true)
  | 10 => ("LuggageCounterModel", "rowCold", "[I", true)
  | 11 => ("LuggageCounterModel", "shelves", "I", false)
  | 12 => ("LuggageCounterModel", "things", "I", false)
  | 13 => ("LuggageCounterModel", "room", "[I", true)
  | 14 => ("LuggageCounterModel", "shelfHeight", "[I", true)
  | 15 => ("LuggageCounterModel", "distance", "[I", true)
  | 16 => ("LuggageCounterModel", "shelfCold", "[Z", true)
  | 17 => ("LuggageCounterModel", "isTorn", "[Z", true)
  | 18 => ("LuggageCounterModel", "size", "[I", true)
  | 19 => ("LuggageCounterModel", "height", "[I", true)
  | 20 => ("LuggageCounterModel", "marks", "[I", true)
  | 21 => ("LuggageCounterModel", "due", "[I", true)
  | 22 => ("LuggageCounterModel", "came", "[I", true)
  | 23 => ("LuggageCounterModel", "how", "[I", true)
  | 24 => ("LuggageCounterModel", "on", "[I", true)
  | 25 => ("LuggageCounterModel", "coins", "[I", true)
  | 26 => ("LuggageCounterModel", "soldDay", "[I", true)
  | 27 => ("LuggageCounterModel", "cold", "[Z", true)
  | 28 => ("LuggageCounterModel", "isSealed", "[Z", true)
  | 29 => ("LuggageCounterModel", "claims", "I", false)
  | 30 => ("LuggageCounterModel", "told", "[I", true)
  | 31 => ("LuggageCounterModel", "got", "[I", true)
  | 32 => ("LuggageCounterModel", "isDone", "[Z", true)
  | 33 => ("LuggageCounterModel", "anew", "[I", true)
  | 34 => ("LuggageCounterModel", "tried", "[I", true)
  | _ => ("LuggageCounterModel", "left", "[I", true)
def tyX6 : Nat → FieldType := fun k => match k with
  | 0 => .int
  | 1 => .int
  | 2 => .int
  | 3 => .int
  | 4 => .int
  | 5 => .int
  | 6 => .array .int
  | 7 => .array .int
  | 8 => .array .int
  | 9 => .array .int
  | 10 => .array .int
  | 11 => .int
  | 12 => .int
  | 13 => .array .int
  | 14 => .array .int
  | 15 => .array .int
  | 16 => .array .boolean
  | 17 => .array .boolean
  | 18 => .array .int
  | 19 => .array .int
  | 20 => .array .int
  | 21 => .array .int
  | 22 => .array .int
  | 23 => .array .int
  | 24 => .array .int
  | 25 => .array .int
  | 26 => .array .int
  | 27 => .array .boolean
  | 28 => .array .boolean
  | 29 => .int
  | 30 => .array .int
  | 31 => .array .int
  | 32 => .array .boolean
  | 33 => .array .int
  | 34 => .array .int
  | _ => .array .int
abbrev wsX60 : List Cond := u_ws RX6 TX6 36
theorem nmX6 : ∀ a, a < 36 → ∀ b, b < 36 → a ≠ b → (TX6 a).2.1 ≠ (TX6 b).2.1 := by decide +kernel
theorem tyX6_ok : ∀ k, k < 36 → parseFieldDescriptor (TX6 k).2.2.1 = some (tyX6 k) := by decide +kernel
abbrev cX6_init : ByteArray := prog_8_method_1_code
def yX6_init : MethodName := ⟨RX6, "<init>", "()V"⟩
abbrev cX6_in : ByteArray := prog_8_method_2_code
def yX6_in : MethodName := ⟨RX6, "in", "(III)Z"⟩
abbrev cX6_gap : ByteArray := prog_8_method_3_code
def yX6_gap : MethodName := ⟨RX6, "gap", "(II)I"⟩
abbrev cX6_isOpen : ByteArray := prog_8_method_4_code
def yX6_isOpen : MethodName := ⟨RX6, "isOpen", "()Z"⟩
abbrev cX6_hours : ByteArray := prog_8_method_5_code
def yX6_hours : MethodName := ⟨RX6, "hours", "(II)Z"⟩
abbrev cX6_clock : ByteArray := prog_8_method_6_code
def yX6_clock : MethodName := ⟨RX6, "clock", "(I)I"⟩
abbrev cX6_prices : ByteArray := prog_8_method_7_code
def yX6_prices : MethodName := ⟨RX6, "prices", "(IIIII)Z"⟩
abbrev cX6_rowOf : ByteArray := prog_8_method_8_code
def yX6_rowOf : MethodName := ⟨RX6, "rowOf", "(I)I"⟩
abbrev cX6_shelf : ByteArray := prog_8_method_9_code
def yX6_shelf : MethodName := ⟨RX6, "shelf", "(IIZI)I"⟩
abbrev cX6_free : ByteArray := prog_8_method_10_code
def yX6_free : MethodName := ⟨RX6, "free", "(I)I"⟩
abbrev cX6_suits : ByteArray := prog_8_method_11_code
def yX6_suits : MethodName := ⟨RX6, "suits", "(II)Z"⟩
abbrev cX6_fits : ByteArray := prog_8_method_12_code
def yX6_fits : MethodName := ⟨RX6, "fits", "(II)Z"⟩
abbrev cX6_wanted : ByteArray := prog_8_method_13_code
def yX6_wanted : MethodName := ⟨RX6, "wanted", "(I)I"⟩
abbrev cX6_misfitOn : ByteArray := prog_8_method_14_code
def yX6_misfitOn : MethodName := ⟨RX6, "misfitOn", "(II)I"⟩
abbrev cX6_ticketOf : ByteArray := prog_8_method_15_code
def yX6_ticketOf : MethodName := ⟨RX6, "ticketOf", "(I)I"⟩
abbrev cX6_put : ByteArray := prog_8_method_16_code
def yX6_put : MethodName := ⟨RX6, "put", "(IIZZII)I"⟩
abbrev cX6_feeOf : ByteArray := prog_8_method_17_code
def yX6_feeOf : MethodName := ⟨RX6, "feeOf", "(I)I"⟩
abbrev cX6_thingOf : ByteArray := prog_8_method_18_code
def yX6_thingOf : MethodName := ⟨RX6, "thingOf", "(I)I"⟩
abbrev cX6_fee : ByteArray := prog_8_method_19_code
def yX6_fee : MethodName := ⟨RX6, "fee", "(I)I"⟩
abbrev cX6_leaves : ByteArray := prog_8_method_20_code
def yX6_leaves : MethodName := ⟨RX6, "leaves", "(II)V"⟩
abbrev cX6_give : ByteArray := prog_8_method_21_code
def yX6_give : MethodName := ⟨RX6, "give", "(I)I"⟩
abbrev cX6_claim : ByteArray := prog_8_method_22_code
def yX6_claim : MethodName := ⟨RX6, "claim", "()I"⟩
abbrev cX6_isClaim : ByteArray := prog_8_method_23_code
def yX6_isClaim : MethodName := ⟨RX6, "isClaim", "(I)Z"⟩
abbrev cX6_markOf : ByteArray := prog_8_method_24_code
def yX6_markOf : MethodName := ⟨RX6, "markOf", "(II)I"⟩
abbrev cX6_isMeant : ByteArray := prog_8_method_25_code
def yX6_isMeant : MethodName := ⟨RX6, "isMeant", "(II)Z"⟩
abbrev cX6_meant : ByteArray := prog_8_method_26_code
def yX6_meant : MethodName := ⟨RX6, "meant", "(I)I"⟩
abbrev cX6_manyTold : ByteArray := prog_8_method_27_code
def yX6_manyTold : MethodName := ⟨RX6, "manyTold", "(I)I"⟩
abbrev cX6_means : ByteArray := prog_8_method_28_code
def yX6_means : MethodName := ⟨RX6, "means", "(I)I"⟩
abbrev cX6_mark : ByteArray := prog_8_method_29_code
def yX6_mark : MethodName := ⟨RX6, "mark", "(III)I"⟩
abbrev cX6_ask : ByteArray := prog_8_method_30_code
def yX6_ask : MethodName := ⟨RX6, "ask", "(I)I"⟩
abbrev cX6_settle : ByteArray := prog_8_method_31_code
def yX6_settle : MethodName := ⟨RX6, "settle", "(I)I"⟩
abbrev cX6_misfit : ByteArray := prog_8_method_32_code
def yX6_misfit : MethodName := ⟨RX6, "misfit", "()I"⟩
abbrev cX6_tidy : ByteArray := prog_8_method_33_code
def yX6_tidy : MethodName := ⟨RX6, "tidy", "(I)I"⟩
abbrev cX6_least : ByteArray := prog_8_method_34_code
def yX6_least : MethodName := ⟨RX6, "least", "()I"⟩
abbrev cX6_sell : ByteArray := prog_8_method_35_code
def yX6_sell : MethodName := ⟨RX6, "sell", "(II)I"⟩
abbrev cX6_pay : ByteArray := prog_8_method_36_code
def yX6_pay : MethodName := ⟨RX6, "pay", "(I)I"⟩
abbrev cX6_tear : ByteArray := prog_8_method_37_code
def yX6_tear : MethodName := ⟨RX6, "tear", "(I)Z"⟩
abbrev cX6_mend : ByteArray := prog_8_method_38_code
def yX6_mend : MethodName := ⟨RX6, "mend", "(I)Z"⟩
abbrev cX6_shelfOf : ByteArray := prog_8_method_39_code
def yX6_shelfOf : MethodName := ⟨RX6, "shelfOf", "(II)I"⟩
abbrev cX6_thing : ByteArray := prog_8_method_40_code
def yX6_thing : MethodName := ⟨RX6, "thing", "(II)I"⟩
abbrev cX6_claimOf : ByteArray := prog_8_method_41_code
def yX6_claimOf : MethodName := ⟨RX6, "claimOf", "(II)I"⟩
abbrev cX6_count : ByteArray := prog_8_method_42_code
def yX6_count : MethodName := ⟨RX6, "count", "(I)I"⟩
def RJ9 : String := "java/lang/Math"
def TJ9 : u_T := fun k => match k with
  | _ => ("", "", "", false)
def tyJ9 : Nat → FieldType := fun k => match k with
  | _ => .int
abbrev wsJ90 : List Cond := u_ws RJ9 TJ9 0
theorem nmJ9 : ∀ a, a < 0 → ∀ b, b < 0 → a ≠ b → (TJ9 a).2.1 ≠ (TJ9 b).2.1 := by decide +kernel
theorem tyJ9_ok : ∀ k, k < 0 → parseFieldDescriptor (TJ9 k).2.2.1 = some (tyJ9 k) := by decide +kernel
abbrev cJ9_abs_0f7a4 : ByteArray := prog_9_method_59_code
def yJ9_abs_0f7a4 : MethodName := ⟨RJ9, "abs", "(I)I"⟩
abbrev cJ9_max_7cf53 : ByteArray := prog_9_method_65_code
def yJ9_max_7cf53 : MethodName := ⟨RJ9, "max", "(II)I"⟩
abbrev cJ9_min_7cf53 : ByteArray := prog_9_method_69_code
def yJ9_min_7cf53 : MethodName := ⟨RJ9, "min", "(II)I"⟩
def RL : String := "LuggageCounterLaw"
abbrev cL_law : ByteArray := code
def yL_law : MethodName := ⟨RL, "law", "([I)Z"⟩
abbrev vwCl : List vw_C := [(RX0, TX0, 3), (RX1, TX1, 3), (RX2, TX2, 5), (RX3, TX3, 8), (RX4, TX4, 11), (RX5, TX5, 15), (RX6, TX6, 36)]
