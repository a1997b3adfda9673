/-! THE LAW'S CASES -/
set_option maxRecDepth 4000 in
theorem lL_clock {L : Nat} {xs : Nat → Int32} {S : St} {h : Hp} (hI : IV L xs S h) (hL : L ≤ 3584) (i : Nat) (hi : i + 7 ≤ L) {Q : Option Value → Hp → Prop} (kx : ∀ (S' : St) (h2 : Hp), IV L xs S' h2 → am_n h2 ≤ am_n h + 2 → am_z h2 ≤ am_z h + 15 → WP kL_law (Res 7) Q 879 [some (.ref 0), some (.ref 1), some (.ref 10), some (.int (nI i))] [] h2) : WP kL_law (Res 7) Q 140 [some (.ref 0), some (.ref 1), some (.ref 10), some (.int (nI i))] [] h := by
  have hpos : 0 < am_n h := hI.2.1.pos
  refine wp_aload_n eL_law_140 rfl ?_
  refine wp_aload_n eL_law_141 rfl ?_
  refine wp_iload_n eL_law_142 rfl ?_
  refine wp_iconst (v := 1) eL_law_143 rfl ?_
  refine wp_iadd eL_law_144 ?_
  refine wp_top (y := nI (i + 1)) (nI_add (i) 1) ?_
  refine wp_sc (t := i + 1) eL_law_145 hI.2.2.2.2.2 hpos (by omega) hL ?_
  obtain ⟨v, S', h1, h2, r5, ⟨sc1, ob1, n1⟩, r6, hI2, hn2, hz2⟩ := op_clock hI (xs (i + 1))
  refine wp_virt (rv := (some (.int v))) (h' := h1) (r := []) eL_law_146 [.int (xs (i + 1))] rfl rfl rfl (show Ob h 1 5 from hI.2.1.1.ob) r5 ?_
  refine wp_aload_n eL_law_149 rfl ?_
  refine wp_aload_n eL_law_150 rfl ?_
  refine wp_iload_n eL_law_151 rfl ?_
  refine wp_iconst (v := 1) eL_law_152 rfl ?_
  refine wp_iadd eL_law_153 ?_
  refine wp_top (y := nI (i + 1)) (nI_add (i) 1) ?_
  refine wp_sc (t := i + 1) eL_law_154 sc1 n1 (by omega) hL ?_
  refine wp_virt (rv := (some (.int v))) (h' := h2) (r := [.int v]) eL_law_155 [.int (xs (i + 1))] rfl rfl rfl (show Ob h1 10 6 from ob1) r6 ?_
  refine wp_icmpT eL_law_158 (show v = v from rfl) ?_
  exact kx S' h2 hI2 hn2 hz2

set_option maxRecDepth 4000 in
theorem lL_hours {L : Nat} {xs : Nat → Int32} {S : St} {h : Hp} (hI : IV L xs S h) (hL : L ≤ 3584) (i : Nat) (hi : i + 7 ≤ L) {Q : Option Value → Hp → Prop} (kx : ∀ (S' : St) (h2 : Hp), IV L xs S' h2 → am_n h2 ≤ am_n h + 2 → am_z h2 ≤ am_z h + 15 → WP kL_law (Res 7) Q 879 [some (.ref 0), some (.ref 1), some (.ref 10), some (.int (nI i))] [] h2) : WP kL_law (Res 7) Q 163 [some (.ref 0), some (.ref 1), some (.ref 10), some (.int (nI i))] [] h := by
  have hpos : 0 < am_n h := hI.2.1.pos
  refine wp_aload_n eL_law_163 rfl ?_
  refine wp_aload_n eL_law_164 rfl ?_
  refine wp_iload_n eL_law_165 rfl ?_
  refine wp_iconst (v := 1) eL_law_166 rfl ?_
  refine wp_iadd eL_law_167 ?_
  refine wp_top (y := nI (i + 1)) (nI_add (i) 1) ?_
  refine wp_sc (t := i + 1) eL_law_168 hI.2.2.2.2.2 hpos (by omega) hL ?_
  refine wp_aload_n eL_law_169 rfl ?_
  refine wp_iload_n eL_law_170 rfl ?_
  refine wp_iconst (v := 2) eL_law_171 rfl ?_
  refine wp_iadd eL_law_172 ?_
  refine wp_top (y := nI (i + 2)) (nI_add (i) 2) ?_
  refine wp_sc (t := i + 2) eL_law_173 hI.2.2.2.2.2 hpos (by omega) hL ?_
  obtain ⟨v, S', h1, h2, r5, ⟨sc1, ob1, n1⟩, r6, hI2, hn2, hz2⟩ := op_hours hI (xs (i + 1)) (xs (i + 2))
  refine wp_virt (rv := (some (.int v))) (h' := h1) (r := []) eL_law_174 [.int (xs (i + 1)), .int (xs (i + 2))] rfl rfl rfl (show Ob h 1 5 from hI.2.1.1.ob) r5 ?_
  refine wp_aload_n eL_law_177 rfl ?_
  refine wp_aload_n eL_law_178 rfl ?_
  refine wp_iload_n eL_law_179 rfl ?_
  refine wp_iconst (v := 1) eL_law_180 rfl ?_
  refine wp_iadd eL_law_181 ?_
  refine wp_top (y := nI (i + 1)) (nI_add (i) 1) ?_
  refine wp_sc (t := i + 1) eL_law_182 sc1 n1 (by omega) hL ?_
  refine wp_aload_n eL_law_183 rfl ?_
  refine wp_iload_n eL_law_184 rfl ?_
  refine wp_iconst (v := 2) eL_law_185 rfl ?_
  refine wp_iadd eL_law_186 ?_
  refine wp_top (y := nI (i + 2)) (nI_add (i) 2) ?_
  refine wp_sc (t := i + 2) eL_law_187 sc1 n1 (by omega) hL ?_
  refine wp_virt (rv := (some (.int v))) (h' := h2) (r := [.int v]) eL_law_188 [.int (xs (i + 1)), .int (xs (i + 2))] rfl rfl rfl (show Ob h1 10 6 from ob1) r6 ?_
  refine wp_icmpT eL_law_191 (show v = v from rfl) ?_
  exact kx S' h2 hI2 hn2 hz2

set_option maxRecDepth 4000 in
theorem lL_prices {L : Nat} {xs : Nat → Int32} {S : St} {h : Hp} (hI : IV L xs S h) (hL : L ≤ 3584) (i : Nat) (hi : i + 7 ≤ L) {Q : Option Value → Hp → Prop} (kx : ∀ (S' : St) (h2 : Hp), IV L xs S' h2 → am_n h2 ≤ am_n h + 2 → am_z h2 ≤ am_z h + 15 → WP kL_law (Res 7) Q 879 [some (.ref 0), some (.ref 1), some (.ref 10), some (.int (nI i))] [] h2) : WP kL_law (Res 7) Q 196 [some (.ref 0), some (.ref 1), some (.ref 10), some (.int (nI i))] [] h := by
  have hpos : 0 < am_n h := hI.2.1.pos
  refine wp_aload_n eL_law_196 rfl ?_
  refine wp_aload_n eL_law_197 rfl ?_
  refine wp_iload_n eL_law_198 rfl ?_
  refine wp_iconst (v := 1) eL_law_199 rfl ?_
  refine wp_iadd eL_law_200 ?_
  refine wp_top (y := nI (i + 1)) (nI_add (i) 1) ?_
  refine wp_sc (t := i + 1) eL_law_201 hI.2.2.2.2.2 hpos (by omega) hL ?_
  refine wp_aload_n eL_law_202 rfl ?_
  refine wp_iload_n eL_law_203 rfl ?_
  refine wp_iconst (v := 2) eL_law_204 rfl ?_
  refine wp_iadd eL_law_205 ?_
  refine wp_top (y := nI (i + 2)) (nI_add (i) 2) ?_
  refine wp_sc (t := i + 2) eL_law_206 hI.2.2.2.2.2 hpos (by omega) hL ?_
  refine wp_aload_n eL_law_207 rfl ?_
  refine wp_iload_n eL_law_208 rfl ?_
  refine wp_iconst (v := 3) eL_law_209 rfl ?_
  refine wp_iadd eL_law_210 ?_
  refine wp_top (y := nI (i + 3)) (nI_add (i) 3) ?_
  refine wp_sc (t := i + 3) eL_law_211 hI.2.2.2.2.2 hpos (by omega) hL ?_
  refine wp_aload_n eL_law_212 rfl ?_
  refine wp_iload_n eL_law_213 rfl ?_
  refine wp_iconst (v := 4) eL_law_214 rfl ?_
  refine wp_iadd eL_law_215 ?_
  refine wp_top (y := nI (i + 4)) (nI_add (i) 4) ?_
  refine wp_sc (t := i + 4) eL_law_216 hI.2.2.2.2.2 hpos (by omega) hL ?_
  refine wp_aload_n eL_law_217 rfl ?_
  refine wp_iload_n eL_law_218 rfl ?_
  refine wp_iconst (v := 5) eL_law_219 rfl ?_
  refine wp_iadd eL_law_220 ?_
  refine wp_top (y := nI (i + 5)) (nI_add (i) 5) ?_
  refine wp_sc (t := i + 5) eL_law_221 hI.2.2.2.2.2 hpos (by omega) hL ?_
  obtain ⟨v, S', h1, h2, r5, ⟨sc1, ob1, n1⟩, r6, hI2, hn2, hz2⟩ := op_prices hI (xs (i + 1)) (xs (i + 2)) (xs (i + 3)) (xs (i + 4)) (xs (i + 5))
  refine wp_virt (rv := (some (.int v))) (h' := h1) (r := []) eL_law_222 [.int (xs (i + 1)), .int (xs (i + 2)), .int (xs (i + 3)), .int (xs (i + 4)), .int (xs (i + 5))] rfl rfl rfl (show Ob h 1 5 from hI.2.1.1.ob) r5 ?_
  refine wp_aload_n eL_law_225 rfl ?_
  refine wp_aload_n eL_law_226 rfl ?_
  refine wp_iload_n eL_law_227 rfl ?_
  refine wp_iconst (v := 1) eL_law_228 rfl ?_
  refine wp_iadd eL_law_229 ?_
  refine wp_top (y := nI (i + 1)) (nI_add (i) 1) ?_
  refine wp_sc (t := i + 1) eL_law_230 sc1 n1 (by omega) hL ?_
  refine wp_aload_n eL_law_231 rfl ?_
  refine wp_iload_n eL_law_232 rfl ?_
  refine wp_iconst (v := 2) eL_law_233 rfl ?_
  refine wp_iadd eL_law_234 ?_
  refine wp_top (y := nI (i + 2)) (nI_add (i) 2) ?_
  refine wp_sc (t := i + 2) eL_law_235 sc1 n1 (by omega) hL ?_
  refine wp_aload_n eL_law_236 rfl ?_
  refine wp_iload_n eL_law_237 rfl ?_
  refine wp_iconst (v := 3) eL_law_238 rfl ?_
  refine wp_iadd eL_law_239 ?_
  refine wp_top (y := nI (i + 3)) (nI_add (i) 3) ?_
  refine wp_sc (t := i + 3) eL_law_240 sc1 n1 (by omega) hL ?_
  refine wp_aload_n eL_law_241 rfl ?_
  refine wp_iload_n eL_law_242 rfl ?_
  refine wp_iconst (v := 4) eL_law_243 rfl ?_
  refine wp_iadd eL_law_244 ?_
  refine wp_top (y := nI (i + 4)) (nI_add (i) 4) ?_
  refine wp_sc (t := i + 4) eL_law_245 sc1 n1 (by omega) hL ?_
  refine wp_aload_n eL_law_246 rfl ?_
  refine wp_iload_n eL_law_247 rfl ?_
  refine wp_iconst (v := 5) eL_law_248 rfl ?_
  refine wp_iadd eL_law_249 ?_
  refine wp_top (y := nI (i + 5)) (nI_add (i) 5) ?_
  refine wp_sc (t := i + 5) eL_law_250 sc1 n1 (by omega) hL ?_
  refine wp_virt (rv := (some (.int v))) (h' := h2) (r := [.int v]) eL_law_251 [.int (xs (i + 1)), .int (xs (i + 2)), .int (xs (i + 3)), .int (xs (i + 4)), .int (xs (i + 5))] rfl rfl rfl (show Ob h1 10 6 from ob1) r6 ?_
  refine wp_icmpT eL_law_254 (show v = v from rfl) ?_
  exact kx S' h2 hI2 hn2 hz2

set_option maxRecDepth 4000 in
theorem lL_shelf {L : Nat} {xs : Nat → Int32} {S : St} {h : Hp} (hI : IV L xs S h) (hL : L ≤ 3584) (i : Nat) (hi : i + 7 ≤ L) {Q : Option Value → Hp → Prop} (kx : ∀ (S' : St) (h2 : Hp), IV L xs S' h2 → am_n h2 ≤ am_n h + 2 → am_z h2 ≤ am_z h + 15 → WP kL_law (Res 7) Q 879 [some (.ref 0), some (.ref 1), some (.ref 10), some (.int (nI i))] [] h2) : WP kL_law (Res 7) Q 259 [some (.ref 0), some (.ref 1), some (.ref 10), some (.int (nI i))] [] h := by
  have hpos : 0 < am_n h := hI.2.1.pos
  refine wp_aload_n eL_law_259 rfl ?_
  refine wp_aload_n eL_law_260 rfl ?_
  refine wp_iload_n eL_law_261 rfl ?_
  refine wp_iconst (v := 1) eL_law_262 rfl ?_
  refine wp_iadd eL_law_263 ?_
  refine wp_top (y := nI (i + 1)) (nI_add (i) 1) ?_
  refine wp_sc (t := i + 1) eL_law_264 hI.2.2.2.2.2 hpos (by omega) hL ?_
  refine wp_aload_n eL_law_265 rfl ?_
  refine wp_iload_n eL_law_266 rfl ?_
  refine wp_iconst (v := 2) eL_law_267 rfl ?_
  refine wp_iadd eL_law_268 ?_
  refine wp_top (y := nI (i + 2)) (nI_add (i) 2) ?_
  refine wp_sc (t := i + 2) eL_law_269 hI.2.2.2.2.2 hpos (by omega) hL ?_
  refine wp_aload_n eL_law_270 rfl ?_
  refine wp_iload_n eL_law_271 rfl ?_
  refine wp_iconst (v := 3) eL_law_272 rfl ?_
  refine wp_iadd eL_law_273 ?_
  refine wp_top (y := nI (i + 3)) (nI_add (i) 3) ?_
  refine wp_sc (t := i + 3) eL_law_274 hI.2.2.2.2.2 hpos (by omega) hL ?_
  refine wp_if eL_law_275 (fun (c_275 : (xs (i + 3)) = 0) => ?_) (fun (c_275 : ¬ ((xs (i + 3)) = 0)) => ?_)
  · refine wp_iconst (v := 0) eL_law_282 rfl ?_
    refine wp_aload_n eL_law_283 rfl ?_
    refine wp_iload_n eL_law_284 rfl ?_
    refine wp_iconst (v := 4) eL_law_285 rfl ?_
    refine wp_iadd eL_law_286 ?_
    refine wp_top (y := nI (i + 4)) (nI_add (i) 4) ?_
    refine wp_sc (t := i + 4) eL_law_287 hI.2.2.2.2.2 hpos (by omega) hL ?_
    obtain ⟨v, S', h1, h2, r5, ⟨sc1, ob1, n1⟩, r6, hI2, hn2, hz2⟩ := op_shelf hI (xs (i + 1)) (xs (i + 2)) 0 (xs (i + 4)) (by first | exact Or.inl rfl | exact Or.inr rfl)
    refine wp_virt (rv := (some (.int v))) (h' := h1) (r := []) eL_law_288 [.int (xs (i + 1)), .int (xs (i + 2)), .int 0, .int (xs (i + 4))] rfl rfl rfl (show Ob h 1 5 from hI.2.1.1.ob) r5 ?_
    refine wp_aload_n eL_law_291 rfl ?_
    refine wp_aload_n eL_law_292 rfl ?_
    refine wp_iload_n eL_law_293 rfl ?_
    refine wp_iconst (v := 1) eL_law_294 rfl ?_
    refine wp_iadd eL_law_295 ?_
    refine wp_top (y := nI (i + 1)) (nI_add (i) 1) ?_
    refine wp_sc (t := i + 1) eL_law_296 sc1 n1 (by omega) hL ?_
    refine wp_aload_n eL_law_297 rfl ?_
    refine wp_iload_n eL_law_298 rfl ?_
    refine wp_iconst (v := 2) eL_law_299 rfl ?_
    refine wp_iadd eL_law_300 ?_
    refine wp_top (y := nI (i + 2)) (nI_add (i) 2) ?_
    refine wp_sc (t := i + 2) eL_law_301 sc1 n1 (by omega) hL ?_
    refine wp_aload_n eL_law_302 rfl ?_
    refine wp_iload_n eL_law_303 rfl ?_
    refine wp_iconst (v := 3) eL_law_304 rfl ?_
    refine wp_iadd eL_law_305 ?_
    refine wp_top (y := nI (i + 3)) (nI_add (i) 3) ?_
    refine wp_sc (t := i + 3) eL_law_306 sc1 n1 (by omega) hL ?_
    refine wp_ifT eL_law_307 (show (xs (i + 3)) = 0 from c_275) ?_
    refine wp_iconst (v := 0) eL_law_314 rfl ?_
    refine wp_aload_n eL_law_315 rfl ?_
    refine wp_iload_n eL_law_316 rfl ?_
    refine wp_iconst (v := 4) eL_law_317 rfl ?_
    refine wp_iadd eL_law_318 ?_
    refine wp_top (y := nI (i + 4)) (nI_add (i) 4) ?_
    refine wp_sc (t := i + 4) eL_law_319 sc1 n1 (by omega) hL ?_
    refine wp_virt (rv := (some (.int v))) (h' := h2) (r := [.int v]) eL_law_320 [.int (xs (i + 1)), .int (xs (i + 2)), .int 0, .int (xs (i + 4))] rfl rfl rfl (show Ob h1 10 6 from ob1) r6 ?_
    refine wp_icmpT eL_law_323 (show v = v from rfl) ?_
    exact kx S' h2 hI2 hn2 hz2
  · refine wp_iconst (v := 1) eL_law_278 rfl ?_
    refine wp_goto eL_law_279 ?_
    refine wp_aload_n eL_law_283 rfl ?_
    refine wp_iload_n eL_law_284 rfl ?_
    refine wp_iconst (v := 4) eL_law_285 rfl ?_
    refine wp_iadd eL_law_286 ?_
    refine wp_top (y := nI (i + 4)) (nI_add (i) 4) ?_
    refine wp_sc (t := i + 4) eL_law_287 hI.2.2.2.2.2 hpos (by omega) hL ?_
    obtain ⟨v, S', h1, h2, r5, ⟨sc1, ob1, n1⟩, r6, hI2, hn2, hz2⟩ := op_shelf hI (xs (i + 1)) (xs (i + 2)) 1 (xs (i + 4)) (by first | exact Or.inl rfl | exact Or.inr rfl)
    refine wp_virt (rv := (some (.int v))) (h' := h1) (r := []) eL_law_288 [.int (xs (i + 1)), .int (xs (i + 2)), .int 1, .int (xs (i + 4))] rfl rfl rfl (show Ob h 1 5 from hI.2.1.1.ob) r5 ?_
    refine wp_aload_n eL_law_291 rfl ?_
    refine wp_aload_n eL_law_292 rfl ?_
    refine wp_iload_n eL_law_293 rfl ?_
    refine wp_iconst (v := 1) eL_law_294 rfl ?_
    refine wp_iadd eL_law_295 ?_
    refine wp_top (y := nI (i + 1)) (nI_add (i) 1) ?_
    refine wp_sc (t := i + 1) eL_law_296 sc1 n1 (by omega) hL ?_
    refine wp_aload_n eL_law_297 rfl ?_
    refine wp_iload_n eL_law_298 rfl ?_
    refine wp_iconst (v := 2) eL_law_299 rfl ?_
    refine wp_iadd eL_law_300 ?_
    refine wp_top (y := nI (i + 2)) (nI_add (i) 2) ?_
    refine wp_sc (t := i + 2) eL_law_301 sc1 n1 (by omega) hL ?_
    refine wp_aload_n eL_law_302 rfl ?_
    refine wp_iload_n eL_law_303 rfl ?_
    refine wp_iconst (v := 3) eL_law_304 rfl ?_
    refine wp_iadd eL_law_305 ?_
    refine wp_top (y := nI (i + 3)) (nI_add (i) 3) ?_
    refine wp_sc (t := i + 3) eL_law_306 sc1 n1 (by omega) hL ?_
    refine wp_ifF eL_law_307 (show ¬ ((xs (i + 3)) = 0) from c_275) ?_
    refine wp_iconst (v := 1) eL_law_310 rfl ?_
    refine wp_goto eL_law_311 ?_
    refine wp_aload_n eL_law_315 rfl ?_
    refine wp_iload_n eL_law_316 rfl ?_
    refine wp_iconst (v := 4) eL_law_317 rfl ?_
    refine wp_iadd eL_law_318 ?_
    refine wp_top (y := nI (i + 4)) (nI_add (i) 4) ?_
    refine wp_sc (t := i + 4) eL_law_319 sc1 n1 (by omega) hL ?_
    refine wp_virt (rv := (some (.int v))) (h' := h2) (r := [.int v]) eL_law_320 [.int (xs (i + 1)), .int (xs (i + 2)), .int 1, .int (xs (i + 4))] rfl rfl rfl (show Ob h1 10 6 from ob1) r6 ?_
    refine wp_icmpT eL_law_323 (show v = v from rfl) ?_
    exact kx S' h2 hI2 hn2 hz2

set_option maxRecDepth 4000 in
theorem lL_put {L : Nat} {xs : Nat → Int32} {S : St} {h : Hp} (hI : IV L xs S h) (hL : L ≤ 3584) (i : Nat) (hi : i + 7 ≤ L) {Q : Option Value → Hp → Prop} (kx : ∀ (S' : St) (h2 : Hp), IV L xs S' h2 → am_n h2 ≤ am_n h + 2 → am_z h2 ≤ am_z h + 15 → WP kL_law (Res 7) Q 879 [some (.ref 0), some (.ref 1), some (.ref 10), some (.int (nI i))] [] h2) : WP kL_law (Res 7) Q 328 [some (.ref 0), some (.ref 1), some (.ref 10), some (.int (nI i))] [] h := by
  have hpos : 0 < am_n h := hI.2.1.pos
  refine wp_aload_n eL_law_328 rfl ?_
  refine wp_aload_n eL_law_329 rfl ?_
  refine wp_iload_n eL_law_330 rfl ?_
  refine wp_iconst (v := 1) eL_law_331 rfl ?_
  refine wp_iadd eL_law_332 ?_
  refine wp_top (y := nI (i + 1)) (nI_add (i) 1) ?_
  refine wp_sc (t := i + 1) eL_law_333 hI.2.2.2.2.2 hpos (by omega) hL ?_
  refine wp_aload_n eL_law_334 rfl ?_
  refine wp_iload_n eL_law_335 rfl ?_
  refine wp_iconst (v := 2) eL_law_336 rfl ?_
  refine wp_iadd eL_law_337 ?_
  refine wp_top (y := nI (i + 2)) (nI_add (i) 2) ?_
  refine wp_sc (t := i + 2) eL_law_338 hI.2.2.2.2.2 hpos (by omega) hL ?_
  refine wp_aload_n eL_law_339 rfl ?_
  refine wp_iload_n eL_law_340 rfl ?_
  refine wp_iconst (v := 3) eL_law_341 rfl ?_
  refine wp_iadd eL_law_342 ?_
  refine wp_top (y := nI (i + 3)) (nI_add (i) 3) ?_
  refine wp_sc (t := i + 3) eL_law_343 hI.2.2.2.2.2 hpos (by omega) hL ?_
  refine wp_if eL_law_344 (fun (c_344 : (xs (i + 3)) = 0) => ?_) (fun (c_344 : ¬ ((xs (i + 3)) = 0)) => ?_)
  · refine wp_iconst (v := 0) eL_law_351 rfl ?_
    refine wp_aload_n eL_law_352 rfl ?_
    refine wp_iload_n eL_law_353 rfl ?_
    refine wp_iconst (v := 4) eL_law_354 rfl ?_
    refine wp_iadd eL_law_355 ?_
    refine wp_top (y := nI (i + 4)) (nI_add (i) 4) ?_
    refine wp_sc (t := i + 4) eL_law_356 hI.2.2.2.2.2 hpos (by omega) hL ?_
    refine wp_if eL_law_357 (fun (c_357 : (xs (i + 4)) = 0) => ?_) (fun (c_357 : ¬ ((xs (i + 4)) = 0)) => ?_)
    · refine wp_iconst (v := 0) eL_law_364 rfl ?_
      refine wp_aload_n eL_law_365 rfl ?_
      refine wp_iload_n eL_law_366 rfl ?_
      refine wp_iconst (v := 5) eL_law_367 rfl ?_
      refine wp_iadd eL_law_368 ?_
      refine wp_top (y := nI (i + 5)) (nI_add (i) 5) ?_
      refine wp_sc (t := i + 5) eL_law_369 hI.2.2.2.2.2 hpos (by omega) hL ?_
      refine wp_aload_n eL_law_370 rfl ?_
      refine wp_iload_n eL_law_371 rfl ?_
      refine wp_bipush (v := 6) eL_law_372 rfl ?_
      refine wp_iadd eL_law_374 ?_
      refine wp_top (y := nI (i + 6)) (nI_add (i) 6) ?_
      refine wp_sc (t := i + 6) eL_law_375 hI.2.2.2.2.2 hpos (by omega) hL ?_
      obtain ⟨v, S', h1, h2, r5, ⟨sc1, ob1, n1⟩, r6, hI2, hn2, hz2⟩ := op_put hI (xs (i + 1)) (xs (i + 2)) 0 0 (xs (i + 5)) (xs (i + 6)) (by first | exact Or.inl rfl | exact Or.inr rfl) (by first | exact Or.inl rfl | exact Or.inr rfl)
      refine wp_virt (rv := (some (.int v))) (h' := h1) (r := []) eL_law_376 [.int (xs (i + 1)), .int (xs (i + 2)), .int 0, .int 0, .int (xs (i + 5)), .int (xs (i + 6))] rfl rfl rfl (show Ob h 1 5 from hI.2.1.1.ob) r5 ?_
      refine wp_aload_n eL_law_379 rfl ?_
      refine wp_aload_n eL_law_380 rfl ?_
      refine wp_iload_n eL_law_381 rfl ?_
      refine wp_iconst (v := 1) eL_law_382 rfl ?_
      refine wp_iadd eL_law_383 ?_
      refine wp_top (y := nI (i + 1)) (nI_add (i) 1) ?_
      refine wp_sc (t := i + 1) eL_law_384 sc1 n1 (by omega) hL ?_
      refine wp_aload_n eL_law_385 rfl ?_
      refine wp_iload_n eL_law_386 rfl ?_
      refine wp_iconst (v := 2) eL_law_387 rfl ?_
      refine wp_iadd eL_law_388 ?_
      refine wp_top (y := nI (i + 2)) (nI_add (i) 2) ?_
      refine wp_sc (t := i + 2) eL_law_389 sc1 n1 (by omega) hL ?_
      refine wp_aload_n eL_law_390 rfl ?_
      refine wp_iload_n eL_law_391 rfl ?_
      refine wp_iconst (v := 3) eL_law_392 rfl ?_
      refine wp_iadd eL_law_393 ?_
      refine wp_top (y := nI (i + 3)) (nI_add (i) 3) ?_
      refine wp_sc (t := i + 3) eL_law_394 sc1 n1 (by omega) hL ?_
      refine wp_ifT eL_law_395 (show (xs (i + 3)) = 0 from c_344) ?_
      refine wp_iconst (v := 0) eL_law_402 rfl ?_
      refine wp_aload_n eL_law_403 rfl ?_
      refine wp_iload_n eL_law_404 rfl ?_
      refine wp_iconst (v := 4) eL_law_405 rfl ?_
      refine wp_iadd eL_law_406 ?_
      refine wp_top (y := nI (i + 4)) (nI_add (i) 4) ?_
      refine wp_sc (t := i + 4) eL_law_407 sc1 n1 (by omega) hL ?_
      refine wp_ifT eL_law_408 (show (xs (i + 4)) = 0 from c_357) ?_
      refine wp_iconst (v := 0) eL_law_415 rfl ?_
      refine wp_aload_n eL_law_416 rfl ?_
      refine wp_iload_n eL_law_417 rfl ?_
      refine wp_iconst (v := 5) eL_law_418 rfl ?_
      refine wp_iadd eL_law_419 ?_
      refine wp_top (y := nI (i + 5)) (nI_add (i) 5) ?_
      refine wp_sc (t := i + 5) eL_law_420 sc1 n1 (by omega) hL ?_
      refine wp_aload_n eL_law_421 rfl ?_
      refine wp_iload_n eL_law_422 rfl ?_
      refine wp_bipush (v := 6) eL_law_423 rfl ?_
      refine wp_iadd eL_law_425 ?_
      refine wp_top (y := nI (i + 6)) (nI_add (i) 6) ?_
      refine wp_sc (t := i + 6) eL_law_426 sc1 n1 (by omega) hL ?_
      refine wp_virt (rv := (some (.int v))) (h' := h2) (r := [.int v]) eL_law_427 [.int (xs (i + 1)), .int (xs (i + 2)), .int 0, .int 0, .int (xs (i + 5)), .int (xs (i + 6))] rfl rfl rfl (show Ob h1 10 6 from ob1) r6 ?_
      refine wp_icmpT eL_law_430 (show v = v from rfl) ?_
      exact kx S' h2 hI2 hn2 hz2
    · refine wp_iconst (v := 1) eL_law_360 rfl ?_
      refine wp_goto eL_law_361 ?_
      refine wp_aload_n eL_law_365 rfl ?_
      refine wp_iload_n eL_law_366 rfl ?_
      refine wp_iconst (v := 5) eL_law_367 rfl ?_
      refine wp_iadd eL_law_368 ?_
      refine wp_top (y := nI (i + 5)) (nI_add (i) 5) ?_
      refine wp_sc (t := i + 5) eL_law_369 hI.2.2.2.2.2 hpos (by omega) hL ?_
      refine wp_aload_n eL_law_370 rfl ?_
      refine wp_iload_n eL_law_371 rfl ?_
      refine wp_bipush (v := 6) eL_law_372 rfl ?_
      refine wp_iadd eL_law_374 ?_
      refine wp_top (y := nI (i + 6)) (nI_add (i) 6) ?_
      refine wp_sc (t := i + 6) eL_law_375 hI.2.2.2.2.2 hpos (by omega) hL ?_
      obtain ⟨v, S', h1, h2, r5, ⟨sc1, ob1, n1⟩, r6, hI2, hn2, hz2⟩ := op_put hI (xs (i + 1)) (xs (i + 2)) 0 1 (xs (i + 5)) (xs (i + 6)) (by first | exact Or.inl rfl | exact Or.inr rfl) (by first | exact Or.inl rfl | exact Or.inr rfl)
      refine wp_virt (rv := (some (.int v))) (h' := h1) (r := []) eL_law_376 [.int (xs (i + 1)), .int (xs (i + 2)), .int 0, .int 1, .int (xs (i + 5)), .int (xs (i + 6))] rfl rfl rfl (show Ob h 1 5 from hI.2.1.1.ob) r5 ?_
      refine wp_aload_n eL_law_379 rfl ?_
      refine wp_aload_n eL_law_380 rfl ?_
      refine wp_iload_n eL_law_381 rfl ?_
      refine wp_iconst (v := 1) eL_law_382 rfl ?_
      refine wp_iadd eL_law_383 ?_
      refine wp_top (y := nI (i + 1)) (nI_add (i) 1) ?_
      refine wp_sc (t := i + 1) eL_law_384 sc1 n1 (by omega) hL ?_
      refine wp_aload_n eL_law_385 rfl ?_
      refine wp_iload_n eL_law_386 rfl ?_
      refine wp_iconst (v := 2) eL_law_387 rfl ?_
      refine wp_iadd eL_law_388 ?_
      refine wp_top (y := nI (i + 2)) (nI_add (i) 2) ?_
      refine wp_sc (t := i + 2) eL_law_389 sc1 n1 (by omega) hL ?_
      refine wp_aload_n eL_law_390 rfl ?_
      refine wp_iload_n eL_law_391 rfl ?_
      refine wp_iconst (v := 3) eL_law_392 rfl ?_
      refine wp_iadd eL_law_393 ?_
      refine wp_top (y := nI (i + 3)) (nI_add (i) 3) ?_
      refine wp_sc (t := i + 3) eL_law_394 sc1 n1 (by omega) hL ?_
      refine wp_ifT eL_law_395 (show (xs (i + 3)) = 0 from c_344) ?_
      refine wp_iconst (v := 0) eL_law_402 rfl ?_
      refine wp_aload_n eL_law_403 rfl ?_
      refine wp_iload_n eL_law_404 rfl ?_
      refine wp_iconst (v := 4) eL_law_405 rfl ?_
      refine wp_iadd eL_law_406 ?_
      refine wp_top (y := nI (i + 4)) (nI_add (i) 4) ?_
      refine wp_sc (t := i + 4) eL_law_407 sc1 n1 (by omega) hL ?_
      refine wp_ifF eL_law_408 (show ¬ ((xs (i + 4)) = 0) from c_357) ?_
      refine wp_iconst (v := 1) eL_law_411 rfl ?_
      refine wp_goto eL_law_412 ?_
      refine wp_aload_n eL_law_416 rfl ?_
      refine wp_iload_n eL_law_417 rfl ?_
      refine wp_iconst (v := 5) eL_law_418 rfl ?_
      refine wp_iadd eL_law_419 ?_
      refine wp_top (y := nI (i + 5)) (nI_add (i) 5) ?_
      refine wp_sc (t := i + 5) eL_law_420 sc1 n1 (by omega) hL ?_
      refine wp_aload_n eL_law_421 rfl ?_
      refine wp_iload_n eL_law_422 rfl ?_
      refine wp_bipush (v := 6) eL_law_423 rfl ?_
      refine wp_iadd eL_law_425 ?_
      refine wp_top (y := nI (i + 6)) (nI_add (i) 6) ?_
      refine wp_sc (t := i + 6) eL_law_426 sc1 n1 (by omega) hL ?_
      refine wp_virt (rv := (some (.int v))) (h' := h2) (r := [.int v]) eL_law_427 [.int (xs (i + 1)), .int (xs (i + 2)), .int 0, .int 1, .int (xs (i + 5)), .int (xs (i + 6))] rfl rfl rfl (show Ob h1 10 6 from ob1) r6 ?_
      refine wp_icmpT eL_law_430 (show v = v from rfl) ?_
      exact kx S' h2 hI2 hn2 hz2
  · refine wp_iconst (v := 1) eL_law_347 rfl ?_
    refine wp_goto eL_law_348 ?_
    refine wp_aload_n eL_law_352 rfl ?_
    refine wp_iload_n eL_law_353 rfl ?_
    refine wp_iconst (v := 4) eL_law_354 rfl ?_
    refine wp_iadd eL_law_355 ?_
    refine wp_top (y := nI (i + 4)) (nI_add (i) 4) ?_
    refine wp_sc (t := i + 4) eL_law_356 hI.2.2.2.2.2 hpos (by omega) hL ?_
    refine wp_if eL_law_357 (fun (c_357 : (xs (i + 4)) = 0) => ?_) (fun (c_357 : ¬ ((xs (i + 4)) = 0)) => ?_)
    · refine wp_iconst (v := 0) eL_law_364 rfl ?_
      refine wp_aload_n eL_law_365 rfl ?_
      refine wp_iload_n eL_law_366 rfl ?_
      refine wp_iconst (v := 5) eL_law_367 rfl ?_
      refine wp_iadd eL_law_368 ?_
      refine wp_top (y := nI (i + 5)) (nI_add (i) 5) ?_
      refine wp_sc (t := i + 5) eL_law_369 hI.2.2.2.2.2 hpos (by omega) hL ?_
      refine wp_aload_n eL_law_370 rfl ?_
      refine wp_iload_n eL_law_371 rfl ?_
      refine wp_bipush (v := 6) eL_law_372 rfl ?_
      refine wp_iadd eL_law_374 ?_
      refine wp_top (y := nI (i + 6)) (nI_add (i) 6) ?_
      refine wp_sc (t := i + 6) eL_law_375 hI.2.2.2.2.2 hpos (by omega) hL ?_
      obtain ⟨v, S', h1, h2, r5, ⟨sc1, ob1, n1⟩, r6, hI2, hn2, hz2⟩ := op_put hI (xs (i + 1)) (xs (i + 2)) 1 0 (xs (i + 5)) (xs (i + 6)) (by first | exact Or.inl rfl | exact Or.inr rfl) (by first | exact Or.inl rfl | exact Or.inr rfl)
      refine wp_virt (rv := (some (.int v))) (h' := h1) (r := []) eL_law_376 [.int (xs (i + 1)), .int (xs (i + 2)), .int 1, .int 0, .int (xs (i + 5)), .int (xs (i + 6))] rfl rfl rfl (show Ob h 1 5 from hI.2.1.1.ob) r5 ?_
      refine wp_aload_n eL_law_379 rfl ?_
      refine wp_aload_n eL_law_380 rfl ?_
      refine wp_iload_n eL_law_381 rfl ?_
      refine wp_iconst (v := 1) eL_law_382 rfl ?_
      refine wp_iadd eL_law_383 ?_
      refine wp_top (y := nI (i + 1)) (nI_add (i) 1) ?_
      refine wp_sc (t := i + 1) eL_law_384 sc1 n1 (by omega) hL ?_
      refine wp_aload_n eL_law_385 rfl ?_
      refine wp_iload_n eL_law_386 rfl ?_
      refine wp_iconst (v := 2) eL_law_387 rfl ?_
      refine wp_iadd eL_law_388 ?_
      refine wp_top (y := nI (i + 2)) (nI_add (i) 2) ?_
      refine wp_sc (t := i + 2) eL_law_389 sc1 n1 (by omega) hL ?_
      refine wp_aload_n eL_law_390 rfl ?_
      refine wp_iload_n eL_law_391 rfl ?_
      refine wp_iconst (v := 3) eL_law_392 rfl ?_
      refine wp_iadd eL_law_393 ?_
      refine wp_top (y := nI (i + 3)) (nI_add (i) 3) ?_
      refine wp_sc (t := i + 3) eL_law_394 sc1 n1 (by omega) hL ?_
      refine wp_ifF eL_law_395 (show ¬ ((xs (i + 3)) = 0) from c_344) ?_
      refine wp_iconst (v := 1) eL_law_398 rfl ?_
      refine wp_goto eL_law_399 ?_
      refine wp_aload_n eL_law_403 rfl ?_
      refine wp_iload_n eL_law_404 rfl ?_
      refine wp_iconst (v := 4) eL_law_405 rfl ?_
      refine wp_iadd eL_law_406 ?_
      refine wp_top (y := nI (i + 4)) (nI_add (i) 4) ?_
      refine wp_sc (t := i + 4) eL_law_407 sc1 n1 (by omega) hL ?_
      refine wp_ifT eL_law_408 (show (xs (i + 4)) = 0 from c_357) ?_
      refine wp_iconst (v := 0) eL_law_415 rfl ?_
      refine wp_aload_n eL_law_416 rfl ?_
      refine wp_iload_n eL_law_417 rfl ?_
      refine wp_iconst (v := 5) eL_law_418 rfl ?_
      refine wp_iadd eL_law_419 ?_
      refine wp_top (y := nI (i + 5)) (nI_add (i) 5) ?_
      refine wp_sc (t := i + 5) eL_law_420 sc1 n1 (by omega) hL ?_
      refine wp_aload_n eL_law_421 rfl ?_
      refine wp_iload_n eL_law_422 rfl ?_
      refine wp_bipush (v := 6) eL_law_423 rfl ?_
      refine wp_iadd eL_law_425 ?_
      refine wp_top (y := nI (i + 6)) (nI_add (i) 6) ?_
      refine wp_sc (t := i + 6) eL_law_426 sc1 n1 (by omega) hL ?_
      refine wp_virt (rv := (some (.int v))) (h' := h2) (r := [.int v]) eL_law_427 [.int (xs (i + 1)), .int (xs (i + 2)), .int 1, .int 0, .int (xs (i + 5)), .int (xs (i + 6))] rfl rfl rfl (show Ob h1 10 6 from ob1) r6 ?_
      refine wp_icmpT eL_law_430 (show v = v from rfl) ?_
      exact kx S' h2 hI2 hn2 hz2
    · refine wp_iconst (v := 1) eL_law_360 rfl ?_
      refine wp_goto eL_law_361 ?_
      refine wp_aload_n eL_law_365 rfl ?_
      refine wp_iload_n eL_law_366 rfl ?_
      refine wp_iconst (v := 5) eL_law_367 rfl ?_
      refine wp_iadd eL_law_368 ?_
      refine wp_top (y := nI (i + 5)) (nI_add (i) 5) ?_
      refine wp_sc (t := i + 5) eL_law_369 hI.2.2.2.2.2 hpos (by omega) hL ?_
      refine wp_aload_n eL_law_370 rfl ?_
      refine wp_iload_n eL_law_371 rfl ?_
      refine wp_bipush (v := 6) eL_law_372 rfl ?_
      refine wp_iadd eL_law_374 ?_
      refine wp_top (y := nI (i + 6)) (nI_add (i) 6) ?_
      refine wp_sc (t := i + 6) eL_law_375 hI.2.2.2.2.2 hpos (by omega) hL ?_
      obtain ⟨v, S', h1, h2, r5, ⟨sc1, ob1, n1⟩, r6, hI2, hn2, hz2⟩ := op_put hI (xs (i + 1)) (xs (i + 2)) 1 1 (xs (i + 5)) (xs (i + 6)) (by first | exact Or.inl rfl | exact Or.inr rfl) (by first | exact Or.inl rfl | exact Or.inr rfl)
      refine wp_virt (rv := (some (.int v))) (h' := h1) (r := []) eL_law_376 [.int (xs (i + 1)), .int (xs (i + 2)), .int 1, .int 1, .int (xs (i + 5)), .int (xs (i + 6))] rfl rfl rfl (show Ob h 1 5 from hI.2.1.1.ob) r5 ?_
      refine wp_aload_n eL_law_379 rfl ?_
      refine wp_aload_n eL_law_380 rfl ?_
      refine wp_iload_n eL_law_381 rfl ?_
      refine wp_iconst (v := 1) eL_law_382 rfl ?_
      refine wp_iadd eL_law_383 ?_
      refine wp_top (y := nI (i + 1)) (nI_add (i) 1) ?_
      refine wp_sc (t := i + 1) eL_law_384 sc1 n1 (by omega) hL ?_
      refine wp_aload_n eL_law_385 rfl ?_
      refine wp_iload_n eL_law_386 rfl ?_
      refine wp_iconst (v := 2) eL_law_387 rfl ?_
      refine wp_iadd eL_law_388 ?_
      refine wp_top (y := nI (i + 2)) (nI_add (i) 2) ?_
      refine wp_sc (t := i + 2) eL_law_389 sc1 n1 (by omega) hL ?_
      refine wp_aload_n eL_law_390 rfl ?_
      refine wp_iload_n eL_law_391 rfl ?_
      refine wp_iconst (v := 3) eL_law_392 rfl ?_
      refine wp_iadd eL_law_393 ?_
      refine wp_top (y := nI (i + 3)) (nI_add (i) 3) ?_
      refine wp_sc (t := i + 3) eL_law_394 sc1 n1 (by omega) hL ?_
      refine wp_ifF eL_law_395 (show ¬ ((xs (i + 3)) = 0) from c_344) ?_
      refine wp_iconst (v := 1) eL_law_398 rfl ?_
      refine wp_goto eL_law_399 ?_
      refine wp_aload_n eL_law_403 rfl ?_
      refine wp_iload_n eL_law_404 rfl ?_
      refine wp_iconst (v := 4) eL_law_405 rfl ?_
      refine wp_iadd eL_law_406 ?_
      refine wp_top (y := nI (i + 4)) (nI_add (i) 4) ?_
      refine wp_sc (t := i + 4) eL_law_407 sc1 n1 (by omega) hL ?_
      refine wp_ifF eL_law_408 (show ¬ ((xs (i + 4)) = 0) from c_357) ?_
      refine wp_iconst (v := 1) eL_law_411 rfl ?_
      refine wp_goto eL_law_412 ?_
      refine wp_aload_n eL_law_416 rfl ?_
      refine wp_iload_n eL_law_417 rfl ?_
      refine wp_iconst (v := 5) eL_law_418 rfl ?_
      refine wp_iadd eL_law_419 ?_
      refine wp_top (y := nI (i + 5)) (nI_add (i) 5) ?_
      refine wp_sc (t := i + 5) eL_law_420 sc1 n1 (by omega) hL ?_
      refine wp_aload_n eL_law_421 rfl ?_
      refine wp_iload_n eL_law_422 rfl ?_
      refine wp_bipush (v := 6) eL_law_423 rfl ?_
      refine wp_iadd eL_law_425 ?_
      refine wp_top (y := nI (i + 6)) (nI_add (i) 6) ?_
      refine wp_sc (t := i + 6) eL_law_426 sc1 n1 (by omega) hL ?_
      refine wp_virt (rv := (some (.int v))) (h' := h2) (r := [.int v]) eL_law_427 [.int (xs (i + 1)), .int (xs (i + 2)), .int 1, .int 1, .int (xs (i + 5)), .int (xs (i + 6))] rfl rfl rfl (show Ob h1 10 6 from ob1) r6 ?_
      refine wp_icmpT eL_law_430 (show v = v from rfl) ?_
      exact kx S' h2 hI2 hn2 hz2

set_option maxRecDepth 4000 in
theorem lL_fee {L : Nat} {xs : Nat → Int32} {S : St} {h : Hp} (hI : IV L xs S h) (hL : L ≤ 3584) (i : Nat) (hi : i + 7 ≤ L) {Q : Option Value → Hp → Prop} (kx : ∀ (S' : St) (h2 : Hp), IV L xs S' h2 → am_n h2 ≤ am_n h + 2 → am_z h2 ≤ am_z h + 15 → WP kL_law (Res 7) Q 879 [some (.ref 0), some (.ref 1), some (.ref 10), some (.int (nI i))] [] h2) : WP kL_law (Res 7) Q 435 [some (.ref 0), some (.ref 1), some (.ref 10), some (.int (nI i))] [] h := by
  have hpos : 0 < am_n h := hI.2.1.pos
  refine wp_aload_n eL_law_435 rfl ?_
  refine wp_aload_n eL_law_436 rfl ?_
  refine wp_iload_n eL_law_437 rfl ?_
  refine wp_iconst (v := 1) eL_law_438 rfl ?_
  refine wp_iadd eL_law_439 ?_
  refine wp_top (y := nI (i + 1)) (nI_add (i) 1) ?_
  refine wp_sc (t := i + 1) eL_law_440 hI.2.2.2.2.2 hpos (by omega) hL ?_
  obtain ⟨v, S', h1, h2, r5, ⟨sc1, ob1, n1⟩, r6, hI2, hn2, hz2⟩ := op_fee hI (xs (i + 1))
  refine wp_virt (rv := (some (.int v))) (h' := h1) (r := []) eL_law_441 [.int (xs (i + 1))] rfl rfl rfl (show Ob h 1 5 from hI.2.1.1.ob) r5 ?_
  refine wp_aload_n eL_law_444 rfl ?_
  refine wp_aload_n eL_law_445 rfl ?_
  refine wp_iload_n eL_law_446 rfl ?_
  refine wp_iconst (v := 1) eL_law_447 rfl ?_
  refine wp_iadd eL_law_448 ?_
  refine wp_top (y := nI (i + 1)) (nI_add (i) 1) ?_
  refine wp_sc (t := i + 1) eL_law_449 sc1 n1 (by omega) hL ?_
  refine wp_virt (rv := (some (.int v))) (h' := h2) (r := [.int v]) eL_law_450 [.int (xs (i + 1))] rfl rfl rfl (show Ob h1 10 6 from ob1) r6 ?_
  refine wp_icmpT eL_law_453 (show v = v from rfl) ?_
  exact kx S' h2 hI2 hn2 hz2

set_option maxRecDepth 4000 in
theorem lL_give {L : Nat} {xs : Nat → Int32} {S : St} {h : Hp} (hI : IV L xs S h) (hL : L ≤ 3584) (i : Nat) (hi : i + 7 ≤ L) {Q : Option Value → Hp → Prop} (kx : ∀ (S' : St) (h2 : Hp), IV L xs S' h2 → am_n h2 ≤ am_n h + 2 → am_z h2 ≤ am_z h + 15 → WP kL_law (Res 7) Q 879 [some (.ref 0), some (.ref 1), some (.ref 10), some (.int (nI i))] [] h2) : WP kL_law (Res 7) Q 458 [some (.ref 0), some (.ref 1), some (.ref 10), some (.int (nI i))] [] h := by
  have hpos : 0 < am_n h := hI.2.1.pos
  refine wp_aload_n eL_law_458 rfl ?_
  refine wp_aload_n eL_law_459 rfl ?_
  refine wp_iload_n eL_law_460 rfl ?_
  refine wp_iconst (v := 1) eL_law_461 rfl ?_
  refine wp_iadd eL_law_462 ?_
  refine wp_top (y := nI (i + 1)) (nI_add (i) 1) ?_
  refine wp_sc (t := i + 1) eL_law_463 hI.2.2.2.2.2 hpos (by omega) hL ?_
  obtain ⟨v, S', h1, h2, r5, ⟨sc1, ob1, n1⟩, r6, hI2, hn2, hz2⟩ := op_give hI (xs (i + 1))
  refine wp_virt (rv := (some (.int v))) (h' := h1) (r := []) eL_law_464 [.int (xs (i + 1))] rfl rfl rfl (show Ob h 1 5 from hI.2.1.1.ob) r5 ?_
  refine wp_aload_n eL_law_467 rfl ?_
  refine wp_aload_n eL_law_468 rfl ?_
  refine wp_iload_n eL_law_469 rfl ?_
  refine wp_iconst (v := 1) eL_law_470 rfl ?_
  refine wp_iadd eL_law_471 ?_
  refine wp_top (y := nI (i + 1)) (nI_add (i) 1) ?_
  refine wp_sc (t := i + 1) eL_law_472 sc1 n1 (by omega) hL ?_
  refine wp_virt (rv := (some (.int v))) (h' := h2) (r := [.int v]) eL_law_473 [.int (xs (i + 1))] rfl rfl rfl (show Ob h1 10 6 from ob1) r6 ?_
  refine wp_icmpT eL_law_476 (show v = v from rfl) ?_
  exact kx S' h2 hI2 hn2 hz2

set_option maxRecDepth 4000 in
theorem lL_claim {L : Nat} {xs : Nat → Int32} {S : St} {h : Hp} (hI : IV L xs S h) (hL : L ≤ 3584) (i : Nat) (hi : i + 7 ≤ L) {Q : Option Value → Hp → Prop} (kx : ∀ (S' : St) (h2 : Hp), IV L xs S' h2 → am_n h2 ≤ am_n h + 2 → am_z h2 ≤ am_z h + 15 → WP kL_law (Res 7) Q 879 [some (.ref 0), some (.ref 1), some (.ref 10), some (.int (nI i))] [] h2) : WP kL_law (Res 7) Q 481 [some (.ref 0), some (.ref 1), some (.ref 10), some (.int (nI i))] [] h := by
  have hpos : 0 < am_n h := hI.2.1.pos
  refine wp_aload_n eL_law_481 rfl ?_
  obtain ⟨v, S', h1, h2, r5, ⟨sc1, ob1, n1⟩, r6, hI2, hn2, hz2⟩ := op_claim hI 
  refine wp_virt (rv := (some (.int v))) (h' := h1) (r := []) eL_law_482 [] rfl rfl rfl (show Ob h 1 5 from hI.2.1.1.ob) r5 ?_
  refine wp_aload_n eL_law_485 rfl ?_
  refine wp_virt (rv := (some (.int v))) (h' := h2) (r := [.int v]) eL_law_486 [] rfl rfl rfl (show Ob h1 10 6 from ob1) r6 ?_
  refine wp_icmpT eL_law_489 (show v = v from rfl) ?_
  exact kx S' h2 hI2 hn2 hz2

set_option maxRecDepth 4000 in
theorem lL_mark {L : Nat} {xs : Nat → Int32} {S : St} {h : Hp} (hI : IV L xs S h) (hL : L ≤ 3584) (i : Nat) (hi : i + 7 ≤ L) {Q : Option Value → Hp → Prop} (kx : ∀ (S' : St) (h2 : Hp), IV L xs S' h2 → am_n h2 ≤ am_n h + 2 → am_z h2 ≤ am_z h + 15 → WP kL_law (Res 7) Q 879 [some (.ref 0), some (.ref 1), some (.ref 10), some (.int (nI i))] [] h2) : WP kL_law (Res 7) Q 494 [some (.ref 0), some (.ref 1), some (.ref 10), some (.int (nI i))] [] h := by
  have hpos : 0 < am_n h := hI.2.1.pos
  refine wp_aload_n eL_law_494 rfl ?_
  refine wp_aload_n eL_law_495 rfl ?_
  refine wp_iload_n eL_law_496 rfl ?_
  refine wp_iconst (v := 1) eL_law_497 rfl ?_
  refine wp_iadd eL_law_498 ?_
  refine wp_top (y := nI (i + 1)) (nI_add (i) 1) ?_
  refine wp_sc (t := i + 1) eL_law_499 hI.2.2.2.2.2 hpos (by omega) hL ?_
  refine wp_aload_n eL_law_500 rfl ?_
  refine wp_iload_n eL_law_501 rfl ?_
  refine wp_iconst (v := 2) eL_law_502 rfl ?_
  refine wp_iadd eL_law_503 ?_
  refine wp_top (y := nI (i + 2)) (nI_add (i) 2) ?_
  refine wp_sc (t := i + 2) eL_law_504 hI.2.2.2.2.2 hpos (by omega) hL ?_
  refine wp_aload_n eL_law_505 rfl ?_
  refine wp_iload_n eL_law_506 rfl ?_
  refine wp_iconst (v := 3) eL_law_507 rfl ?_
  refine wp_iadd eL_law_508 ?_
  refine wp_top (y := nI (i + 3)) (nI_add (i) 3) ?_
  refine wp_sc (t := i + 3) eL_law_509 hI.2.2.2.2.2 hpos (by omega) hL ?_
  obtain ⟨v, S', h1, h2, r5, ⟨sc1, ob1, n1⟩, r6, hI2, hn2, hz2⟩ := op_mark hI (xs (i + 1)) (xs (i + 2)) (xs (i + 3))
  refine wp_virt (rv := (some (.int v))) (h' := h1) (r := []) eL_law_510 [.int (xs (i + 1)), .int (xs (i + 2)), .int (xs (i + 3))] rfl rfl rfl (show Ob h 1 5 from hI.2.1.1.ob) r5 ?_
  refine wp_aload_n eL_law_513 rfl ?_
  refine wp_aload_n eL_law_514 rfl ?_
  refine wp_iload_n eL_law_515 rfl ?_
  refine wp_iconst (v := 1) eL_law_516 rfl ?_
  refine wp_iadd eL_law_517 ?_
  refine wp_top (y := nI (i + 1)) (nI_add (i) 1) ?_
  refine wp_sc (t := i + 1) eL_law_518 sc1 n1 (by omega) hL ?_
  refine wp_aload_n eL_law_519 rfl ?_
  refine wp_iload_n eL_law_520 rfl ?_
  refine wp_iconst (v := 2) eL_law_521 rfl ?_
  refine wp_iadd eL_law_522 ?_
  refine wp_top (y := nI (i + 2)) (nI_add (i) 2) ?_
  refine wp_sc (t := i + 2) eL_law_523 sc1 n1 (by omega) hL ?_
  refine wp_aload_n eL_law_524 rfl ?_
  refine wp_iload_n eL_law_525 rfl ?_
  refine wp_iconst (v := 3) eL_law_526 rfl ?_
  refine wp_iadd eL_law_527 ?_
  refine wp_top (y := nI (i + 3)) (nI_add (i) 3) ?_
  refine wp_sc (t := i + 3) eL_law_528 sc1 n1 (by omega) hL ?_
  refine wp_virt (rv := (some (.int v))) (h' := h2) (r := [.int v]) eL_law_529 [.int (xs (i + 1)), .int (xs (i + 2)), .int (xs (i + 3))] rfl rfl rfl (show Ob h1 10 6 from ob1) r6 ?_
  refine wp_icmpT eL_law_532 (show v = v from rfl) ?_
  exact kx S' h2 hI2 hn2 hz2

set_option maxRecDepth 4000 in
theorem lL_means {L : Nat} {xs : Nat → Int32} {S : St} {h : Hp} (hI : IV L xs S h) (hL : L ≤ 3584) (i : Nat) (hi : i + 7 ≤ L) {Q : Option Value → Hp → Prop} (kx : ∀ (S' : St) (h2 : Hp), IV L xs S' h2 → am_n h2 ≤ am_n h + 2 → am_z h2 ≤ am_z h + 15 → WP kL_law (Res 7) Q 879 [some (.ref 0), some (.ref 1), some (.ref 10), some (.int (nI i))] [] h2) : WP kL_law (Res 7) Q 537 [some (.ref 0), some (.ref 1), some (.ref 10), some (.int (nI i))] [] h := by
  have hpos : 0 < am_n h := hI.2.1.pos
  refine wp_aload_n eL_law_537 rfl ?_
  refine wp_aload_n eL_law_538 rfl ?_
  refine wp_iload_n eL_law_539 rfl ?_
  refine wp_iconst (v := 1) eL_law_540 rfl ?_
  refine wp_iadd eL_law_541 ?_
  refine wp_top (y := nI (i + 1)) (nI_add (i) 1) ?_
  refine wp_sc (t := i + 1) eL_law_542 hI.2.2.2.2.2 hpos (by omega) hL ?_
  obtain ⟨v, S', h1, h2, r5, ⟨sc1, ob1, n1⟩, r6, hI2, hn2, hz2⟩ := op_means hI (xs (i + 1))
  refine wp_virt (rv := (some (.int v))) (h' := h1) (r := []) eL_law_543 [.int (xs (i + 1))] rfl rfl rfl (show Ob h 1 5 from hI.2.1.1.ob) r5 ?_
  refine wp_aload_n eL_law_546 rfl ?_
  refine wp_aload_n eL_law_547 rfl ?_
  refine wp_iload_n eL_law_548 rfl ?_
  refine wp_iconst (v := 1) eL_law_549 rfl ?_
  refine wp_iadd eL_law_550 ?_
  refine wp_top (y := nI (i + 1)) (nI_add (i) 1) ?_
  refine wp_sc (t := i + 1) eL_law_551 sc1 n1 (by omega) hL ?_
  refine wp_virt (rv := (some (.int v))) (h' := h2) (r := [.int v]) eL_law_552 [.int (xs (i + 1))] rfl rfl rfl (show Ob h1 10 6 from ob1) r6 ?_
  refine wp_icmpT eL_law_555 (show v = v from rfl) ?_
  exact kx S' h2 hI2 hn2 hz2

set_option maxRecDepth 4000 in
theorem lL_ask {L : Nat} {xs : Nat → Int32} {S : St} {h : Hp} (hI : IV L xs S h) (hL : L ≤ 3584) (i : Nat) (hi : i + 7 ≤ L) {Q : Option Value → Hp → Prop} (kx : ∀ (S' : St) (h2 : Hp), IV L xs S' h2 → am_n h2 ≤ am_n h + 2 → am_z h2 ≤ am_z h + 15 → WP kL_law (Res 7) Q 879 [some (.ref 0), some (.ref 1), some (.ref 10), some (.int (nI i))] [] h2) : WP kL_law (Res 7) Q 560 [some (.ref 0), some (.ref 1), some (.ref 10), some (.int (nI i))] [] h := by
  have hpos : 0 < am_n h := hI.2.1.pos
  refine wp_aload_n eL_law_560 rfl ?_
  refine wp_aload_n eL_law_561 rfl ?_
  refine wp_iload_n eL_law_562 rfl ?_
  refine wp_iconst (v := 1) eL_law_563 rfl ?_
  refine wp_iadd eL_law_564 ?_
  refine wp_top (y := nI (i + 1)) (nI_add (i) 1) ?_
  refine wp_sc (t := i + 1) eL_law_565 hI.2.2.2.2.2 hpos (by omega) hL ?_
  obtain ⟨v, S', h1, h2, r5, ⟨sc1, ob1, n1⟩, r6, hI2, hn2, hz2⟩ := op_ask hI (xs (i + 1))
  refine wp_virt (rv := (some (.int v))) (h' := h1) (r := []) eL_law_566 [.int (xs (i + 1))] rfl rfl rfl (show Ob h 1 5 from hI.2.1.1.ob) r5 ?_
  refine wp_aload_n eL_law_569 rfl ?_
  refine wp_aload_n eL_law_570 rfl ?_
  refine wp_iload_n eL_law_571 rfl ?_
  refine wp_iconst (v := 1) eL_law_572 rfl ?_
  refine wp_iadd eL_law_573 ?_
  refine wp_top (y := nI (i + 1)) (nI_add (i) 1) ?_
  refine wp_sc (t := i + 1) eL_law_574 sc1 n1 (by omega) hL ?_
  refine wp_virt (rv := (some (.int v))) (h' := h2) (r := [.int v]) eL_law_575 [.int (xs (i + 1))] rfl rfl rfl (show Ob h1 10 6 from ob1) r6 ?_
  refine wp_icmpT eL_law_578 (show v = v from rfl) ?_
  exact kx S' h2 hI2 hn2 hz2

set_option maxRecDepth 4000 in
theorem lL_settle {L : Nat} {xs : Nat → Int32} {S : St} {h : Hp} (hI : IV L xs S h) (hL : L ≤ 3584) (i : Nat) (hi : i + 7 ≤ L) {Q : Option Value → Hp → Prop} (kx : ∀ (S' : St) (h2 : Hp), IV L xs S' h2 → am_n h2 ≤ am_n h + 2 → am_z h2 ≤ am_z h + 15 → WP kL_law (Res 7) Q 879 [some (.ref 0), some (.ref 1), some (.ref 10), some (.int (nI i))] [] h2) : WP kL_law (Res 7) Q 583 [some (.ref 0), some (.ref 1), some (.ref 10), some (.int (nI i))] [] h := by
  have hpos : 0 < am_n h := hI.2.1.pos
  refine wp_aload_n eL_law_583 rfl ?_
  refine wp_aload_n eL_law_584 rfl ?_
  refine wp_iload_n eL_law_585 rfl ?_
  refine wp_iconst (v := 1) eL_law_586 rfl ?_
  refine wp_iadd eL_law_587 ?_
  refine wp_top (y := nI (i + 1)) (nI_add (i) 1) ?_
  refine wp_sc (t := i + 1) eL_law_588 hI.2.2.2.2.2 hpos (by omega) hL ?_
  obtain ⟨v, S', h1, h2, r5, ⟨sc1, ob1, n1⟩, r6, hI2, hn2, hz2⟩ := op_settle hI (xs (i + 1))
  refine wp_virt (rv := (some (.int v))) (h' := h1) (r := []) eL_law_589 [.int (xs (i + 1))] rfl rfl rfl (show Ob h 1 5 from hI.2.1.1.ob) r5 ?_
  refine wp_aload_n eL_law_592 rfl ?_
  refine wp_aload_n eL_law_593 rfl ?_
  refine wp_iload_n eL_law_594 rfl ?_
  refine wp_iconst (v := 1) eL_law_595 rfl ?_
  refine wp_iadd eL_law_596 ?_
  refine wp_top (y := nI (i + 1)) (nI_add (i) 1) ?_
  refine wp_sc (t := i + 1) eL_law_597 sc1 n1 (by omega) hL ?_
  refine wp_virt (rv := (some (.int v))) (h' := h2) (r := [.int v]) eL_law_598 [.int (xs (i + 1))] rfl rfl rfl (show Ob h1 10 6 from ob1) r6 ?_
  refine wp_icmpT eL_law_601 (show v = v from rfl) ?_
  exact kx S' h2 hI2 hn2 hz2

set_option maxRecDepth 4000 in
theorem lL_misfit {L : Nat} {xs : Nat → Int32} {S : St} {h : Hp} (hI : IV L xs S h) (hL : L ≤ 3584) (i : Nat) (hi : i + 7 ≤ L) {Q : Option Value → Hp → Prop} (kx : ∀ (S' : St) (h2 : Hp), IV L xs S' h2 → am_n h2 ≤ am_n h + 2 → am_z h2 ≤ am_z h + 15 → WP kL_law (Res 7) Q 879 [some (.ref 0), some (.ref 1), some (.ref 10), some (.int (nI i))] [] h2) : WP kL_law (Res 7) Q 606 [some (.ref 0), some (.ref 1), some (.ref 10), some (.int (nI i))] [] h := by
  have hpos : 0 < am_n h := hI.2.1.pos
  refine wp_aload_n eL_law_606 rfl ?_
  obtain ⟨v, S', h1, h2, r5, ⟨sc1, ob1, n1⟩, r6, hI2, hn2, hz2⟩ := op_misfit hI 
  refine wp_virt (rv := (some (.int v))) (h' := h1) (r := []) eL_law_607 [] rfl rfl rfl (show Ob h 1 5 from hI.2.1.1.ob) r5 ?_
  refine wp_aload_n eL_law_610 rfl ?_
  refine wp_virt (rv := (some (.int v))) (h' := h2) (r := [.int v]) eL_law_611 [] rfl rfl rfl (show Ob h1 10 6 from ob1) r6 ?_
  refine wp_icmpT eL_law_614 (show v = v from rfl) ?_
  exact kx S' h2 hI2 hn2 hz2

set_option maxRecDepth 4000 in
theorem lL_tidy {L : Nat} {xs : Nat → Int32} {S : St} {h : Hp} (hI : IV L xs S h) (hL : L ≤ 3584) (i : Nat) (hi : i + 7 ≤ L) {Q : Option Value → Hp → Prop} (kx : ∀ (S' : St) (h2 : Hp), IV L xs S' h2 → am_n h2 ≤ am_n h + 2 → am_z h2 ≤ am_z h + 15 → WP kL_law (Res 7) Q 879 [some (.ref 0), some (.ref 1), some (.ref 10), some (.int (nI i))] [] h2) : WP kL_law (Res 7) Q 619 [some (.ref 0), some (.ref 1), some (.ref 10), some (.int (nI i))] [] h := by
  have hpos : 0 < am_n h := hI.2.1.pos
  refine wp_aload_n eL_law_619 rfl ?_
  refine wp_aload_n eL_law_620 rfl ?_
  refine wp_iload_n eL_law_621 rfl ?_
  refine wp_iconst (v := 1) eL_law_622 rfl ?_
  refine wp_iadd eL_law_623 ?_
  refine wp_top (y := nI (i + 1)) (nI_add (i) 1) ?_
  refine wp_sc (t := i + 1) eL_law_624 hI.2.2.2.2.2 hpos (by omega) hL ?_
  obtain ⟨v, S', h1, h2, r5, ⟨sc1, ob1, n1⟩, r6, hI2, hn2, hz2⟩ := op_tidy hI (xs (i + 1))
  refine wp_virt (rv := (some (.int v))) (h' := h1) (r := []) eL_law_625 [.int (xs (i + 1))] rfl rfl rfl (show Ob h 1 5 from hI.2.1.1.ob) r5 ?_
  refine wp_aload_n eL_law_628 rfl ?_
  refine wp_aload_n eL_law_629 rfl ?_
  refine wp_iload_n eL_law_630 rfl ?_
  refine wp_iconst (v := 1) eL_law_631 rfl ?_
  refine wp_iadd eL_law_632 ?_
  refine wp_top (y := nI (i + 1)) (nI_add (i) 1) ?_
  refine wp_sc (t := i + 1) eL_law_633 sc1 n1 (by omega) hL ?_
  refine wp_virt (rv := (some (.int v))) (h' := h2) (r := [.int v]) eL_law_634 [.int (xs (i + 1))] rfl rfl rfl (show Ob h1 10 6 from ob1) r6 ?_
  refine wp_icmpT eL_law_637 (show v = v from rfl) ?_
  exact kx S' h2 hI2 hn2 hz2

set_option maxRecDepth 4000 in
theorem lL_least {L : Nat} {xs : Nat → Int32} {S : St} {h : Hp} (hI : IV L xs S h) (hL : L ≤ 3584) (i : Nat) (hi : i + 7 ≤ L) {Q : Option Value → Hp → Prop} (kx : ∀ (S' : St) (h2 : Hp), IV L xs S' h2 → am_n h2 ≤ am_n h + 2 → am_z h2 ≤ am_z h + 15 → WP kL_law (Res 7) Q 879 [some (.ref 0), some (.ref 1), some (.ref 10), some (.int (nI i))] [] h2) : WP kL_law (Res 7) Q 642 [some (.ref 0), some (.ref 1), some (.ref 10), some (.int (nI i))] [] h := by
  have hpos : 0 < am_n h := hI.2.1.pos
  refine wp_aload_n eL_law_642 rfl ?_
  obtain ⟨v, S', h1, h2, r5, ⟨sc1, ob1, n1⟩, r6, hI2, hn2, hz2⟩ := op_least hI 
  refine wp_virt (rv := (some (.int v))) (h' := h1) (r := []) eL_law_643 [] rfl rfl rfl (show Ob h 1 5 from hI.2.1.1.ob) r5 ?_
  refine wp_aload_n eL_law_646 rfl ?_
  refine wp_virt (rv := (some (.int v))) (h' := h2) (r := [.int v]) eL_law_647 [] rfl rfl rfl (show Ob h1 10 6 from ob1) r6 ?_
  refine wp_icmpT eL_law_650 (show v = v from rfl) ?_
  exact kx S' h2 hI2 hn2 hz2

set_option maxRecDepth 4000 in
theorem lL_sell {L : Nat} {xs : Nat → Int32} {S : St} {h : Hp} (hI : IV L xs S h) (hL : L ≤ 3584) (i : Nat) (hi : i + 7 ≤ L) {Q : Option Value → Hp → Prop} (kx : ∀ (S' : St) (h2 : Hp), IV L xs S' h2 → am_n h2 ≤ am_n h + 2 → am_z h2 ≤ am_z h + 15 → WP kL_law (Res 7) Q 879 [some (.ref 0), some (.ref 1), some (.ref 10), some (.int (nI i))] [] h2) : WP kL_law (Res 7) Q 655 [some (.ref 0), some (.ref 1), some (.ref 10), some (.int (nI i))] [] h := by
  have hpos : 0 < am_n h := hI.2.1.pos
  refine wp_aload_n eL_law_655 rfl ?_
  refine wp_aload_n eL_law_656 rfl ?_
  refine wp_iload_n eL_law_657 rfl ?_
  refine wp_iconst (v := 1) eL_law_658 rfl ?_
  refine wp_iadd eL_law_659 ?_
  refine wp_top (y := nI (i + 1)) (nI_add (i) 1) ?_
  refine wp_sc (t := i + 1) eL_law_660 hI.2.2.2.2.2 hpos (by omega) hL ?_
  refine wp_aload_n eL_law_661 rfl ?_
  refine wp_iload_n eL_law_662 rfl ?_
  refine wp_iconst (v := 2) eL_law_663 rfl ?_
  refine wp_iadd eL_law_664 ?_
  refine wp_top (y := nI (i + 2)) (nI_add (i) 2) ?_
  refine wp_sc (t := i + 2) eL_law_665 hI.2.2.2.2.2 hpos (by omega) hL ?_
  obtain ⟨v, S', h1, h2, r5, ⟨sc1, ob1, n1⟩, r6, hI2, hn2, hz2⟩ := op_sell hI (xs (i + 1)) (xs (i + 2))
  refine wp_virt (rv := (some (.int v))) (h' := h1) (r := []) eL_law_666 [.int (xs (i + 1)), .int (xs (i + 2))] rfl rfl rfl (show Ob h 1 5 from hI.2.1.1.ob) r5 ?_
  refine wp_aload_n eL_law_669 rfl ?_
  refine wp_aload_n eL_law_670 rfl ?_
  refine wp_iload_n eL_law_671 rfl ?_
  refine wp_iconst (v := 1) eL_law_672 rfl ?_
  refine wp_iadd eL_law_673 ?_
  refine wp_top (y := nI (i + 1)) (nI_add (i) 1) ?_
  refine wp_sc (t := i + 1) eL_law_674 sc1 n1 (by omega) hL ?_
  refine wp_aload_n eL_law_675 rfl ?_
  refine wp_iload_n eL_law_676 rfl ?_
  refine wp_iconst (v := 2) eL_law_677 rfl ?_
  refine wp_iadd eL_law_678 ?_
  refine wp_top (y := nI (i + 2)) (nI_add (i) 2) ?_
  refine wp_sc (t := i + 2) eL_law_679 sc1 n1 (by omega) hL ?_
  refine wp_virt (rv := (some (.int v))) (h' := h2) (r := [.int v]) eL_law_680 [.int (xs (i + 1)), .int (xs (i + 2))] rfl rfl rfl (show Ob h1 10 6 from ob1) r6 ?_
  refine wp_icmpT eL_law_683 (show v = v from rfl) ?_
  exact kx S' h2 hI2 hn2 hz2

set_option maxRecDepth 4000 in
theorem lL_pay {L : Nat} {xs : Nat → Int32} {S : St} {h : Hp} (hI : IV L xs S h) (hL : L ≤ 3584) (i : Nat) (hi : i + 7 ≤ L) {Q : Option Value → Hp → Prop} (kx : ∀ (S' : St) (h2 : Hp), IV L xs S' h2 → am_n h2 ≤ am_n h + 2 → am_z h2 ≤ am_z h + 15 → WP kL_law (Res 7) Q 879 [some (.ref 0), some (.ref 1), some (.ref 10), some (.int (nI i))] [] h2) : WP kL_law (Res 7) Q 688 [some (.ref 0), some (.ref 1), some (.ref 10), some (.int (nI i))] [] h := by
  have hpos : 0 < am_n h := hI.2.1.pos
  refine wp_aload_n eL_law_688 rfl ?_
  refine wp_aload_n eL_law_689 rfl ?_
  refine wp_iload_n eL_law_690 rfl ?_
  refine wp_iconst (v := 1) eL_law_691 rfl ?_
  refine wp_iadd eL_law_692 ?_
  refine wp_top (y := nI (i + 1)) (nI_add (i) 1) ?_
  refine wp_sc (t := i + 1) eL_law_693 hI.2.2.2.2.2 hpos (by omega) hL ?_
  obtain ⟨v, S', h1, h2, r5, ⟨sc1, ob1, n1⟩, r6, hI2, hn2, hz2⟩ := op_pay hI (xs (i + 1))
  refine wp_virt (rv := (some (.int v))) (h' := h1) (r := []) eL_law_694 [.int (xs (i + 1))] rfl rfl rfl (show Ob h 1 5 from hI.2.1.1.ob) r5 ?_
  refine wp_aload_n eL_law_697 rfl ?_
  refine wp_aload_n eL_law_698 rfl ?_
  refine wp_iload_n eL_law_699 rfl ?_
  refine wp_iconst (v := 1) eL_law_700 rfl ?_
  refine wp_iadd eL_law_701 ?_
  refine wp_top (y := nI (i + 1)) (nI_add (i) 1) ?_
  refine wp_sc (t := i + 1) eL_law_702 sc1 n1 (by omega) hL ?_
  refine wp_virt (rv := (some (.int v))) (h' := h2) (r := [.int v]) eL_law_703 [.int (xs (i + 1))] rfl rfl rfl (show Ob h1 10 6 from ob1) r6 ?_
  refine wp_icmpT eL_law_706 (show v = v from rfl) ?_
  exact kx S' h2 hI2 hn2 hz2

set_option maxRecDepth 4000 in
theorem lL_tear {L : Nat} {xs : Nat → Int32} {S : St} {h : Hp} (hI : IV L xs S h) (hL : L ≤ 3584) (i : Nat) (hi : i + 7 ≤ L) {Q : Option Value → Hp → Prop} (kx : ∀ (S' : St) (h2 : Hp), IV L xs S' h2 → am_n h2 ≤ am_n h + 2 → am_z h2 ≤ am_z h + 15 → WP kL_law (Res 7) Q 879 [some (.ref 0), some (.ref 1), some (.ref 10), some (.int (nI i))] [] h2) : WP kL_law (Res 7) Q 711 [some (.ref 0), some (.ref 1), some (.ref 10), some (.int (nI i))] [] h := by
  have hpos : 0 < am_n h := hI.2.1.pos
  refine wp_aload_n eL_law_711 rfl ?_
  refine wp_aload_n eL_law_712 rfl ?_
  refine wp_iload_n eL_law_713 rfl ?_
  refine wp_iconst (v := 1) eL_law_714 rfl ?_
  refine wp_iadd eL_law_715 ?_
  refine wp_top (y := nI (i + 1)) (nI_add (i) 1) ?_
  refine wp_sc (t := i + 1) eL_law_716 hI.2.2.2.2.2 hpos (by omega) hL ?_
  obtain ⟨v, S', h1, h2, r5, ⟨sc1, ob1, n1⟩, r6, hI2, hn2, hz2⟩ := op_tear hI (xs (i + 1))
  refine wp_virt (rv := (some (.int v))) (h' := h1) (r := []) eL_law_717 [.int (xs (i + 1))] rfl rfl rfl (show Ob h 1 5 from hI.2.1.1.ob) r5 ?_
  refine wp_aload_n eL_law_720 rfl ?_
  refine wp_aload_n eL_law_721 rfl ?_
  refine wp_iload_n eL_law_722 rfl ?_
  refine wp_iconst (v := 1) eL_law_723 rfl ?_
  refine wp_iadd eL_law_724 ?_
  refine wp_top (y := nI (i + 1)) (nI_add (i) 1) ?_
  refine wp_sc (t := i + 1) eL_law_725 sc1 n1 (by omega) hL ?_
  refine wp_virt (rv := (some (.int v))) (h' := h2) (r := [.int v]) eL_law_726 [.int (xs (i + 1))] rfl rfl rfl (show Ob h1 10 6 from ob1) r6 ?_
  refine wp_icmpT eL_law_729 (show v = v from rfl) ?_
  exact kx S' h2 hI2 hn2 hz2

set_option maxRecDepth 4000 in
theorem lL_mend {L : Nat} {xs : Nat → Int32} {S : St} {h : Hp} (hI : IV L xs S h) (hL : L ≤ 3584) (i : Nat) (hi : i + 7 ≤ L) {Q : Option Value → Hp → Prop} (kx : ∀ (S' : St) (h2 : Hp), IV L xs S' h2 → am_n h2 ≤ am_n h + 2 → am_z h2 ≤ am_z h + 15 → WP kL_law (Res 7) Q 879 [some (.ref 0), some (.ref 1), some (.ref 10), some (.int (nI i))] [] h2) : WP kL_law (Res 7) Q 734 [some (.ref 0), some (.ref 1), some (.ref 10), some (.int (nI i))] [] h := by
  have hpos : 0 < am_n h := hI.2.1.pos
  refine wp_aload_n eL_law_734 rfl ?_
  refine wp_aload_n eL_law_735 rfl ?_
  refine wp_iload_n eL_law_736 rfl ?_
  refine wp_iconst (v := 1) eL_law_737 rfl ?_
  refine wp_iadd eL_law_738 ?_
  refine wp_top (y := nI (i + 1)) (nI_add (i) 1) ?_
  refine wp_sc (t := i + 1) eL_law_739 hI.2.2.2.2.2 hpos (by omega) hL ?_
  obtain ⟨v, S', h1, h2, r5, ⟨sc1, ob1, n1⟩, r6, hI2, hn2, hz2⟩ := op_mend hI (xs (i + 1))
  refine wp_virt (rv := (some (.int v))) (h' := h1) (r := []) eL_law_740 [.int (xs (i + 1))] rfl rfl rfl (show Ob h 1 5 from hI.2.1.1.ob) r5 ?_
  refine wp_aload_n eL_law_743 rfl ?_
  refine wp_aload_n eL_law_744 rfl ?_
  refine wp_iload_n eL_law_745 rfl ?_
  refine wp_iconst (v := 1) eL_law_746 rfl ?_
  refine wp_iadd eL_law_747 ?_
  refine wp_top (y := nI (i + 1)) (nI_add (i) 1) ?_
  refine wp_sc (t := i + 1) eL_law_748 sc1 n1 (by omega) hL ?_
  refine wp_virt (rv := (some (.int v))) (h' := h2) (r := [.int v]) eL_law_749 [.int (xs (i + 1))] rfl rfl rfl (show Ob h1 10 6 from ob1) r6 ?_
  refine wp_icmpT eL_law_752 (show v = v from rfl) ?_
  exact kx S' h2 hI2 hn2 hz2

set_option maxRecDepth 4000 in
theorem lL_shelfOf {L : Nat} {xs : Nat → Int32} {S : St} {h : Hp} (hI : IV L xs S h) (hL : L ≤ 3584) (i : Nat) (hi : i + 7 ≤ L) {Q : Option Value → Hp → Prop} (kx : ∀ (S' : St) (h2 : Hp), IV L xs S' h2 → am_n h2 ≤ am_n h + 2 → am_z h2 ≤ am_z h + 15 → WP kL_law (Res 7) Q 879 [some (.ref 0), some (.ref 1), some (.ref 10), some (.int (nI i))] [] h2) : WP kL_law (Res 7) Q 757 [some (.ref 0), some (.ref 1), some (.ref 10), some (.int (nI i))] [] h := by
  have hpos : 0 < am_n h := hI.2.1.pos
  refine wp_aload_n eL_law_757 rfl ?_
  refine wp_aload_n eL_law_758 rfl ?_
  refine wp_iload_n eL_law_759 rfl ?_
  refine wp_iconst (v := 1) eL_law_760 rfl ?_
  refine wp_iadd eL_law_761 ?_
  refine wp_top (y := nI (i + 1)) (nI_add (i) 1) ?_
  refine wp_sc (t := i + 1) eL_law_762 hI.2.2.2.2.2 hpos (by omega) hL ?_
  refine wp_aload_n eL_law_763 rfl ?_
  refine wp_iload_n eL_law_764 rfl ?_
  refine wp_iconst (v := 2) eL_law_765 rfl ?_
  refine wp_iadd eL_law_766 ?_
  refine wp_top (y := nI (i + 2)) (nI_add (i) 2) ?_
  refine wp_sc (t := i + 2) eL_law_767 hI.2.2.2.2.2 hpos (by omega) hL ?_
  obtain ⟨v, S', h1, h2, r5, ⟨sc1, ob1, n1⟩, r6, hI2, hn2, hz2⟩ := op_shelfOf hI (xs (i + 1)) (xs (i + 2))
  refine wp_virt (rv := (some (.int v))) (h' := h1) (r := []) eL_law_768 [.int (xs (i + 1)), .int (xs (i + 2))] rfl rfl rfl (show Ob h 1 5 from hI.2.1.1.ob) r5 ?_
  refine wp_aload_n eL_law_771 rfl ?_
  refine wp_aload_n eL_law_772 rfl ?_
  refine wp_iload_n eL_law_773 rfl ?_
  refine wp_iconst (v := 1) eL_law_774 rfl ?_
  refine wp_iadd eL_law_775 ?_
  refine wp_top (y := nI (i + 1)) (nI_add (i) 1) ?_
  refine wp_sc (t := i + 1) eL_law_776 sc1 n1 (by omega) hL ?_
  refine wp_aload_n eL_law_777 rfl ?_
  refine wp_iload_n eL_law_778 rfl ?_
  refine wp_iconst (v := 2) eL_law_779 rfl ?_
  refine wp_iadd eL_law_780 ?_
  refine wp_top (y := nI (i + 2)) (nI_add (i) 2) ?_
  refine wp_sc (t := i + 2) eL_law_781 sc1 n1 (by omega) hL ?_
  refine wp_virt (rv := (some (.int v))) (h' := h2) (r := [.int v]) eL_law_782 [.int (xs (i + 1)), .int (xs (i + 2))] rfl rfl rfl (show Ob h1 10 6 from ob1) r6 ?_
  refine wp_icmpT eL_law_785 (show v = v from rfl) ?_
  exact kx S' h2 hI2 hn2 hz2

set_option maxRecDepth 4000 in
theorem lL_thing {L : Nat} {xs : Nat → Int32} {S : St} {h : Hp} (hI : IV L xs S h) (hL : L ≤ 3584) (i : Nat) (hi : i + 7 ≤ L) {Q : Option Value → Hp → Prop} (kx : ∀ (S' : St) (h2 : Hp), IV L xs S' h2 → am_n h2 ≤ am_n h + 2 → am_z h2 ≤ am_z h + 15 → WP kL_law (Res 7) Q 879 [some (.ref 0), some (.ref 1), some (.ref 10), some (.int (nI i))] [] h2) : WP kL_law (Res 7) Q 790 [some (.ref 0), some (.ref 1), some (.ref 10), some (.int (nI i))] [] h := by
  have hpos : 0 < am_n h := hI.2.1.pos
  refine wp_aload_n eL_law_790 rfl ?_
  refine wp_aload_n eL_law_791 rfl ?_
  refine wp_iload_n eL_law_792 rfl ?_
  refine wp_iconst (v := 1) eL_law_793 rfl ?_
  refine wp_iadd eL_law_794 ?_
  refine wp_top (y := nI (i + 1)) (nI_add (i) 1) ?_
  refine wp_sc (t := i + 1) eL_law_795 hI.2.2.2.2.2 hpos (by omega) hL ?_
  refine wp_aload_n eL_law_796 rfl ?_
  refine wp_iload_n eL_law_797 rfl ?_
  refine wp_iconst (v := 2) eL_law_798 rfl ?_
  refine wp_iadd eL_law_799 ?_
  refine wp_top (y := nI (i + 2)) (nI_add (i) 2) ?_
  refine wp_sc (t := i + 2) eL_law_800 hI.2.2.2.2.2 hpos (by omega) hL ?_
  obtain ⟨v, S', h1, h2, r5, ⟨sc1, ob1, n1⟩, r6, hI2, hn2, hz2⟩ := op_thing hI (xs (i + 1)) (xs (i + 2))
  refine wp_virt (rv := (some (.int v))) (h' := h1) (r := []) eL_law_801 [.int (xs (i + 1)), .int (xs (i + 2))] rfl rfl rfl (show Ob h 1 5 from hI.2.1.1.ob) r5 ?_
  refine wp_aload_n eL_law_804 rfl ?_
  refine wp_aload_n eL_law_805 rfl ?_
  refine wp_iload_n eL_law_806 rfl ?_
  refine wp_iconst (v := 1) eL_law_807 rfl ?_
  refine wp_iadd eL_law_808 ?_
  refine wp_top (y := nI (i + 1)) (nI_add (i) 1) ?_
  refine wp_sc (t := i + 1) eL_law_809 sc1 n1 (by omega) hL ?_
  refine wp_aload_n eL_law_810 rfl ?_
  refine wp_iload_n eL_law_811 rfl ?_
  refine wp_iconst (v := 2) eL_law_812 rfl ?_
  refine wp_iadd eL_law_813 ?_
  refine wp_top (y := nI (i + 2)) (nI_add (i) 2) ?_
  refine wp_sc (t := i + 2) eL_law_814 sc1 n1 (by omega) hL ?_
  refine wp_virt (rv := (some (.int v))) (h' := h2) (r := [.int v]) eL_law_815 [.int (xs (i + 1)), .int (xs (i + 2))] rfl rfl rfl (show Ob h1 10 6 from ob1) r6 ?_
  refine wp_icmpT eL_law_818 (show v = v from rfl) ?_
  exact kx S' h2 hI2 hn2 hz2

set_option maxRecDepth 4000 in
theorem lL_claimOf {L : Nat} {xs : Nat → Int32} {S : St} {h : Hp} (hI : IV L xs S h) (hL : L ≤ 3584) (i : Nat) (hi : i + 7 ≤ L) {Q : Option Value → Hp → Prop} (kx : ∀ (S' : St) (h2 : Hp), IV L xs S' h2 → am_n h2 ≤ am_n h + 2 → am_z h2 ≤ am_z h + 15 → WP kL_law (Res 7) Q 879 [some (.ref 0), some (.ref 1), some (.ref 10), some (.int (nI i))] [] h2) : WP kL_law (Res 7) Q 823 [some (.ref 0), some (.ref 1), some (.ref 10), some (.int (nI i))] [] h := by
  have hpos : 0 < am_n h := hI.2.1.pos
  refine wp_aload_n eL_law_823 rfl ?_
  refine wp_aload_n eL_law_824 rfl ?_
  refine wp_iload_n eL_law_825 rfl ?_
  refine wp_iconst (v := 1) eL_law_826 rfl ?_
  refine wp_iadd eL_law_827 ?_
  refine wp_top (y := nI (i + 1)) (nI_add (i) 1) ?_
  refine wp_sc (t := i + 1) eL_law_828 hI.2.2.2.2.2 hpos (by omega) hL ?_
  refine wp_aload_n eL_law_829 rfl ?_
  refine wp_iload_n eL_law_830 rfl ?_
  refine wp_iconst (v := 2) eL_law_831 rfl ?_
  refine wp_iadd eL_law_832 ?_
  refine wp_top (y := nI (i + 2)) (nI_add (i) 2) ?_
  refine wp_sc (t := i + 2) eL_law_833 hI.2.2.2.2.2 hpos (by omega) hL ?_
  obtain ⟨v, S', h1, h2, r5, ⟨sc1, ob1, n1⟩, r6, hI2, hn2, hz2⟩ := op_claimOf hI (xs (i + 1)) (xs (i + 2))
  refine wp_virt (rv := (some (.int v))) (h' := h1) (r := []) eL_law_834 [.int (xs (i + 1)), .int (xs (i + 2))] rfl rfl rfl (show Ob h 1 5 from hI.2.1.1.ob) r5 ?_
  refine wp_aload_n eL_law_837 rfl ?_
  refine wp_aload_n eL_law_838 rfl ?_
  refine wp_iload_n eL_law_839 rfl ?_
  refine wp_iconst (v := 1) eL_law_840 rfl ?_
  refine wp_iadd eL_law_841 ?_
  refine wp_top (y := nI (i + 1)) (nI_add (i) 1) ?_
  refine wp_sc (t := i + 1) eL_law_842 sc1 n1 (by omega) hL ?_
  refine wp_aload_n eL_law_843 rfl ?_
  refine wp_iload_n eL_law_844 rfl ?_
  refine wp_iconst (v := 2) eL_law_845 rfl ?_
  refine wp_iadd eL_law_846 ?_
  refine wp_top (y := nI (i + 2)) (nI_add (i) 2) ?_
  refine wp_sc (t := i + 2) eL_law_847 sc1 n1 (by omega) hL ?_
  refine wp_virt (rv := (some (.int v))) (h' := h2) (r := [.int v]) eL_law_848 [.int (xs (i + 1)), .int (xs (i + 2))] rfl rfl rfl (show Ob h1 10 6 from ob1) r6 ?_
  refine wp_icmpT eL_law_851 (show v = v from rfl) ?_
  exact kx S' h2 hI2 hn2 hz2

set_option maxRecDepth 4000 in
theorem lL_count {L : Nat} {xs : Nat → Int32} {S : St} {h : Hp} (hI : IV L xs S h) (hL : L ≤ 3584) (i : Nat) (hi : i + 7 ≤ L) {Q : Option Value → Hp → Prop} (kx : ∀ (S' : St) (h2 : Hp), IV L xs S' h2 → am_n h2 ≤ am_n h + 2 → am_z h2 ≤ am_z h + 15 → WP kL_law (Res 7) Q 879 [some (.ref 0), some (.ref 1), some (.ref 10), some (.int (nI i))] [] h2) : WP kL_law (Res 7) Q 856 [some (.ref 0), some (.ref 1), some (.ref 10), some (.int (nI i))] [] h := by
  have hpos : 0 < am_n h := hI.2.1.pos
  refine wp_aload_n eL_law_856 rfl ?_
  refine wp_aload_n eL_law_857 rfl ?_
  refine wp_iload_n eL_law_858 rfl ?_
  refine wp_iconst (v := 1) eL_law_859 rfl ?_
  refine wp_iadd eL_law_860 ?_
  refine wp_top (y := nI (i + 1)) (nI_add (i) 1) ?_
  refine wp_sc (t := i + 1) eL_law_861 hI.2.2.2.2.2 hpos (by omega) hL ?_
  obtain ⟨v, S', h1, h2, r5, ⟨sc1, ob1, n1⟩, r6, hI2, hn2, hz2⟩ := op_count hI (xs (i + 1))
  refine wp_virt (rv := (some (.int v))) (h' := h1) (r := []) eL_law_862 [.int (xs (i + 1))] rfl rfl rfl (show Ob h 1 5 from hI.2.1.1.ob) r5 ?_
  refine wp_aload_n eL_law_865 rfl ?_
  refine wp_aload_n eL_law_866 rfl ?_
  refine wp_iload_n eL_law_867 rfl ?_
  refine wp_iconst (v := 1) eL_law_868 rfl ?_
  refine wp_iadd eL_law_869 ?_
  refine wp_top (y := nI (i + 1)) (nI_add (i) 1) ?_
  refine wp_sc (t := i + 1) eL_law_870 sc1 n1 (by omega) hL ?_
  refine wp_virt (rv := (some (.int v))) (h' := h2) (r := [.int v]) eL_law_871 [.int (xs (i + 1))] rfl rfl rfl (show Ob h1 10 6 from ob1) r6 ?_
  refine wp_icmpT eL_law_874 (show v = v from rfl) ?_
  exact kx S' h2 hI2 hn2 hz2

