set_option maxRecDepth 10000 in
theorem eL_law_0 : (0, Instr.new 7, 3, 5, 0, 46) ∈ kL_law := List.mem_of_getElem? (i := 0) (by decide +kernel)
set_option maxRecDepth 10000 in
theorem eL_law_3 : (3, Instr.dup, 1, 0, 0, 0) ∈ kL_law := List.mem_of_getElem? (i := 1) (by decide +kernel)
set_option maxRecDepth 10000 in
theorem eL_law_4 : (4, Instr.invokespecial 9, 3, 25, 0, 48) ∈ kL_law := List.mem_of_getElem? (i := 2) (by decide +kernel)
set_option maxRecDepth 10000 in
theorem eL_law_7 : (7, Instr.astore_n 1, 1, 0, 0, 0) ∈ kL_law := List.mem_of_getElem? (i := 3) (by decide +kernel)
set_option maxRecDepth 10000 in
theorem eL_law_8 : (8, Instr.new 10, 3, 6, 0, 563) ∈ kL_law := List.mem_of_getElem? (i := 4) (by decide +kernel)
set_option maxRecDepth 10000 in
theorem eL_law_11 : (11, Instr.dup, 1, 0, 0, 0) ∈ kL_law := List.mem_of_getElem? (i := 5) (by decide +kernel)
set_option maxRecDepth 10000 in
theorem eL_law_12 : (12, Instr.invokespecial 12, 3, 77, 0, 565) ∈ kL_law := List.mem_of_getElem? (i := 6) (by decide +kernel)
set_option maxRecDepth 10000 in
theorem eL_law_15 : (15, Instr.astore_n 2, 1, 0, 0, 0) ∈ kL_law := List.mem_of_getElem? (i := 7) (by decide +kernel)
set_option maxRecDepth 10000 in
theorem eL_law_16 : (16, Instr.iconst 0, 1, 0, 0, 0) ∈ kL_law := List.mem_of_getElem? (i := 8) (by decide +kernel)
set_option maxRecDepth 10000 in
theorem eL_law_17 : (17, Instr.istore_n 3, 1, 0, 0, 0) ∈ kL_law := List.mem_of_getElem? (i := 9) (by decide +kernel)
set_option maxRecDepth 10000 in
theorem eL_law_18 : (18, Instr.iload_n 3, 1, 0, 0, 0) ∈ kL_law := List.mem_of_getElem? (i := 10) (by decide +kernel)
set_option maxRecDepth 10000 in
theorem eL_law_19 : (19, Instr.aload_n 0, 1, 0, 0, 0) ∈ kL_law := List.mem_of_getElem? (i := 11) (by decide +kernel)
set_option maxRecDepth 10000 in
theorem eL_law_20 : (20, Instr.arraylength, 1, 0, 0, 0) ∈ kL_law := List.mem_of_getElem? (i := 12) (by decide +kernel)
set_option maxRecDepth 10000 in
theorem eL_law_21 : (21, Instr.bipush 7, 2, 0, 0, 0) ∈ kL_law := List.mem_of_getElem? (i := 13) (by decide +kernel)
set_option maxRecDepth 10000 in
theorem eL_law_23 : (23, Instr.isub, 1, 0, 0, 0) ∈ kL_law := List.mem_of_getElem? (i := 14) (by decide +kernel)
set_option maxRecDepth 10000 in
theorem eL_law_24 : (24, Instr.if_icmp .gt 861, 3, 885, 0, 0) ∈ kL_law := List.mem_of_getElem? (i := 15) (by decide +kernel)
set_option maxRecDepth 10000 in
theorem eL_law_27 : (27, Instr.aload_n 0, 1, 0, 0, 0) ∈ kL_law := List.mem_of_getElem? (i := 16) (by decide +kernel)
set_option maxRecDepth 10000 in
theorem eL_law_28 : (28, Instr.iload_n 3, 1, 0, 0, 0) ∈ kL_law := List.mem_of_getElem? (i := 17) (by decide +kernel)
set_option maxRecDepth 10000 in
theorem eL_law_29 : (29, Instr.iaload, 1, 0, 0, 0) ∈ kL_law := List.mem_of_getElem? (i := 18) (by decide +kernel)
set_option maxRecDepth 10000 in
theorem eL_law_30 : (30, Instr.bipush 31, 2, 0, 0, 0) ∈ kL_law := List.mem_of_getElem? (i := 19) (by decide +kernel)
set_option maxRecDepth 10000 in
theorem eL_law_32 : (32, Instr.iand, 1, 0, 0, 0) ∈ kL_law := List.mem_of_getElem? (i := 20) (by decide +kernel)
set_option maxRecDepth 10000 in
theorem eL_law_33 : (33, Instr.tableswitch 846 0 22 #[107, 130, 163, 226, 295, 402, 425, 448, 461, 504, 527, 550, 573, 586, 609, 622, 655, 678, 701, 724, 757, 790, 823], 107, 0, 0, 0) ∈ kL_law := List.mem_of_getElem? (i := 21) (by decide +kernel)
set_option maxRecDepth 10000 in
theorem eL_law_140 : (140, Instr.aload_n 1, 1, 0, 0, 0) ∈ kL_law := List.mem_of_getElem? (i := 22) (by decide +kernel)
set_option maxRecDepth 10000 in
theorem eL_law_141 : (141, Instr.aload_n 0, 1, 0, 0, 0) ∈ kL_law := List.mem_of_getElem? (i := 23) (by decide +kernel)
set_option maxRecDepth 10000 in
theorem eL_law_142 : (142, Instr.iload_n 3, 1, 0, 0, 0) ∈ kL_law := List.mem_of_getElem? (i := 24) (by decide +kernel)
set_option maxRecDepth 10000 in
theorem eL_law_143 : (143, Instr.iconst 1, 1, 0, 0, 0) ∈ kL_law := List.mem_of_getElem? (i := 25) (by decide +kernel)
set_option maxRecDepth 10000 in
theorem eL_law_144 : (144, Instr.iadd, 1, 0, 0, 0) ∈ kL_law := List.mem_of_getElem? (i := 26) (by decide +kernel)
set_option maxRecDepth 10000 in
theorem eL_law_145 : (145, Instr.iaload, 1, 0, 0, 0) ∈ kL_law := List.mem_of_getElem? (i := 27) (by decide +kernel)
set_option maxRecDepth 10000 in
theorem eL_law_146 : (146, Instr.invokevirtual 13, 3, 26, 1, 126) ∈ kL_law := List.mem_of_getElem? (i := 28) (by decide +kernel)
set_option maxRecDepth 10000 in
theorem eL_law_149 : (149, Instr.aload_n 2, 1, 0, 0, 0) ∈ kL_law := List.mem_of_getElem? (i := 29) (by decide +kernel)
set_option maxRecDepth 10000 in
theorem eL_law_150 : (150, Instr.aload_n 0, 1, 0, 0, 0) ∈ kL_law := List.mem_of_getElem? (i := 30) (by decide +kernel)
set_option maxRecDepth 10000 in
theorem eL_law_151 : (151, Instr.iload_n 3, 1, 0, 0, 0) ∈ kL_law := List.mem_of_getElem? (i := 31) (by decide +kernel)
set_option maxRecDepth 10000 in
theorem eL_law_152 : (152, Instr.iconst 1, 1, 0, 0, 0) ∈ kL_law := List.mem_of_getElem? (i := 32) (by decide +kernel)
set_option maxRecDepth 10000 in
theorem eL_law_153 : (153, Instr.iadd, 1, 0, 0, 0) ∈ kL_law := List.mem_of_getElem? (i := 33) (by decide +kernel)
set_option maxRecDepth 10000 in
theorem eL_law_154 : (154, Instr.iaload, 1, 0, 0, 0) ∈ kL_law := List.mem_of_getElem? (i := 34) (by decide +kernel)
set_option maxRecDepth 10000 in
theorem eL_law_155 : (155, Instr.invokevirtual 17, 3, 82, 1, 686) ∈ kL_law := List.mem_of_getElem? (i := 35) (by decide +kernel)
set_option maxRecDepth 10000 in
theorem eL_law_158 : (158, Instr.if_icmp .eq 721, 3, 879, 0, 0) ∈ kL_law := List.mem_of_getElem? (i := 36) (by decide +kernel)
set_option maxRecDepth 10000 in
theorem eL_law_161 : (161, Instr.iconst 0, 1, 0, 0, 0) ∈ kL_law := List.mem_of_getElem? (i := 37) (by decide +kernel)
set_option maxRecDepth 10000 in
theorem eL_law_162 : (162, Instr.ireturn, 1, 1, 0, 0) ∈ kL_law := List.mem_of_getElem? (i := 38) (by decide +kernel)
set_option maxRecDepth 10000 in
theorem eL_law_163 : (163, Instr.aload_n 1, 1, 0, 0, 0) ∈ kL_law := List.mem_of_getElem? (i := 39) (by decide +kernel)
set_option maxRecDepth 10000 in
theorem eL_law_164 : (164, Instr.aload_n 0, 1, 0, 0, 0) ∈ kL_law := List.mem_of_getElem? (i := 40) (by decide +kernel)
set_option maxRecDepth 10000 in
theorem eL_law_165 : (165, Instr.iload_n 3, 1, 0, 0, 0) ∈ kL_law := List.mem_of_getElem? (i := 41) (by decide +kernel)
set_option maxRecDepth 10000 in
theorem eL_law_166 : (166, Instr.iconst 1, 1, 0, 0, 0) ∈ kL_law := List.mem_of_getElem? (i := 42) (by decide +kernel)
set_option maxRecDepth 10000 in
theorem eL_law_167 : (167, Instr.iadd, 1, 0, 0, 0) ∈ kL_law := List.mem_of_getElem? (i := 43) (by decide +kernel)
set_option maxRecDepth 10000 in
theorem eL_law_168 : (168, Instr.iaload, 1, 0, 0, 0) ∈ kL_law := List.mem_of_getElem? (i := 44) (by decide +kernel)
set_option maxRecDepth 10000 in
theorem eL_law_169 : (169, Instr.aload_n 0, 1, 0, 0, 0) ∈ kL_law := List.mem_of_getElem? (i := 45) (by decide +kernel)
set_option maxRecDepth 10000 in
theorem eL_law_170 : (170, Instr.iload_n 3, 1, 0, 0, 0) ∈ kL_law := List.mem_of_getElem? (i := 46) (by decide +kernel)
set_option maxRecDepth 10000 in
theorem eL_law_171 : (171, Instr.iconst 2, 1, 0, 0, 0) ∈ kL_law := List.mem_of_getElem? (i := 47) (by decide +kernel)
set_option maxRecDepth 10000 in
theorem eL_law_172 : (172, Instr.iadd, 1, 0, 0, 0) ∈ kL_law := List.mem_of_getElem? (i := 48) (by decide +kernel)
set_option maxRecDepth 10000 in
theorem eL_law_173 : (173, Instr.iaload, 1, 0, 0, 0) ∈ kL_law := List.mem_of_getElem? (i := 49) (by decide +kernel)
set_option maxRecDepth 10000 in
theorem eL_law_174 : (174, Instr.invokevirtual 18, 3, 27, 2, 142) ∈ kL_law := List.mem_of_getElem? (i := 50) (by decide +kernel)
set_option maxRecDepth 10000 in
theorem eL_law_177 : (177, Instr.aload_n 2, 1, 0, 0, 0) ∈ kL_law := List.mem_of_getElem? (i := 51) (by decide +kernel)
set_option maxRecDepth 10000 in
theorem eL_law_178 : (178, Instr.aload_n 0, 1, 0, 0, 0) ∈ kL_law := List.mem_of_getElem? (i := 52) (by decide +kernel)
set_option maxRecDepth 10000 in
theorem eL_law_179 : (179, Instr.iload_n 3, 1, 0, 0, 0) ∈ kL_law := List.mem_of_getElem? (i := 53) (by decide +kernel)
set_option maxRecDepth 10000 in
theorem eL_law_180 : (180, Instr.iconst 1, 1, 0, 0, 0) ∈ kL_law := List.mem_of_getElem? (i := 54) (by decide +kernel)
set_option maxRecDepth 10000 in
theorem eL_law_181 : (181, Instr.iadd, 1, 0, 0, 0) ∈ kL_law := List.mem_of_getElem? (i := 55) (by decide +kernel)
set_option maxRecDepth 10000 in
theorem eL_law_182 : (182, Instr.iaload, 1, 0, 0, 0) ∈ kL_law := List.mem_of_getElem? (i := 56) (by decide +kernel)
set_option maxRecDepth 10000 in
theorem eL_law_183 : (183, Instr.aload_n 0, 1, 0, 0, 0) ∈ kL_law := List.mem_of_getElem? (i := 57) (by decide +kernel)
set_option maxRecDepth 10000 in
theorem eL_law_184 : (184, Instr.iload_n 3, 1, 0, 0, 0) ∈ kL_law := List.mem_of_getElem? (i := 58) (by decide +kernel)
set_option maxRecDepth 10000 in
theorem eL_law_185 : (185, Instr.iconst 2, 1, 0, 0, 0) ∈ kL_law := List.mem_of_getElem? (i := 59) (by decide +kernel)
set_option maxRecDepth 10000 in
theorem eL_law_186 : (186, Instr.iadd, 1, 0, 0, 0) ∈ kL_law := List.mem_of_getElem? (i := 60) (by decide +kernel)
set_option maxRecDepth 10000 in
theorem eL_law_187 : (187, Instr.iaload, 1, 0, 0, 0) ∈ kL_law := List.mem_of_getElem? (i := 61) (by decide +kernel)
set_option maxRecDepth 10000 in
theorem eL_law_188 : (188, Instr.invokevirtual 22, 3, 81, 2, 679) ∈ kL_law := List.mem_of_getElem? (i := 62) (by decide +kernel)
set_option maxRecDepth 10000 in
theorem eL_law_191 : (191, Instr.if_icmp .eq 688, 3, 879, 0, 0) ∈ kL_law := List.mem_of_getElem? (i := 63) (by decide +kernel)
set_option maxRecDepth 10000 in
theorem eL_law_194 : (194, Instr.iconst 0, 1, 0, 0, 0) ∈ kL_law := List.mem_of_getElem? (i := 64) (by decide +kernel)
set_option maxRecDepth 10000 in
theorem eL_law_195 : (195, Instr.ireturn, 1, 1, 0, 0) ∈ kL_law := List.mem_of_getElem? (i := 65) (by decide +kernel)
set_option maxRecDepth 10000 in
theorem eL_law_196 : (196, Instr.aload_n 1, 1, 0, 0, 0) ∈ kL_law := List.mem_of_getElem? (i := 66) (by decide +kernel)
set_option maxRecDepth 10000 in
theorem eL_law_197 : (197, Instr.aload_n 0, 1, 0, 0, 0) ∈ kL_law := List.mem_of_getElem? (i := 67) (by decide +kernel)
set_option maxRecDepth 10000 in
theorem eL_law_198 : (198, Instr.iload_n 3, 1, 0, 0, 0) ∈ kL_law := List.mem_of_getElem? (i := 68) (by decide +kernel)
set_option maxRecDepth 10000 in
theorem eL_law_199 : (199, Instr.iconst 1, 1, 0, 0, 0) ∈ kL_law := List.mem_of_getElem? (i := 69) (by decide +kernel)
set_option maxRecDepth 10000 in
theorem eL_law_200 : (200, Instr.iadd, 1, 0, 0, 0) ∈ kL_law := List.mem_of_getElem? (i := 70) (by decide +kernel)
set_option maxRecDepth 10000 in
theorem eL_law_201 : (201, Instr.iaload, 1, 0, 0, 0) ∈ kL_law := List.mem_of_getElem? (i := 71) (by decide +kernel)
set_option maxRecDepth 10000 in
theorem eL_law_202 : (202, Instr.aload_n 0, 1, 0, 0, 0) ∈ kL_law := List.mem_of_getElem? (i := 72) (by decide +kernel)
set_option maxRecDepth 10000 in
theorem eL_law_203 : (203, Instr.iload_n 3, 1, 0, 0, 0) ∈ kL_law := List.mem_of_getElem? (i := 73) (by decide +kernel)
set_option maxRecDepth 10000 in
theorem eL_law_204 : (204, Instr.iconst 2, 1, 0, 0, 0) ∈ kL_law := List.mem_of_getElem? (i := 74) (by decide +kernel)
set_option maxRecDepth 10000 in
theorem eL_law_205 : (205, Instr.iadd, 1, 0, 0, 0) ∈ kL_law := List.mem_of_getElem? (i := 75) (by decide +kernel)
set_option maxRecDepth 10000 in
theorem eL_law_206 : (206, Instr.iaload, 1, 0, 0, 0) ∈ kL_law := List.mem_of_getElem? (i := 76) (by decide +kernel)
set_option maxRecDepth 10000 in
theorem eL_law_207 : (207, Instr.aload_n 0, 1, 0, 0, 0) ∈ kL_law := List.mem_of_getElem? (i := 77) (by decide +kernel)
set_option maxRecDepth 10000 in
theorem eL_law_208 : (208, Instr.iload_n 3, 1, 0, 0, 0) ∈ kL_law := List.mem_of_getElem? (i := 78) (by decide +kernel)
set_option maxRecDepth 10000 in
theorem eL_law_209 : (209, Instr.iconst 3, 1, 0, 0, 0) ∈ kL_law := List.mem_of_getElem? (i := 79) (by decide +kernel)
set_option maxRecDepth 10000 in
theorem eL_law_210 : (210, Instr.iadd, 1, 0, 0, 0) ∈ kL_law := List.mem_of_getElem? (i := 80) (by decide +kernel)
set_option maxRecDepth 10000 in
theorem eL_law_211 : (211, Instr.iaload, 1, 0, 0, 0) ∈ kL_law := List.mem_of_getElem? (i := 81) (by decide +kernel)
set_option maxRecDepth 10000 in
theorem eL_law_212 : (212, Instr.aload_n 0, 1, 0, 0, 0) ∈ kL_law := List.mem_of_getElem? (i := 82) (by decide +kernel)
set_option maxRecDepth 10000 in
theorem eL_law_213 : (213, Instr.iload_n 3, 1, 0, 0, 0) ∈ kL_law := List.mem_of_getElem? (i := 83) (by decide +kernel)
set_option maxRecDepth 10000 in
theorem eL_law_214 : (214, Instr.iconst 4, 1, 0, 0, 0) ∈ kL_law := List.mem_of_getElem? (i := 84) (by decide +kernel)
set_option maxRecDepth 10000 in
theorem eL_law_215 : (215, Instr.iadd, 1, 0, 0, 0) ∈ kL_law := List.mem_of_getElem? (i := 85) (by decide +kernel)
set_option maxRecDepth 10000 in
theorem eL_law_216 : (216, Instr.iaload, 1, 0, 0, 0) ∈ kL_law := List.mem_of_getElem? (i := 86) (by decide +kernel)
set_option maxRecDepth 10000 in
theorem eL_law_217 : (217, Instr.aload_n 0, 1, 0, 0, 0) ∈ kL_law := List.mem_of_getElem? (i := 87) (by decide +kernel)
set_option maxRecDepth 10000 in
theorem eL_law_218 : (218, Instr.iload_n 3, 1, 0, 0, 0) ∈ kL_law := List.mem_of_getElem? (i := 88) (by decide +kernel)
set_option maxRecDepth 10000 in
theorem eL_law_219 : (219, Instr.iconst 5, 1, 0, 0, 0) ∈ kL_law := List.mem_of_getElem? (i := 89) (by decide +kernel)
set_option maxRecDepth 10000 in
theorem eL_law_220 : (220, Instr.iadd, 1, 0, 0, 0) ∈ kL_law := List.mem_of_getElem? (i := 90) (by decide +kernel)
set_option maxRecDepth 10000 in
theorem eL_law_221 : (221, Instr.iaload, 1, 0, 0, 0) ∈ kL_law := List.mem_of_getElem? (i := 91) (by decide +kernel)
set_option maxRecDepth 10000 in
theorem eL_law_222 : (222, Instr.invokevirtual 23, 3, 28, 5, 146) ∈ kL_law := List.mem_of_getElem? (i := 92) (by decide +kernel)
set_option maxRecDepth 10000 in
theorem eL_law_225 : (225, Instr.aload_n 2, 1, 0, 0, 0) ∈ kL_law := List.mem_of_getElem? (i := 93) (by decide +kernel)
set_option maxRecDepth 10000 in
theorem eL_law_226 : (226, Instr.aload_n 0, 1, 0, 0, 0) ∈ kL_law := List.mem_of_getElem? (i := 94) (by decide +kernel)
set_option maxRecDepth 10000 in
theorem eL_law_227 : (227, Instr.iload_n 3, 1, 0, 0, 0) ∈ kL_law := List.mem_of_getElem? (i := 95) (by decide +kernel)
set_option maxRecDepth 10000 in
theorem eL_law_228 : (228, Instr.iconst 1, 1, 0, 0, 0) ∈ kL_law := List.mem_of_getElem? (i := 96) (by decide +kernel)
set_option maxRecDepth 10000 in
theorem eL_law_229 : (229, Instr.iadd, 1, 0, 0, 0) ∈ kL_law := List.mem_of_getElem? (i := 97) (by decide +kernel)
set_option maxRecDepth 10000 in
theorem eL_law_230 : (230, Instr.iaload, 1, 0, 0, 0) ∈ kL_law := List.mem_of_getElem? (i := 98) (by decide +kernel)
set_option maxRecDepth 10000 in
theorem eL_law_231 : (231, Instr.aload_n 0, 1, 0, 0, 0) ∈ kL_law := List.mem_of_getElem? (i := 99) (by decide +kernel)
set_option maxRecDepth 10000 in
theorem eL_law_232 : (232, Instr.iload_n 3, 1, 0, 0, 0) ∈ kL_law := List.mem_of_getElem? (i := 100) (by decide +kernel)
set_option maxRecDepth 10000 in
theorem eL_law_233 : (233, Instr.iconst 2, 1, 0, 0, 0) ∈ kL_law := List.mem_of_getElem? (i := 101) (by decide +kernel)
set_option maxRecDepth 10000 in
theorem eL_law_234 : (234, Instr.iadd, 1, 0, 0, 0) ∈ kL_law := List.mem_of_getElem? (i := 102) (by decide +kernel)
set_option maxRecDepth 10000 in
theorem eL_law_235 : (235, Instr.iaload, 1, 0, 0, 0) ∈ kL_law := List.mem_of_getElem? (i := 103) (by decide +kernel)
set_option maxRecDepth 10000 in
theorem eL_law_236 : (236, Instr.aload_n 0, 1, 0, 0, 0) ∈ kL_law := List.mem_of_getElem? (i := 104) (by decide +kernel)
set_option maxRecDepth 10000 in
theorem eL_law_237 : (237, Instr.iload_n 3, 1, 0, 0, 0) ∈ kL_law := List.mem_of_getElem? (i := 105) (by decide +kernel)
set_option maxRecDepth 10000 in
theorem eL_law_238 : (238, Instr.iconst 3, 1, 0, 0, 0) ∈ kL_law := List.mem_of_getElem? (i := 106) (by decide +kernel)
set_option maxRecDepth 10000 in
theorem eL_law_239 : (239, Instr.iadd, 1, 0, 0, 0) ∈ kL_law := List.mem_of_getElem? (i := 107) (by decide +kernel)
set_option maxRecDepth 10000 in
theorem eL_law_240 : (240, Instr.iaload, 1, 0, 0, 0) ∈ kL_law := List.mem_of_getElem? (i := 108) (by decide +kernel)
set_option maxRecDepth 10000 in
theorem eL_law_241 : (241, Instr.aload_n 0, 1, 0, 0, 0) ∈ kL_law := List.mem_of_getElem? (i := 109) (by decide +kernel)
set_option maxRecDepth 10000 in
theorem eL_law_242 : (242, Instr.iload_n 3, 1, 0, 0, 0) ∈ kL_law := List.mem_of_getElem? (i := 110) (by decide +kernel)
set_option maxRecDepth 10000 in
theorem eL_law_243 : (243, Instr.iconst 4, 1, 0, 0, 0) ∈ kL_law := List.mem_of_getElem? (i := 111) (by decide +kernel)
set_option maxRecDepth 10000 in
theorem eL_law_244 : (244, Instr.iadd, 1, 0, 0, 0) ∈ kL_law := List.mem_of_getElem? (i := 112) (by decide +kernel)
set_option maxRecDepth 10000 in
theorem eL_law_245 : (245, Instr.iaload, 1, 0, 0, 0) ∈ kL_law := List.mem_of_getElem? (i := 113) (by decide +kernel)
set_option maxRecDepth 10000 in
theorem eL_law_246 : (246, Instr.aload_n 0, 1, 0, 0, 0) ∈ kL_law := List.mem_of_getElem? (i := 114) (by decide +kernel)
set_option maxRecDepth 10000 in
theorem eL_law_247 : (247, Instr.iload_n 3, 1, 0, 0, 0) ∈ kL_law := List.mem_of_getElem? (i := 115) (by decide +kernel)
set_option maxRecDepth 10000 in
theorem eL_law_248 : (248, Instr.iconst 5, 1, 0, 0, 0) ∈ kL_law := List.mem_of_getElem? (i := 116) (by decide +kernel)
set_option maxRecDepth 10000 in
theorem eL_law_249 : (249, Instr.iadd, 1, 0, 0, 0) ∈ kL_law := List.mem_of_getElem? (i := 117) (by decide +kernel)
set_option maxRecDepth 10000 in
theorem eL_law_250 : (250, Instr.iaload, 1, 0, 0, 0) ∈ kL_law := List.mem_of_getElem? (i := 118) (by decide +kernel)
set_option maxRecDepth 10000 in
theorem eL_law_251 : (251, Instr.invokevirtual 27, 3, 83, 5, 691) ∈ kL_law := List.mem_of_getElem? (i := 119) (by decide +kernel)
set_option maxRecDepth 10000 in
theorem eL_law_254 : (254, Instr.if_icmp .eq 625, 3, 879, 0, 0) ∈ kL_law := List.mem_of_getElem? (i := 120) (by decide +kernel)
set_option maxRecDepth 10000 in
theorem eL_law_257 : (257, Instr.iconst 0, 1, 0, 0, 0) ∈ kL_law := List.mem_of_getElem? (i := 121) (by decide +kernel)
set_option maxRecDepth 10000 in
theorem eL_law_258 : (258, Instr.ireturn, 1, 1, 0, 0) ∈ kL_law := List.mem_of_getElem? (i := 122) (by decide +kernel)
set_option maxRecDepth 10000 in
theorem eL_law_259 : (259, Instr.aload_n 1, 1, 0, 0, 0) ∈ kL_law := List.mem_of_getElem? (i := 123) (by decide +kernel)
set_option maxRecDepth 10000 in
theorem eL_law_260 : (260, Instr.aload_n 0, 1, 0, 0, 0) ∈ kL_law := List.mem_of_getElem? (i := 124) (by decide +kernel)
set_option maxRecDepth 10000 in
theorem eL_law_261 : (261, Instr.iload_n 3, 1, 0, 0, 0) ∈ kL_law := List.mem_of_getElem? (i := 125) (by decide +kernel)
set_option maxRecDepth 10000 in
theorem eL_law_262 : (262, Instr.iconst 1, 1, 0, 0, 0) ∈ kL_law := List.mem_of_getElem? (i := 126) (by decide +kernel)
set_option maxRecDepth 10000 in
theorem eL_law_263 : (263, Instr.iadd, 1, 0, 0, 0) ∈ kL_law := List.mem_of_getElem? (i := 127) (by decide +kernel)
set_option maxRecDepth 10000 in
theorem eL_law_264 : (264, Instr.iaload, 1, 0, 0, 0) ∈ kL_law := List.mem_of_getElem? (i := 128) (by decide +kernel)
set_option maxRecDepth 10000 in
theorem eL_law_265 : (265, Instr.aload_n 0, 1, 0, 0, 0) ∈ kL_law := List.mem_of_getElem? (i := 129) (by decide +kernel)
set_option maxRecDepth 10000 in
theorem eL_law_266 : (266, Instr.iload_n 3, 1, 0, 0, 0) ∈ kL_law := List.mem_of_getElem? (i := 130) (by decide +kernel)
set_option maxRecDepth 10000 in
theorem eL_law_267 : (267, Instr.iconst 2, 1, 0, 0, 0) ∈ kL_law := List.mem_of_getElem? (i := 131) (by decide +kernel)
set_option maxRecDepth 10000 in
theorem eL_law_268 : (268, Instr.iadd, 1, 0, 0, 0) ∈ kL_law := List.mem_of_getElem? (i := 132) (by decide +kernel)
set_option maxRecDepth 10000 in
theorem eL_law_269 : (269, Instr.iaload, 1, 0, 0, 0) ∈ kL_law := List.mem_of_getElem? (i := 133) (by decide +kernel)
set_option maxRecDepth 10000 in
theorem eL_law_270 : (270, Instr.aload_n 0, 1, 0, 0, 0) ∈ kL_law := List.mem_of_getElem? (i := 134) (by decide +kernel)
set_option maxRecDepth 10000 in
theorem eL_law_271 : (271, Instr.iload_n 3, 1, 0, 0, 0) ∈ kL_law := List.mem_of_getElem? (i := 135) (by decide +kernel)
set_option maxRecDepth 10000 in
theorem eL_law_272 : (272, Instr.iconst 3, 1, 0, 0, 0) ∈ kL_law := List.mem_of_getElem? (i := 136) (by decide +kernel)
set_option maxRecDepth 10000 in
theorem eL_law_273 : (273, Instr.iadd, 1, 0, 0, 0) ∈ kL_law := List.mem_of_getElem? (i := 137) (by decide +kernel)
set_option maxRecDepth 10000 in
theorem eL_law_274 : (274, Instr.iaload, 1, 0, 0, 0) ∈ kL_law := List.mem_of_getElem? (i := 138) (by decide +kernel)
set_option maxRecDepth 10000 in
theorem eL_law_275 : (275, Instr.ifCond .eq 7, 3, 282, 0, 0) ∈ kL_law := List.mem_of_getElem? (i := 139) (by decide +kernel)
set_option maxRecDepth 10000 in
theorem eL_law_278 : (278, Instr.iconst 1, 1, 0, 0, 0) ∈ kL_law := List.mem_of_getElem? (i := 140) (by decide +kernel)
set_option maxRecDepth 10000 in
theorem eL_law_279 : (279, Instr.goto 4, 3, 283, 0, 0) ∈ kL_law := List.mem_of_getElem? (i := 141) (by decide +kernel)
set_option maxRecDepth 10000 in
theorem eL_law_282 : (282, Instr.iconst 0, 1, 0, 0, 0) ∈ kL_law := List.mem_of_getElem? (i := 142) (by decide +kernel)
set_option maxRecDepth 10000 in
theorem eL_law_283 : (283, Instr.aload_n 0, 1, 0, 0, 0) ∈ kL_law := List.mem_of_getElem? (i := 143) (by decide +kernel)
set_option maxRecDepth 10000 in
theorem eL_law_284 : (284, Instr.iload_n 3, 1, 0, 0, 0) ∈ kL_law := List.mem_of_getElem? (i := 144) (by decide +kernel)
set_option maxRecDepth 10000 in
theorem eL_law_285 : (285, Instr.iconst 4, 1, 0, 0, 0) ∈ kL_law := List.mem_of_getElem? (i := 145) (by decide +kernel)
set_option maxRecDepth 10000 in
theorem eL_law_286 : (286, Instr.iadd, 1, 0, 0, 0) ∈ kL_law := List.mem_of_getElem? (i := 146) (by decide +kernel)
set_option maxRecDepth 10000 in
theorem eL_law_287 : (287, Instr.iaload, 1, 0, 0, 0) ∈ kL_law := List.mem_of_getElem? (i := 147) (by decide +kernel)
set_option maxRecDepth 10000 in
theorem eL_law_288 : (288, Instr.invokevirtual 28, 3, 29, 4, 183) ∈ kL_law := List.mem_of_getElem? (i := 148) (by decide +kernel)
set_option maxRecDepth 10000 in
theorem eL_law_291 : (291, Instr.aload_n 2, 1, 0, 0, 0) ∈ kL_law := List.mem_of_getElem? (i := 149) (by decide +kernel)
set_option maxRecDepth 10000 in
theorem eL_law_292 : (292, Instr.aload_n 0, 1, 0, 0, 0) ∈ kL_law := List.mem_of_getElem? (i := 150) (by decide +kernel)
set_option maxRecDepth 10000 in
theorem eL_law_293 : (293, Instr.iload_n 3, 1, 0, 0, 0) ∈ kL_law := List.mem_of_getElem? (i := 151) (by decide +kernel)
set_option maxRecDepth 10000 in
theorem eL_law_294 : (294, Instr.iconst 1, 1, 0, 0, 0) ∈ kL_law := List.mem_of_getElem? (i := 152) (by decide +kernel)
set_option maxRecDepth 10000 in
theorem eL_law_295 : (295, Instr.iadd, 1, 0, 0, 0) ∈ kL_law := List.mem_of_getElem? (i := 153) (by decide +kernel)
set_option maxRecDepth 10000 in
theorem eL_law_296 : (296, Instr.iaload, 1, 0, 0, 0) ∈ kL_law := List.mem_of_getElem? (i := 154) (by decide +kernel)
set_option maxRecDepth 10000 in
theorem eL_law_297 : (297, Instr.aload_n 0, 1, 0, 0, 0) ∈ kL_law := List.mem_of_getElem? (i := 155) (by decide +kernel)
set_option maxRecDepth 10000 in
theorem eL_law_298 : (298, Instr.iload_n 3, 1, 0, 0, 0) ∈ kL_law := List.mem_of_getElem? (i := 156) (by decide +kernel)
set_option maxRecDepth 10000 in
theorem eL_law_299 : (299, Instr.iconst 2, 1, 0, 0, 0) ∈ kL_law := List.mem_of_getElem? (i := 157) (by decide +kernel)
set_option maxRecDepth 10000 in
theorem eL_law_300 : (300, Instr.iadd, 1, 0, 0, 0) ∈ kL_law := List.mem_of_getElem? (i := 158) (by decide +kernel)
set_option maxRecDepth 10000 in
theorem eL_law_301 : (301, Instr.iaload, 1, 0, 0, 0) ∈ kL_law := List.mem_of_getElem? (i := 159) (by decide +kernel)
set_option maxRecDepth 10000 in
theorem eL_law_302 : (302, Instr.aload_n 0, 1, 0, 0, 0) ∈ kL_law := List.mem_of_getElem? (i := 160) (by decide +kernel)
set_option maxRecDepth 10000 in
theorem eL_law_303 : (303, Instr.iload_n 3, 1, 0, 0, 0) ∈ kL_law := List.mem_of_getElem? (i := 161) (by decide +kernel)
set_option maxRecDepth 10000 in
theorem eL_law_304 : (304, Instr.iconst 3, 1, 0, 0, 0) ∈ kL_law := List.mem_of_getElem? (i := 162) (by decide +kernel)
set_option maxRecDepth 10000 in
theorem eL_law_305 : (305, Instr.iadd, 1, 0, 0, 0) ∈ kL_law := List.mem_of_getElem? (i := 163) (by decide +kernel)
set_option maxRecDepth 10000 in
theorem eL_law_306 : (306, Instr.iaload, 1, 0, 0, 0) ∈ kL_law := List.mem_of_getElem? (i := 164) (by decide +kernel)
set_option maxRecDepth 10000 in
theorem eL_law_307 : (307, Instr.ifCond .eq 7, 3, 314, 0, 0) ∈ kL_law := List.mem_of_getElem? (i := 165) (by decide +kernel)
set_option maxRecDepth 10000 in
theorem eL_law_310 : (310, Instr.iconst 1, 1, 0, 0, 0) ∈ kL_law := List.mem_of_getElem? (i := 166) (by decide +kernel)
set_option maxRecDepth 10000 in
theorem eL_law_311 : (311, Instr.goto 4, 3, 315, 0, 0) ∈ kL_law := List.mem_of_getElem? (i := 167) (by decide +kernel)
set_option maxRecDepth 10000 in
theorem eL_law_314 : (314, Instr.iconst 0, 1, 0, 0, 0) ∈ kL_law := List.mem_of_getElem? (i := 168) (by decide +kernel)
set_option maxRecDepth 10000 in
theorem eL_law_315 : (315, Instr.aload_n 0, 1, 0, 0, 0) ∈ kL_law := List.mem_of_getElem? (i := 169) (by decide +kernel)
set_option maxRecDepth 10000 in
theorem eL_law_316 : (316, Instr.iload_n 3, 1, 0, 0, 0) ∈ kL_law := List.mem_of_getElem? (i := 170) (by decide +kernel)
set_option maxRecDepth 10000 in
theorem eL_law_317 : (317, Instr.iconst 4, 1, 0, 0, 0) ∈ kL_law := List.mem_of_getElem? (i := 171) (by decide +kernel)
set_option maxRecDepth 10000 in
theorem eL_law_318 : (318, Instr.iadd, 1, 0, 0, 0) ∈ kL_law := List.mem_of_getElem? (i := 172) (by decide +kernel)
set_option maxRecDepth 10000 in
theorem eL_law_319 : (319, Instr.iaload, 1, 0, 0, 0) ∈ kL_law := List.mem_of_getElem? (i := 173) (by decide +kernel)
set_option maxRecDepth 10000 in
theorem eL_law_320 : (320, Instr.invokevirtual 32, 3, 85, 4, 695) ∈ kL_law := List.mem_of_getElem? (i := 174) (by decide +kernel)
set_option maxRecDepth 10000 in
theorem eL_law_323 : (323, Instr.if_icmp .eq 556, 3, 879, 0, 0) ∈ kL_law := List.mem_of_getElem? (i := 175) (by decide +kernel)
set_option maxRecDepth 10000 in
theorem eL_law_326 : (326, Instr.iconst 0, 1, 0, 0, 0) ∈ kL_law := List.mem_of_getElem? (i := 176) (by decide +kernel)
set_option maxRecDepth 10000 in
theorem eL_law_327 : (327, Instr.ireturn, 1, 1, 0, 0) ∈ kL_law := List.mem_of_getElem? (i := 177) (by decide +kernel)
set_option maxRecDepth 10000 in
theorem eL_law_328 : (328, Instr.aload_n 1, 1, 0, 0, 0) ∈ kL_law := List.mem_of_getElem? (i := 178) (by decide +kernel)
set_option maxRecDepth 10000 in
theorem eL_law_329 : (329, Instr.aload_n 0, 1, 0, 0, 0) ∈ kL_law := List.mem_of_getElem? (i := 179) (by decide +kernel)
set_option maxRecDepth 10000 in
theorem eL_law_330 : (330, Instr.iload_n 3, 1, 0, 0, 0) ∈ kL_law := List.mem_of_getElem? (i := 180) (by decide +kernel)
set_option maxRecDepth 10000 in
theorem eL_law_331 : (331, Instr.iconst 1, 1, 0, 0, 0) ∈ kL_law := List.mem_of_getElem? (i := 181) (by decide +kernel)
set_option maxRecDepth 10000 in
theorem eL_law_332 : (332, Instr.iadd, 1, 0, 0, 0) ∈ kL_law := List.mem_of_getElem? (i := 182) (by decide +kernel)
set_option maxRecDepth 10000 in
theorem eL_law_333 : (333, Instr.iaload, 1, 0, 0, 0) ∈ kL_law := List.mem_of_getElem? (i := 183) (by decide +kernel)
set_option maxRecDepth 10000 in
theorem eL_law_334 : (334, Instr.aload_n 0, 1, 0, 0, 0) ∈ kL_law := List.mem_of_getElem? (i := 184) (by decide +kernel)
set_option maxRecDepth 10000 in
theorem eL_law_335 : (335, Instr.iload_n 3, 1, 0, 0, 0) ∈ kL_law := List.mem_of_getElem? (i := 185) (by decide +kernel)
set_option maxRecDepth 10000 in
theorem eL_law_336 : (336, Instr.iconst 2, 1, 0, 0, 0) ∈ kL_law := List.mem_of_getElem? (i := 186) (by decide +kernel)
set_option maxRecDepth 10000 in
theorem eL_law_337 : (337, Instr.iadd, 1, 0, 0, 0) ∈ kL_law := List.mem_of_getElem? (i := 187) (by decide +kernel)
set_option maxRecDepth 10000 in
theorem eL_law_338 : (338, Instr.iaload, 1, 0, 0, 0) ∈ kL_law := List.mem_of_getElem? (i := 188) (by decide +kernel)
set_option maxRecDepth 10000 in
theorem eL_law_339 : (339, Instr.aload_n 0, 1, 0, 0, 0) ∈ kL_law := List.mem_of_getElem? (i := 189) (by decide +kernel)
set_option maxRecDepth 10000 in
theorem eL_law_340 : (340, Instr.iload_n 3, 1, 0, 0, 0) ∈ kL_law := List.mem_of_getElem? (i := 190) (by decide +kernel)
set_option maxRecDepth 10000 in
theorem eL_law_341 : (341, Instr.iconst 3, 1, 0, 0, 0) ∈ kL_law := List.mem_of_getElem? (i := 191) (by decide +kernel)
set_option maxRecDepth 10000 in
theorem eL_law_342 : (342, Instr.iadd, 1, 0, 0, 0) ∈ kL_law := List.mem_of_getElem? (i := 192) (by decide +kernel)
set_option maxRecDepth 10000 in
theorem eL_law_343 : (343, Instr.iaload, 1, 0, 0, 0) ∈ kL_law := List.mem_of_getElem? (i := 193) (by decide +kernel)
set_option maxRecDepth 10000 in
theorem eL_law_344 : (344, Instr.ifCond .eq 7, 3, 351, 0, 0) ∈ kL_law := List.mem_of_getElem? (i := 194) (by decide +kernel)
set_option maxRecDepth 10000 in
theorem eL_law_347 : (347, Instr.iconst 1, 1, 0, 0, 0) ∈ kL_law := List.mem_of_getElem? (i := 195) (by decide +kernel)
set_option maxRecDepth 10000 in
theorem eL_law_348 : (348, Instr.goto 4, 3, 352, 0, 0) ∈ kL_law := List.mem_of_getElem? (i := 196) (by decide +kernel)
set_option maxRecDepth 10000 in
theorem eL_law_351 : (351, Instr.iconst 0, 1, 0, 0, 0) ∈ kL_law := List.mem_of_getElem? (i := 197) (by decide +kernel)
set_option maxRecDepth 10000 in
theorem eL_law_352 : (352, Instr.aload_n 0, 1, 0, 0, 0) ∈ kL_law := List.mem_of_getElem? (i := 198) (by decide +kernel)
set_option maxRecDepth 10000 in
theorem eL_law_353 : (353, Instr.iload_n 3, 1, 0, 0, 0) ∈ kL_law := List.mem_of_getElem? (i := 199) (by decide +kernel)
set_option maxRecDepth 10000 in
theorem eL_law_354 : (354, Instr.iconst 4, 1, 0, 0, 0) ∈ kL_law := List.mem_of_getElem? (i := 200) (by decide +kernel)
set_option maxRecDepth 10000 in
theorem eL_law_355 : (355, Instr.iadd, 1, 0, 0, 0) ∈ kL_law := List.mem_of_getElem? (i := 201) (by decide +kernel)
set_option maxRecDepth 10000 in
theorem eL_law_356 : (356, Instr.iaload, 1, 0, 0, 0) ∈ kL_law := List.mem_of_getElem? (i := 202) (by decide +kernel)
set_option maxRecDepth 10000 in
theorem eL_law_357 : (357, Instr.ifCond .eq 7, 3, 364, 0, 0) ∈ kL_law := List.mem_of_getElem? (i := 203) (by decide +kernel)
set_option maxRecDepth 10000 in
theorem eL_law_360 : (360, Instr.iconst 1, 1, 0, 0, 0) ∈ kL_law := List.mem_of_getElem? (i := 204) (by decide +kernel)
set_option maxRecDepth 10000 in
theorem eL_law_361 : (361, Instr.goto 4, 3, 365, 0, 0) ∈ kL_law := List.mem_of_getElem? (i := 205) (by decide +kernel)
set_option maxRecDepth 10000 in
theorem eL_law_364 : (364, Instr.iconst 0, 1, 0, 0, 0) ∈ kL_law := List.mem_of_getElem? (i := 206) (by decide +kernel)
set_option maxRecDepth 10000 in
theorem eL_law_365 : (365, Instr.aload_n 0, 1, 0, 0, 0) ∈ kL_law := List.mem_of_getElem? (i := 207) (by decide +kernel)
set_option maxRecDepth 10000 in
theorem eL_law_366 : (366, Instr.iload_n 3, 1, 0, 0, 0) ∈ kL_law := List.mem_of_getElem? (i := 208) (by decide +kernel)
set_option maxRecDepth 10000 in
theorem eL_law_367 : (367, Instr.iconst 5, 1, 0, 0, 0) ∈ kL_law := List.mem_of_getElem? (i := 209) (by decide +kernel)
set_option maxRecDepth 10000 in
theorem eL_law_368 : (368, Instr.iadd, 1, 0, 0, 0) ∈ kL_law := List.mem_of_getElem? (i := 210) (by decide +kernel)
set_option maxRecDepth 10000 in
theorem eL_law_369 : (369, Instr.iaload, 1, 0, 0, 0) ∈ kL_law := List.mem_of_getElem? (i := 211) (by decide +kernel)
set_option maxRecDepth 10000 in
theorem eL_law_370 : (370, Instr.aload_n 0, 1, 0, 0, 0) ∈ kL_law := List.mem_of_getElem? (i := 212) (by decide +kernel)
set_option maxRecDepth 10000 in
theorem eL_law_371 : (371, Instr.iload_n 3, 1, 0, 0, 0) ∈ kL_law := List.mem_of_getElem? (i := 213) (by decide +kernel)
set_option maxRecDepth 10000 in
theorem eL_law_372 : (372, Instr.bipush 6, 2, 0, 0, 0) ∈ kL_law := List.mem_of_getElem? (i := 214) (by decide +kernel)
set_option maxRecDepth 10000 in
theorem eL_law_374 : (374, Instr.iadd, 1, 0, 0, 0) ∈ kL_law := List.mem_of_getElem? (i := 215) (by decide +kernel)
set_option maxRecDepth 10000 in
theorem eL_law_375 : (375, Instr.iaload, 1, 0, 0, 0) ∈ kL_law := List.mem_of_getElem? (i := 216) (by decide +kernel)
set_option maxRecDepth 10000 in
theorem eL_law_376 : (376, Instr.invokevirtual 33, 3, 30, 6, 228) ∈ kL_law := List.mem_of_getElem? (i := 217) (by decide +kernel)
set_option maxRecDepth 10000 in
theorem eL_law_379 : (379, Instr.aload_n 2, 1, 0, 0, 0) ∈ kL_law := List.mem_of_getElem? (i := 218) (by decide +kernel)
set_option maxRecDepth 10000 in
theorem eL_law_380 : (380, Instr.aload_n 0, 1, 0, 0, 0) ∈ kL_law := List.mem_of_getElem? (i := 219) (by decide +kernel)
set_option maxRecDepth 10000 in
theorem eL_law_381 : (381, Instr.iload_n 3, 1, 0, 0, 0) ∈ kL_law := List.mem_of_getElem? (i := 220) (by decide +kernel)
set_option maxRecDepth 10000 in
theorem eL_law_382 : (382, Instr.iconst 1, 1, 0, 0, 0) ∈ kL_law := List.mem_of_getElem? (i := 221) (by decide +kernel)
set_option maxRecDepth 10000 in
theorem eL_law_383 : (383, Instr.iadd, 1, 0, 0, 0) ∈ kL_law := List.mem_of_getElem? (i := 222) (by decide +kernel)
set_option maxRecDepth 10000 in
theorem eL_law_384 : (384, Instr.iaload, 1, 0, 0, 0) ∈ kL_law := List.mem_of_getElem? (i := 223) (by decide +kernel)
set_option maxRecDepth 10000 in
theorem eL_law_385 : (385, Instr.aload_n 0, 1, 0, 0, 0) ∈ kL_law := List.mem_of_getElem? (i := 224) (by decide +kernel)
set_option maxRecDepth 10000 in
theorem eL_law_386 : (386, Instr.iload_n 3, 1, 0, 0, 0) ∈ kL_law := List.mem_of_getElem? (i := 225) (by decide +kernel)
set_option maxRecDepth 10000 in
theorem eL_law_387 : (387, Instr.iconst 2, 1, 0, 0, 0) ∈ kL_law := List.mem_of_getElem? (i := 226) (by decide +kernel)
set_option maxRecDepth 10000 in
theorem eL_law_388 : (388, Instr.iadd, 1, 0, 0, 0) ∈ kL_law := List.mem_of_getElem? (i := 227) (by decide +kernel)
set_option maxRecDepth 10000 in
theorem eL_law_389 : (389, Instr.iaload, 1, 0, 0, 0) ∈ kL_law := List.mem_of_getElem? (i := 228) (by decide +kernel)
set_option maxRecDepth 10000 in
theorem eL_law_390 : (390, Instr.aload_n 0, 1, 0, 0, 0) ∈ kL_law := List.mem_of_getElem? (i := 229) (by decide +kernel)
set_option maxRecDepth 10000 in
theorem eL_law_391 : (391, Instr.iload_n 3, 1, 0, 0, 0) ∈ kL_law := List.mem_of_getElem? (i := 230) (by decide +kernel)
set_option maxRecDepth 10000 in
theorem eL_law_392 : (392, Instr.iconst 3, 1, 0, 0, 0) ∈ kL_law := List.mem_of_getElem? (i := 231) (by decide +kernel)
set_option maxRecDepth 10000 in
theorem eL_law_393 : (393, Instr.iadd, 1, 0, 0, 0) ∈ kL_law := List.mem_of_getElem? (i := 232) (by decide +kernel)
set_option maxRecDepth 10000 in
theorem eL_law_394 : (394, Instr.iaload, 1, 0, 0, 0) ∈ kL_law := List.mem_of_getElem? (i := 233) (by decide +kernel)
set_option maxRecDepth 10000 in
theorem eL_law_395 : (395, Instr.ifCond .eq 7, 3, 402, 0, 0) ∈ kL_law := List.mem_of_getElem? (i := 234) (by decide +kernel)
set_option maxRecDepth 10000 in
theorem eL_law_398 : (398, Instr.iconst 1, 1, 0, 0, 0) ∈ kL_law := List.mem_of_getElem? (i := 235) (by decide +kernel)
set_option maxRecDepth 10000 in
theorem eL_law_399 : (399, Instr.goto 4, 3, 403, 0, 0) ∈ kL_law := List.mem_of_getElem? (i := 236) (by decide +kernel)
set_option maxRecDepth 10000 in
theorem eL_law_402 : (402, Instr.iconst 0, 1, 0, 0, 0) ∈ kL_law := List.mem_of_getElem? (i := 237) (by decide +kernel)
set_option maxRecDepth 10000 in
theorem eL_law_403 : (403, Instr.aload_n 0, 1, 0, 0, 0) ∈ kL_law := List.mem_of_getElem? (i := 238) (by decide +kernel)
set_option maxRecDepth 10000 in
theorem eL_law_404 : (404, Instr.iload_n 3, 1, 0, 0, 0) ∈ kL_law := List.mem_of_getElem? (i := 239) (by decide +kernel)
set_option maxRecDepth 10000 in
theorem eL_law_405 : (405, Instr.iconst 4, 1, 0, 0, 0) ∈ kL_law := List.mem_of_getElem? (i := 240) (by decide +kernel)
set_option maxRecDepth 10000 in
theorem eL_law_406 : (406, Instr.iadd, 1, 0, 0, 0) ∈ kL_law := List.mem_of_getElem? (i := 241) (by decide +kernel)
set_option maxRecDepth 10000 in
theorem eL_law_407 : (407, Instr.iaload, 1, 0, 0, 0) ∈ kL_law := List.mem_of_getElem? (i := 242) (by decide +kernel)
set_option maxRecDepth 10000 in
theorem eL_law_408 : (408, Instr.ifCond .eq 7, 3, 415, 0, 0) ∈ kL_law := List.mem_of_getElem? (i := 243) (by decide +kernel)
set_option maxRecDepth 10000 in
theorem eL_law_411 : (411, Instr.iconst 1, 1, 0, 0, 0) ∈ kL_law := List.mem_of_getElem? (i := 244) (by decide +kernel)
set_option maxRecDepth 10000 in
theorem eL_law_412 : (412, Instr.goto 4, 3, 416, 0, 0) ∈ kL_law := List.mem_of_getElem? (i := 245) (by decide +kernel)
set_option maxRecDepth 10000 in
theorem eL_law_415 : (415, Instr.iconst 0, 1, 0, 0, 0) ∈ kL_law := List.mem_of_getElem? (i := 246) (by decide +kernel)
set_option maxRecDepth 10000 in
theorem eL_law_416 : (416, Instr.aload_n 0, 1, 0, 0, 0) ∈ kL_law := List.mem_of_getElem? (i := 247) (by decide +kernel)
set_option maxRecDepth 10000 in
theorem eL_law_417 : (417, Instr.iload_n 3, 1, 0, 0, 0) ∈ kL_law := List.mem_of_getElem? (i := 248) (by decide +kernel)
set_option maxRecDepth 10000 in
theorem eL_law_418 : (418, Instr.iconst 5, 1, 0, 0, 0) ∈ kL_law := List.mem_of_getElem? (i := 249) (by decide +kernel)
set_option maxRecDepth 10000 in
theorem eL_law_419 : (419, Instr.iadd, 1, 0, 0, 0) ∈ kL_law := List.mem_of_getElem? (i := 250) (by decide +kernel)
set_option maxRecDepth 10000 in
theorem eL_law_420 : (420, Instr.iaload, 1, 0, 0, 0) ∈ kL_law := List.mem_of_getElem? (i := 251) (by decide +kernel)
set_option maxRecDepth 10000 in
theorem eL_law_421 : (421, Instr.aload_n 0, 1, 0, 0, 0) ∈ kL_law := List.mem_of_getElem? (i := 252) (by decide +kernel)
set_option maxRecDepth 10000 in
theorem eL_law_422 : (422, Instr.iload_n 3, 1, 0, 0, 0) ∈ kL_law := List.mem_of_getElem? (i := 253) (by decide +kernel)
set_option maxRecDepth 10000 in
theorem eL_law_423 : (423, Instr.bipush 6, 2, 0, 0, 0) ∈ kL_law := List.mem_of_getElem? (i := 254) (by decide +kernel)
set_option maxRecDepth 10000 in
theorem eL_law_425 : (425, Instr.iadd, 1, 0, 0, 0) ∈ kL_law := List.mem_of_getElem? (i := 255) (by decide +kernel)
set_option maxRecDepth 10000 in
theorem eL_law_426 : (426, Instr.iaload, 1, 0, 0, 0) ∈ kL_law := List.mem_of_getElem? (i := 256) (by decide +kernel)
set_option maxRecDepth 10000 in
theorem eL_law_427 : (427, Instr.invokevirtual 37, 3, 92, 6, 699) ∈ kL_law := List.mem_of_getElem? (i := 257) (by decide +kernel)
set_option maxRecDepth 10000 in
theorem eL_law_430 : (430, Instr.if_icmp .eq 449, 3, 879, 0, 0) ∈ kL_law := List.mem_of_getElem? (i := 258) (by decide +kernel)
set_option maxRecDepth 10000 in
theorem eL_law_433 : (433, Instr.iconst 0, 1, 0, 0, 0) ∈ kL_law := List.mem_of_getElem? (i := 259) (by decide +kernel)
set_option maxRecDepth 10000 in
theorem eL_law_434 : (434, Instr.ireturn, 1, 1, 0, 0) ∈ kL_law := List.mem_of_getElem? (i := 260) (by decide +kernel)
set_option maxRecDepth 10000 in
theorem eL_law_435 : (435, Instr.aload_n 1, 1, 0, 0, 0) ∈ kL_law := List.mem_of_getElem? (i := 261) (by decide +kernel)
set_option maxRecDepth 10000 in
theorem eL_law_436 : (436, Instr.aload_n 0, 1, 0, 0, 0) ∈ kL_law := List.mem_of_getElem? (i := 262) (by decide +kernel)
set_option maxRecDepth 10000 in
theorem eL_law_437 : (437, Instr.iload_n 3, 1, 0, 0, 0) ∈ kL_law := List.mem_of_getElem? (i := 263) (by decide +kernel)
set_option maxRecDepth 10000 in
theorem eL_law_438 : (438, Instr.iconst 1, 1, 0, 0, 0) ∈ kL_law := List.mem_of_getElem? (i := 264) (by decide +kernel)
set_option maxRecDepth 10000 in
theorem eL_law_439 : (439, Instr.iadd, 1, 0, 0, 0) ∈ kL_law := List.mem_of_getElem? (i := 265) (by decide +kernel)
set_option maxRecDepth 10000 in
theorem eL_law_440 : (440, Instr.iaload, 1, 0, 0, 0) ∈ kL_law := List.mem_of_getElem? (i := 266) (by decide +kernel)
set_option maxRecDepth 10000 in
theorem eL_law_441 : (441, Instr.invokevirtual 38, 3, 31, 1, 337) ∈ kL_law := List.mem_of_getElem? (i := 267) (by decide +kernel)
set_option maxRecDepth 10000 in
theorem eL_law_444 : (444, Instr.aload_n 2, 1, 0, 0, 0) ∈ kL_law := List.mem_of_getElem? (i := 268) (by decide +kernel)
set_option maxRecDepth 10000 in
theorem eL_law_445 : (445, Instr.aload_n 0, 1, 0, 0, 0) ∈ kL_law := List.mem_of_getElem? (i := 269) (by decide +kernel)
set_option maxRecDepth 10000 in
theorem eL_law_446 : (446, Instr.iload_n 3, 1, 0, 0, 0) ∈ kL_law := List.mem_of_getElem? (i := 270) (by decide +kernel)
set_option maxRecDepth 10000 in
theorem eL_law_447 : (447, Instr.iconst 1, 1, 0, 0, 0) ∈ kL_law := List.mem_of_getElem? (i := 271) (by decide +kernel)
set_option maxRecDepth 10000 in
theorem eL_law_448 : (448, Instr.iadd, 1, 0, 0, 0) ∈ kL_law := List.mem_of_getElem? (i := 272) (by decide +kernel)
set_option maxRecDepth 10000 in
theorem eL_law_449 : (449, Instr.iaload, 1, 0, 0, 0) ∈ kL_law := List.mem_of_getElem? (i := 273) (by decide +kernel)
set_option maxRecDepth 10000 in
theorem eL_law_450 : (450, Instr.invokevirtual 41, 3, 95, 1, 734) ∈ kL_law := List.mem_of_getElem? (i := 274) (by decide +kernel)
set_option maxRecDepth 10000 in
theorem eL_law_453 : (453, Instr.if_icmp .eq 426, 3, 879, 0, 0) ∈ kL_law := List.mem_of_getElem? (i := 275) (by decide +kernel)
set_option maxRecDepth 10000 in
theorem eL_law_456 : (456, Instr.iconst 0, 1, 0, 0, 0) ∈ kL_law := List.mem_of_getElem? (i := 276) (by decide +kernel)
set_option maxRecDepth 10000 in
theorem eL_law_457 : (457, Instr.ireturn, 1, 1, 0, 0) ∈ kL_law := List.mem_of_getElem? (i := 277) (by decide +kernel)
set_option maxRecDepth 10000 in
theorem eL_law_458 : (458, Instr.aload_n 1, 1, 0, 0, 0) ∈ kL_law := List.mem_of_getElem? (i := 278) (by decide +kernel)
set_option maxRecDepth 10000 in
theorem eL_law_459 : (459, Instr.aload_n 0, 1, 0, 0, 0) ∈ kL_law := List.mem_of_getElem? (i := 279) (by decide +kernel)
set_option maxRecDepth 10000 in
theorem eL_law_460 : (460, Instr.iload_n 3, 1, 0, 0, 0) ∈ kL_law := List.mem_of_getElem? (i := 280) (by decide +kernel)
set_option maxRecDepth 10000 in
theorem eL_law_461 : (461, Instr.iconst 1, 1, 0, 0, 0) ∈ kL_law := List.mem_of_getElem? (i := 281) (by decide +kernel)
set_option maxRecDepth 10000 in
theorem eL_law_462 : (462, Instr.iadd, 1, 0, 0, 0) ∈ kL_law := List.mem_of_getElem? (i := 282) (by decide +kernel)
set_option maxRecDepth 10000 in
theorem eL_law_463 : (463, Instr.iaload, 1, 0, 0, 0) ∈ kL_law := List.mem_of_getElem? (i := 283) (by decide +kernel)
set_option maxRecDepth 10000 in
theorem eL_law_464 : (464, Instr.invokevirtual 42, 3, 32, 1, 365) ∈ kL_law := List.mem_of_getElem? (i := 284) (by decide +kernel)
set_option maxRecDepth 10000 in
theorem eL_law_467 : (467, Instr.aload_n 2, 1, 0, 0, 0) ∈ kL_law := List.mem_of_getElem? (i := 285) (by decide +kernel)
set_option maxRecDepth 10000 in
theorem eL_law_468 : (468, Instr.aload_n 0, 1, 0, 0, 0) ∈ kL_law := List.mem_of_getElem? (i := 286) (by decide +kernel)
set_option maxRecDepth 10000 in
theorem eL_law_469 : (469, Instr.iload_n 3, 1, 0, 0, 0) ∈ kL_law := List.mem_of_getElem? (i := 287) (by decide +kernel)
set_option maxRecDepth 10000 in
theorem eL_law_470 : (470, Instr.iconst 1, 1, 0, 0, 0) ∈ kL_law := List.mem_of_getElem? (i := 288) (by decide +kernel)
set_option maxRecDepth 10000 in
theorem eL_law_471 : (471, Instr.iadd, 1, 0, 0, 0) ∈ kL_law := List.mem_of_getElem? (i := 289) (by decide +kernel)
set_option maxRecDepth 10000 in
theorem eL_law_472 : (472, Instr.iaload, 1, 0, 0, 0) ∈ kL_law := List.mem_of_getElem? (i := 290) (by decide +kernel)
set_option maxRecDepth 10000 in
theorem eL_law_473 : (473, Instr.invokevirtual 45, 3, 97, 1, 750) ∈ kL_law := List.mem_of_getElem? (i := 291) (by decide +kernel)
set_option maxRecDepth 10000 in
theorem eL_law_476 : (476, Instr.if_icmp .eq 403, 3, 879, 0, 0) ∈ kL_law := List.mem_of_getElem? (i := 292) (by decide +kernel)
set_option maxRecDepth 10000 in
theorem eL_law_479 : (479, Instr.iconst 0, 1, 0, 0, 0) ∈ kL_law := List.mem_of_getElem? (i := 293) (by decide +kernel)
set_option maxRecDepth 10000 in
theorem eL_law_480 : (480, Instr.ireturn, 1, 1, 0, 0) ∈ kL_law := List.mem_of_getElem? (i := 294) (by decide +kernel)
set_option maxRecDepth 10000 in
theorem eL_law_481 : (481, Instr.aload_n 1, 1, 0, 0, 0) ∈ kL_law := List.mem_of_getElem? (i := 295) (by decide +kernel)
set_option maxRecDepth 10000 in
theorem eL_law_482 : (482, Instr.invokevirtual 46, 3, 33, 0, 382) ∈ kL_law := List.mem_of_getElem? (i := 296) (by decide +kernel)
set_option maxRecDepth 10000 in
theorem eL_law_485 : (485, Instr.aload_n 2, 1, 0, 0, 0) ∈ kL_law := List.mem_of_getElem? (i := 297) (by decide +kernel)
set_option maxRecDepth 10000 in
theorem eL_law_486 : (486, Instr.invokevirtual 50, 3, 98, 0, 759) ∈ kL_law := List.mem_of_getElem? (i := 298) (by decide +kernel)
set_option maxRecDepth 10000 in
theorem eL_law_489 : (489, Instr.if_icmp .eq 390, 3, 879, 0, 0) ∈ kL_law := List.mem_of_getElem? (i := 299) (by decide +kernel)
set_option maxRecDepth 10000 in
theorem eL_law_492 : (492, Instr.iconst 0, 1, 0, 0, 0) ∈ kL_law := List.mem_of_getElem? (i := 300) (by decide +kernel)
set_option maxRecDepth 10000 in
theorem eL_law_493 : (493, Instr.ireturn, 1, 1, 0, 0) ∈ kL_law := List.mem_of_getElem? (i := 301) (by decide +kernel)
set_option maxRecDepth 10000 in
theorem eL_law_494 : (494, Instr.aload_n 1, 1, 0, 0, 0) ∈ kL_law := List.mem_of_getElem? (i := 302) (by decide +kernel)
set_option maxRecDepth 10000 in
theorem eL_law_495 : (495, Instr.aload_n 0, 1, 0, 0, 0) ∈ kL_law := List.mem_of_getElem? (i := 303) (by decide +kernel)
set_option maxRecDepth 10000 in
theorem eL_law_496 : (496, Instr.iload_n 3, 1, 0, 0, 0) ∈ kL_law := List.mem_of_getElem? (i := 304) (by decide +kernel)
set_option maxRecDepth 10000 in
theorem eL_law_497 : (497, Instr.iconst 1, 1, 0, 0, 0) ∈ kL_law := List.mem_of_getElem? (i := 305) (by decide +kernel)
set_option maxRecDepth 10000 in
theorem eL_law_498 : (498, Instr.iadd, 1, 0, 0, 0) ∈ kL_law := List.mem_of_getElem? (i := 306) (by decide +kernel)
set_option maxRecDepth 10000 in
theorem eL_law_499 : (499, Instr.iaload, 1, 0, 0, 0) ∈ kL_law := List.mem_of_getElem? (i := 307) (by decide +kernel)
set_option maxRecDepth 10000 in
theorem eL_law_500 : (500, Instr.aload_n 0, 1, 0, 0, 0) ∈ kL_law := List.mem_of_getElem? (i := 308) (by decide +kernel)
set_option maxRecDepth 10000 in
theorem eL_law_501 : (501, Instr.iload_n 3, 1, 0, 0, 0) ∈ kL_law := List.mem_of_getElem? (i := 309) (by decide +kernel)
set_option maxRecDepth 10000 in
theorem eL_law_502 : (502, Instr.iconst 2, 1, 0, 0, 0) ∈ kL_law := List.mem_of_getElem? (i := 310) (by decide +kernel)
set_option maxRecDepth 10000 in
theorem eL_law_503 : (503, Instr.iadd, 1, 0, 0, 0) ∈ kL_law := List.mem_of_getElem? (i := 311) (by decide +kernel)
set_option maxRecDepth 10000 in
theorem eL_law_504 : (504, Instr.iaload, 1, 0, 0, 0) ∈ kL_law := List.mem_of_getElem? (i := 312) (by decide +kernel)
set_option maxRecDepth 10000 in
theorem eL_law_505 : (505, Instr.aload_n 0, 1, 0, 0, 0) ∈ kL_law := List.mem_of_getElem? (i := 313) (by decide +kernel)
set_option maxRecDepth 10000 in
theorem eL_law_506 : (506, Instr.iload_n 3, 1, 0, 0, 0) ∈ kL_law := List.mem_of_getElem? (i := 314) (by decide +kernel)
set_option maxRecDepth 10000 in
theorem eL_law_507 : (507, Instr.iconst 3, 1, 0, 0, 0) ∈ kL_law := List.mem_of_getElem? (i := 315) (by decide +kernel)
set_option maxRecDepth 10000 in
theorem eL_law_508 : (508, Instr.iadd, 1, 0, 0, 0) ∈ kL_law := List.mem_of_getElem? (i := 316) (by decide +kernel)
set_option maxRecDepth 10000 in
theorem eL_law_509 : (509, Instr.iaload, 1, 0, 0, 0) ∈ kL_law := List.mem_of_getElem? (i := 317) (by decide +kernel)
set_option maxRecDepth 10000 in
theorem eL_law_510 : (510, Instr.invokevirtual 51, 3, 34, 3, 403) ∈ kL_law := List.mem_of_getElem? (i := 318) (by decide +kernel)
set_option maxRecDepth 10000 in
theorem eL_law_513 : (513, Instr.aload_n 2, 1, 0, 0, 0) ∈ kL_law := List.mem_of_getElem? (i := 319) (by decide +kernel)
set_option maxRecDepth 10000 in
theorem eL_law_514 : (514, Instr.aload_n 0, 1, 0, 0, 0) ∈ kL_law := List.mem_of_getElem? (i := 320) (by decide +kernel)
set_option maxRecDepth 10000 in
theorem eL_law_515 : (515, Instr.iload_n 3, 1, 0, 0, 0) ∈ kL_law := List.mem_of_getElem? (i := 321) (by decide +kernel)
set_option maxRecDepth 10000 in
theorem eL_law_516 : (516, Instr.iconst 1, 1, 0, 0, 0) ∈ kL_law := List.mem_of_getElem? (i := 322) (by decide +kernel)
set_option maxRecDepth 10000 in
theorem eL_law_517 : (517, Instr.iadd, 1, 0, 0, 0) ∈ kL_law := List.mem_of_getElem? (i := 323) (by decide +kernel)
set_option maxRecDepth 10000 in
theorem eL_law_518 : (518, Instr.iaload, 1, 0, 0, 0) ∈ kL_law := List.mem_of_getElem? (i := 324) (by decide +kernel)
set_option maxRecDepth 10000 in
theorem eL_law_519 : (519, Instr.aload_n 0, 1, 0, 0, 0) ∈ kL_law := List.mem_of_getElem? (i := 325) (by decide +kernel)
set_option maxRecDepth 10000 in
theorem eL_law_520 : (520, Instr.iload_n 3, 1, 0, 0, 0) ∈ kL_law := List.mem_of_getElem? (i := 326) (by decide +kernel)
set_option maxRecDepth 10000 in
theorem eL_law_521 : (521, Instr.iconst 2, 1, 0, 0, 0) ∈ kL_law := List.mem_of_getElem? (i := 327) (by decide +kernel)
set_option maxRecDepth 10000 in
theorem eL_law_522 : (522, Instr.iadd, 1, 0, 0, 0) ∈ kL_law := List.mem_of_getElem? (i := 328) (by decide +kernel)
set_option maxRecDepth 10000 in
theorem eL_law_523 : (523, Instr.iaload, 1, 0, 0, 0) ∈ kL_law := List.mem_of_getElem? (i := 329) (by decide +kernel)
set_option maxRecDepth 10000 in
theorem eL_law_524 : (524, Instr.aload_n 0, 1, 0, 0, 0) ∈ kL_law := List.mem_of_getElem? (i := 330) (by decide +kernel)
set_option maxRecDepth 10000 in
theorem eL_law_525 : (525, Instr.iload_n 3, 1, 0, 0, 0) ∈ kL_law := List.mem_of_getElem? (i := 331) (by decide +kernel)
set_option maxRecDepth 10000 in
theorem eL_law_526 : (526, Instr.iconst 3, 1, 0, 0, 0) ∈ kL_law := List.mem_of_getElem? (i := 332) (by decide +kernel)
set_option maxRecDepth 10000 in
theorem eL_law_527 : (527, Instr.iadd, 1, 0, 0, 0) ∈ kL_law := List.mem_of_getElem? (i := 333) (by decide +kernel)
set_option maxRecDepth 10000 in
theorem eL_law_528 : (528, Instr.iaload, 1, 0, 0, 0) ∈ kL_law := List.mem_of_getElem? (i := 334) (by decide +kernel)
set_option maxRecDepth 10000 in
theorem eL_law_529 : (529, Instr.invokevirtual 55, 3, 105, 3, 778) ∈ kL_law := List.mem_of_getElem? (i := 335) (by decide +kernel)
set_option maxRecDepth 10000 in
theorem eL_law_532 : (532, Instr.if_icmp .eq 347, 3, 879, 0, 0) ∈ kL_law := List.mem_of_getElem? (i := 336) (by decide +kernel)
set_option maxRecDepth 10000 in
theorem eL_law_535 : (535, Instr.iconst 0, 1, 0, 0, 0) ∈ kL_law := List.mem_of_getElem? (i := 337) (by decide +kernel)
set_option maxRecDepth 10000 in
theorem eL_law_536 : (536, Instr.ireturn, 1, 1, 0, 0) ∈ kL_law := List.mem_of_getElem? (i := 338) (by decide +kernel)
set_option maxRecDepth 10000 in
theorem eL_law_537 : (537, Instr.aload_n 1, 1, 0, 0, 0) ∈ kL_law := List.mem_of_getElem? (i := 339) (by decide +kernel)
set_option maxRecDepth 10000 in
theorem eL_law_538 : (538, Instr.aload_n 0, 1, 0, 0, 0) ∈ kL_law := List.mem_of_getElem? (i := 340) (by decide +kernel)
set_option maxRecDepth 10000 in
theorem eL_law_539 : (539, Instr.iload_n 3, 1, 0, 0, 0) ∈ kL_law := List.mem_of_getElem? (i := 341) (by decide +kernel)
set_option maxRecDepth 10000 in
theorem eL_law_540 : (540, Instr.iconst 1, 1, 0, 0, 0) ∈ kL_law := List.mem_of_getElem? (i := 342) (by decide +kernel)
set_option maxRecDepth 10000 in
theorem eL_law_541 : (541, Instr.iadd, 1, 0, 0, 0) ∈ kL_law := List.mem_of_getElem? (i := 343) (by decide +kernel)
set_option maxRecDepth 10000 in
theorem eL_law_542 : (542, Instr.iaload, 1, 0, 0, 0) ∈ kL_law := List.mem_of_getElem? (i := 344) (by decide +kernel)
set_option maxRecDepth 10000 in
theorem eL_law_543 : (543, Instr.invokevirtual 56, 3, 35, 1, 423) ∈ kL_law := List.mem_of_getElem? (i := 345) (by decide +kernel)
set_option maxRecDepth 10000 in
theorem eL_law_546 : (546, Instr.aload_n 2, 1, 0, 0, 0) ∈ kL_law := List.mem_of_getElem? (i := 346) (by decide +kernel)
set_option maxRecDepth 10000 in
theorem eL_law_547 : (547, Instr.aload_n 0, 1, 0, 0, 0) ∈ kL_law := List.mem_of_getElem? (i := 347) (by decide +kernel)
set_option maxRecDepth 10000 in
theorem eL_law_548 : (548, Instr.iload_n 3, 1, 0, 0, 0) ∈ kL_law := List.mem_of_getElem? (i := 348) (by decide +kernel)
set_option maxRecDepth 10000 in
theorem eL_law_549 : (549, Instr.iconst 1, 1, 0, 0, 0) ∈ kL_law := List.mem_of_getElem? (i := 349) (by decide +kernel)
set_option maxRecDepth 10000 in
theorem eL_law_550 : (550, Instr.iadd, 1, 0, 0, 0) ∈ kL_law := List.mem_of_getElem? (i := 350) (by decide +kernel)
set_option maxRecDepth 10000 in
theorem eL_law_551 : (551, Instr.iaload, 1, 0, 0, 0) ∈ kL_law := List.mem_of_getElem? (i := 351) (by decide +kernel)
set_option maxRecDepth 10000 in
theorem eL_law_552 : (552, Instr.invokevirtual 59, 3, 104, 1, 763) ∈ kL_law := List.mem_of_getElem? (i := 352) (by decide +kernel)
set_option maxRecDepth 10000 in
theorem eL_law_555 : (555, Instr.if_icmp .eq 324, 3, 879, 0, 0) ∈ kL_law := List.mem_of_getElem? (i := 353) (by decide +kernel)
set_option maxRecDepth 10000 in
theorem eL_law_558 : (558, Instr.iconst 0, 1, 0, 0, 0) ∈ kL_law := List.mem_of_getElem? (i := 354) (by decide +kernel)
set_option maxRecDepth 10000 in
theorem eL_law_559 : (559, Instr.ireturn, 1, 1, 0, 0) ∈ kL_law := List.mem_of_getElem? (i := 355) (by decide +kernel)
set_option maxRecDepth 10000 in
theorem eL_law_560 : (560, Instr.aload_n 1, 1, 0, 0, 0) ∈ kL_law := List.mem_of_getElem? (i := 356) (by decide +kernel)
set_option maxRecDepth 10000 in
theorem eL_law_561 : (561, Instr.aload_n 0, 1, 0, 0, 0) ∈ kL_law := List.mem_of_getElem? (i := 357) (by decide +kernel)
set_option maxRecDepth 10000 in
theorem eL_law_562 : (562, Instr.iload_n 3, 1, 0, 0, 0) ∈ kL_law := List.mem_of_getElem? (i := 358) (by decide +kernel)
set_option maxRecDepth 10000 in
theorem eL_law_563 : (563, Instr.iconst 1, 1, 0, 0, 0) ∈ kL_law := List.mem_of_getElem? (i := 359) (by decide +kernel)
set_option maxRecDepth 10000 in
theorem eL_law_564 : (564, Instr.iadd, 1, 0, 0, 0) ∈ kL_law := List.mem_of_getElem? (i := 360) (by decide +kernel)
set_option maxRecDepth 10000 in
theorem eL_law_565 : (565, Instr.iaload, 1, 0, 0, 0) ∈ kL_law := List.mem_of_getElem? (i := 361) (by decide +kernel)
set_option maxRecDepth 10000 in
theorem eL_law_566 : (566, Instr.invokevirtual 60, 3, 36, 1, 427) ∈ kL_law := List.mem_of_getElem? (i := 362) (by decide +kernel)
set_option maxRecDepth 10000 in
theorem eL_law_569 : (569, Instr.aload_n 2, 1, 0, 0, 0) ∈ kL_law := List.mem_of_getElem? (i := 363) (by decide +kernel)
set_option maxRecDepth 10000 in
theorem eL_law_570 : (570, Instr.aload_n 0, 1, 0, 0, 0) ∈ kL_law := List.mem_of_getElem? (i := 364) (by decide +kernel)
set_option maxRecDepth 10000 in
theorem eL_law_571 : (571, Instr.iload_n 3, 1, 0, 0, 0) ∈ kL_law := List.mem_of_getElem? (i := 365) (by decide +kernel)
set_option maxRecDepth 10000 in
theorem eL_law_572 : (572, Instr.iconst 1, 1, 0, 0, 0) ∈ kL_law := List.mem_of_getElem? (i := 366) (by decide +kernel)
set_option maxRecDepth 10000 in
theorem eL_law_573 : (573, Instr.iadd, 1, 0, 0, 0) ∈ kL_law := List.mem_of_getElem? (i := 367) (by decide +kernel)
set_option maxRecDepth 10000 in
theorem eL_law_574 : (574, Instr.iaload, 1, 0, 0, 0) ∈ kL_law := List.mem_of_getElem? (i := 368) (by decide +kernel)
set_option maxRecDepth 10000 in
theorem eL_law_575 : (575, Instr.invokevirtual 63, 3, 106, 1, 783) ∈ kL_law := List.mem_of_getElem? (i := 369) (by decide +kernel)
set_option maxRecDepth 10000 in
theorem eL_law_578 : (578, Instr.if_icmp .eq 301, 3, 879, 0, 0) ∈ kL_law := List.mem_of_getElem? (i := 370) (by decide +kernel)
set_option maxRecDepth 10000 in
theorem eL_law_581 : (581, Instr.iconst 0, 1, 0, 0, 0) ∈ kL_law := List.mem_of_getElem? (i := 371) (by decide +kernel)
set_option maxRecDepth 10000 in
theorem eL_law_582 : (582, Instr.ireturn, 1, 1, 0, 0) ∈ kL_law := List.mem_of_getElem? (i := 372) (by decide +kernel)
set_option maxRecDepth 10000 in
theorem eL_law_583 : (583, Instr.aload_n 1, 1, 0, 0, 0) ∈ kL_law := List.mem_of_getElem? (i := 373) (by decide +kernel)
set_option maxRecDepth 10000 in
theorem eL_law_584 : (584, Instr.aload_n 0, 1, 0, 0, 0) ∈ kL_law := List.mem_of_getElem? (i := 374) (by decide +kernel)
set_option maxRecDepth 10000 in
theorem eL_law_585 : (585, Instr.iload_n 3, 1, 0, 0, 0) ∈ kL_law := List.mem_of_getElem? (i := 375) (by decide +kernel)
set_option maxRecDepth 10000 in
theorem eL_law_586 : (586, Instr.iconst 1, 1, 0, 0, 0) ∈ kL_law := List.mem_of_getElem? (i := 376) (by decide +kernel)
set_option maxRecDepth 10000 in
theorem eL_law_587 : (587, Instr.iadd, 1, 0, 0, 0) ∈ kL_law := List.mem_of_getElem? (i := 377) (by decide +kernel)
set_option maxRecDepth 10000 in
theorem eL_law_588 : (588, Instr.iaload, 1, 0, 0, 0) ∈ kL_law := List.mem_of_getElem? (i := 378) (by decide +kernel)
set_option maxRecDepth 10000 in
theorem eL_law_589 : (589, Instr.invokevirtual 64, 3, 37, 1, 437) ∈ kL_law := List.mem_of_getElem? (i := 379) (by decide +kernel)
set_option maxRecDepth 10000 in
theorem eL_law_592 : (592, Instr.aload_n 2, 1, 0, 0, 0) ∈ kL_law := List.mem_of_getElem? (i := 380) (by decide +kernel)
set_option maxRecDepth 10000 in
theorem eL_law_593 : (593, Instr.aload_n 0, 1, 0, 0, 0) ∈ kL_law := List.mem_of_getElem? (i := 381) (by decide +kernel)
set_option maxRecDepth 10000 in
theorem eL_law_594 : (594, Instr.iload_n 3, 1, 0, 0, 0) ∈ kL_law := List.mem_of_getElem? (i := 382) (by decide +kernel)
set_option maxRecDepth 10000 in
theorem eL_law_595 : (595, Instr.iconst 1, 1, 0, 0, 0) ∈ kL_law := List.mem_of_getElem? (i := 383) (by decide +kernel)
set_option maxRecDepth 10000 in
theorem eL_law_596 : (596, Instr.iadd, 1, 0, 0, 0) ∈ kL_law := List.mem_of_getElem? (i := 384) (by decide +kernel)
set_option maxRecDepth 10000 in
theorem eL_law_597 : (597, Instr.iaload, 1, 0, 0, 0) ∈ kL_law := List.mem_of_getElem? (i := 385) (by decide +kernel)
set_option maxRecDepth 10000 in
theorem eL_law_598 : (598, Instr.invokevirtual 67, 3, 107, 1, 787) ∈ kL_law := List.mem_of_getElem? (i := 386) (by decide +kernel)
set_option maxRecDepth 10000 in
theorem eL_law_601 : (601, Instr.if_icmp .eq 278, 3, 879, 0, 0) ∈ kL_law := List.mem_of_getElem? (i := 387) (by decide +kernel)
set_option maxRecDepth 10000 in
theorem eL_law_604 : (604, Instr.iconst 0, 1, 0, 0, 0) ∈ kL_law := List.mem_of_getElem? (i := 388) (by decide +kernel)
set_option maxRecDepth 10000 in
theorem eL_law_605 : (605, Instr.ireturn, 1, 1, 0, 0) ∈ kL_law := List.mem_of_getElem? (i := 389) (by decide +kernel)
set_option maxRecDepth 10000 in
theorem eL_law_606 : (606, Instr.aload_n 1, 1, 0, 0, 0) ∈ kL_law := List.mem_of_getElem? (i := 390) (by decide +kernel)
set_option maxRecDepth 10000 in
theorem eL_law_607 : (607, Instr.invokevirtual 68, 3, 38, 0, 453) ∈ kL_law := List.mem_of_getElem? (i := 391) (by decide +kernel)
set_option maxRecDepth 10000 in
theorem eL_law_610 : (610, Instr.aload_n 2, 1, 0, 0, 0) ∈ kL_law := List.mem_of_getElem? (i := 392) (by decide +kernel)
set_option maxRecDepth 10000 in
theorem eL_law_611 : (611, Instr.invokevirtual 71, 3, 108, 0, 799) ∈ kL_law := List.mem_of_getElem? (i := 393) (by decide +kernel)
set_option maxRecDepth 10000 in
theorem eL_law_614 : (614, Instr.if_icmp .eq 265, 3, 879, 0, 0) ∈ kL_law := List.mem_of_getElem? (i := 394) (by decide +kernel)
set_option maxRecDepth 10000 in
theorem eL_law_617 : (617, Instr.iconst 0, 1, 0, 0, 0) ∈ kL_law := List.mem_of_getElem? (i := 395) (by decide +kernel)
set_option maxRecDepth 10000 in
theorem eL_law_618 : (618, Instr.ireturn, 1, 1, 0, 0) ∈ kL_law := List.mem_of_getElem? (i := 396) (by decide +kernel)
set_option maxRecDepth 10000 in
theorem eL_law_619 : (619, Instr.aload_n 1, 1, 0, 0, 0) ∈ kL_law := List.mem_of_getElem? (i := 397) (by decide +kernel)
set_option maxRecDepth 10000 in
theorem eL_law_620 : (620, Instr.aload_n 0, 1, 0, 0, 0) ∈ kL_law := List.mem_of_getElem? (i := 398) (by decide +kernel)
set_option maxRecDepth 10000 in
theorem eL_law_621 : (621, Instr.iload_n 3, 1, 0, 0, 0) ∈ kL_law := List.mem_of_getElem? (i := 399) (by decide +kernel)
set_option maxRecDepth 10000 in
theorem eL_law_622 : (622, Instr.iconst 1, 1, 0, 0, 0) ∈ kL_law := List.mem_of_getElem? (i := 400) (by decide +kernel)
set_option maxRecDepth 10000 in
theorem eL_law_623 : (623, Instr.iadd, 1, 0, 0, 0) ∈ kL_law := List.mem_of_getElem? (i := 401) (by decide +kernel)
set_option maxRecDepth 10000 in
theorem eL_law_624 : (624, Instr.iaload, 1, 0, 0, 0) ∈ kL_law := List.mem_of_getElem? (i := 402) (by decide +kernel)
set_option maxRecDepth 10000 in
theorem eL_law_625 : (625, Instr.invokevirtual 72, 3, 39, 1, 462) ∈ kL_law := List.mem_of_getElem? (i := 403) (by decide +kernel)
set_option maxRecDepth 10000 in
theorem eL_law_628 : (628, Instr.aload_n 2, 1, 0, 0, 0) ∈ kL_law := List.mem_of_getElem? (i := 404) (by decide +kernel)
set_option maxRecDepth 10000 in
theorem eL_law_629 : (629, Instr.aload_n 0, 1, 0, 0, 0) ∈ kL_law := List.mem_of_getElem? (i := 405) (by decide +kernel)
set_option maxRecDepth 10000 in
theorem eL_law_630 : (630, Instr.iload_n 3, 1, 0, 0, 0) ∈ kL_law := List.mem_of_getElem? (i := 406) (by decide +kernel)
set_option maxRecDepth 10000 in
theorem eL_law_631 : (631, Instr.iconst 1, 1, 0, 0, 0) ∈ kL_law := List.mem_of_getElem? (i := 407) (by decide +kernel)
set_option maxRecDepth 10000 in
theorem eL_law_632 : (632, Instr.iadd, 1, 0, 0, 0) ∈ kL_law := List.mem_of_getElem? (i := 408) (by decide +kernel)
set_option maxRecDepth 10000 in
theorem eL_law_633 : (633, Instr.iaload, 1, 0, 0, 0) ∈ kL_law := List.mem_of_getElem? (i := 409) (by decide +kernel)
set_option maxRecDepth 10000 in
theorem eL_law_634 : (634, Instr.invokevirtual 75, 3, 109, 1, 803) ∈ kL_law := List.mem_of_getElem? (i := 410) (by decide +kernel)
set_option maxRecDepth 10000 in
theorem eL_law_637 : (637, Instr.if_icmp .eq 242, 3, 879, 0, 0) ∈ kL_law := List.mem_of_getElem? (i := 411) (by decide +kernel)
set_option maxRecDepth 10000 in
theorem eL_law_640 : (640, Instr.iconst 0, 1, 0, 0, 0) ∈ kL_law := List.mem_of_getElem? (i := 412) (by decide +kernel)
set_option maxRecDepth 10000 in
theorem eL_law_641 : (641, Instr.ireturn, 1, 1, 0, 0) ∈ kL_law := List.mem_of_getElem? (i := 413) (by decide +kernel)
set_option maxRecDepth 10000 in
theorem eL_law_642 : (642, Instr.aload_n 1, 1, 0, 0, 0) ∈ kL_law := List.mem_of_getElem? (i := 414) (by decide +kernel)
set_option maxRecDepth 10000 in
theorem eL_law_643 : (643, Instr.invokevirtual 76, 3, 40, 0, 478) ∈ kL_law := List.mem_of_getElem? (i := 415) (by decide +kernel)
set_option maxRecDepth 10000 in
theorem eL_law_646 : (646, Instr.aload_n 2, 1, 0, 0, 0) ∈ kL_law := List.mem_of_getElem? (i := 416) (by decide +kernel)
set_option maxRecDepth 10000 in
theorem eL_law_647 : (647, Instr.invokevirtual 79, 3, 110, 0, 807) ∈ kL_law := List.mem_of_getElem? (i := 417) (by decide +kernel)
set_option maxRecDepth 10000 in
theorem eL_law_650 : (650, Instr.if_icmp .eq 229, 3, 879, 0, 0) ∈ kL_law := List.mem_of_getElem? (i := 418) (by decide +kernel)
set_option maxRecDepth 10000 in
theorem eL_law_653 : (653, Instr.iconst 0, 1, 0, 0, 0) ∈ kL_law := List.mem_of_getElem? (i := 419) (by decide +kernel)
set_option maxRecDepth 10000 in
theorem eL_law_654 : (654, Instr.ireturn, 1, 1, 0, 0) ∈ kL_law := List.mem_of_getElem? (i := 420) (by decide +kernel)
set_option maxRecDepth 10000 in
theorem eL_law_655 : (655, Instr.aload_n 1, 1, 0, 0, 0) ∈ kL_law := List.mem_of_getElem? (i := 421) (by decide +kernel)
set_option maxRecDepth 10000 in
theorem eL_law_656 : (656, Instr.aload_n 0, 1, 0, 0, 0) ∈ kL_law := List.mem_of_getElem? (i := 422) (by decide +kernel)
set_option maxRecDepth 10000 in
theorem eL_law_657 : (657, Instr.iload_n 3, 1, 0, 0, 0) ∈ kL_law := List.mem_of_getElem? (i := 423) (by decide +kernel)
set_option maxRecDepth 10000 in
theorem eL_law_658 : (658, Instr.iconst 1, 1, 0, 0, 0) ∈ kL_law := List.mem_of_getElem? (i := 424) (by decide +kernel)
set_option maxRecDepth 10000 in
theorem eL_law_659 : (659, Instr.iadd, 1, 0, 0, 0) ∈ kL_law := List.mem_of_getElem? (i := 425) (by decide +kernel)
set_option maxRecDepth 10000 in
theorem eL_law_660 : (660, Instr.iaload, 1, 0, 0, 0) ∈ kL_law := List.mem_of_getElem? (i := 426) (by decide +kernel)
set_option maxRecDepth 10000 in
theorem eL_law_661 : (661, Instr.aload_n 0, 1, 0, 0, 0) ∈ kL_law := List.mem_of_getElem? (i := 427) (by decide +kernel)
set_option maxRecDepth 10000 in
theorem eL_law_662 : (662, Instr.iload_n 3, 1, 0, 0, 0) ∈ kL_law := List.mem_of_getElem? (i := 428) (by decide +kernel)
set_option maxRecDepth 10000 in
theorem eL_law_663 : (663, Instr.iconst 2, 1, 0, 0, 0) ∈ kL_law := List.mem_of_getElem? (i := 429) (by decide +kernel)
set_option maxRecDepth 10000 in
theorem eL_law_664 : (664, Instr.iadd, 1, 0, 0, 0) ∈ kL_law := List.mem_of_getElem? (i := 430) (by decide +kernel)
set_option maxRecDepth 10000 in
theorem eL_law_665 : (665, Instr.iaload, 1, 0, 0, 0) ∈ kL_law := List.mem_of_getElem? (i := 431) (by decide +kernel)
set_option maxRecDepth 10000 in
theorem eL_law_666 : (666, Instr.invokevirtual 80, 3, 41, 2, 510) ∈ kL_law := List.mem_of_getElem? (i := 432) (by decide +kernel)
set_option maxRecDepth 10000 in
theorem eL_law_669 : (669, Instr.aload_n 2, 1, 0, 0, 0) ∈ kL_law := List.mem_of_getElem? (i := 433) (by decide +kernel)
set_option maxRecDepth 10000 in
theorem eL_law_670 : (670, Instr.aload_n 0, 1, 0, 0, 0) ∈ kL_law := List.mem_of_getElem? (i := 434) (by decide +kernel)
set_option maxRecDepth 10000 in
theorem eL_law_671 : (671, Instr.iload_n 3, 1, 0, 0, 0) ∈ kL_law := List.mem_of_getElem? (i := 435) (by decide +kernel)
set_option maxRecDepth 10000 in
theorem eL_law_672 : (672, Instr.iconst 1, 1, 0, 0, 0) ∈ kL_law := List.mem_of_getElem? (i := 436) (by decide +kernel)
set_option maxRecDepth 10000 in
theorem eL_law_673 : (673, Instr.iadd, 1, 0, 0, 0) ∈ kL_law := List.mem_of_getElem? (i := 437) (by decide +kernel)
set_option maxRecDepth 10000 in
theorem eL_law_674 : (674, Instr.iaload, 1, 0, 0, 0) ∈ kL_law := List.mem_of_getElem? (i := 438) (by decide +kernel)
set_option maxRecDepth 10000 in
theorem eL_law_675 : (675, Instr.aload_n 0, 1, 0, 0, 0) ∈ kL_law := List.mem_of_getElem? (i := 439) (by decide +kernel)
set_option maxRecDepth 10000 in
theorem eL_law_676 : (676, Instr.iload_n 3, 1, 0, 0, 0) ∈ kL_law := List.mem_of_getElem? (i := 440) (by decide +kernel)
set_option maxRecDepth 10000 in
theorem eL_law_677 : (677, Instr.iconst 2, 1, 0, 0, 0) ∈ kL_law := List.mem_of_getElem? (i := 441) (by decide +kernel)
set_option maxRecDepth 10000 in
theorem eL_law_678 : (678, Instr.iadd, 1, 0, 0, 0) ∈ kL_law := List.mem_of_getElem? (i := 442) (by decide +kernel)
set_option maxRecDepth 10000 in
theorem eL_law_679 : (679, Instr.iaload, 1, 0, 0, 0) ∈ kL_law := List.mem_of_getElem? (i := 443) (by decide +kernel)
set_option maxRecDepth 10000 in
theorem eL_law_680 : (680, Instr.invokevirtual 84, 3, 111, 2, 811) ∈ kL_law := List.mem_of_getElem? (i := 444) (by decide +kernel)
set_option maxRecDepth 10000 in
theorem eL_law_683 : (683, Instr.if_icmp .eq 196, 3, 879, 0, 0) ∈ kL_law := List.mem_of_getElem? (i := 445) (by decide +kernel)
set_option maxRecDepth 10000 in
theorem eL_law_686 : (686, Instr.iconst 0, 1, 0, 0, 0) ∈ kL_law := List.mem_of_getElem? (i := 446) (by decide +kernel)
set_option maxRecDepth 10000 in
theorem eL_law_687 : (687, Instr.ireturn, 1, 1, 0, 0) ∈ kL_law := List.mem_of_getElem? (i := 447) (by decide +kernel)
set_option maxRecDepth 10000 in
theorem eL_law_688 : (688, Instr.aload_n 1, 1, 0, 0, 0) ∈ kL_law := List.mem_of_getElem? (i := 448) (by decide +kernel)
set_option maxRecDepth 10000 in
theorem eL_law_689 : (689, Instr.aload_n 0, 1, 0, 0, 0) ∈ kL_law := List.mem_of_getElem? (i := 449) (by decide +kernel)
set_option maxRecDepth 10000 in
theorem eL_law_690 : (690, Instr.iload_n 3, 1, 0, 0, 0) ∈ kL_law := List.mem_of_getElem? (i := 450) (by decide +kernel)
set_option maxRecDepth 10000 in
theorem eL_law_691 : (691, Instr.iconst 1, 1, 0, 0, 0) ∈ kL_law := List.mem_of_getElem? (i := 451) (by decide +kernel)
set_option maxRecDepth 10000 in
theorem eL_law_692 : (692, Instr.iadd, 1, 0, 0, 0) ∈ kL_law := List.mem_of_getElem? (i := 452) (by decide +kernel)
set_option maxRecDepth 10000 in
theorem eL_law_693 : (693, Instr.iaload, 1, 0, 0, 0) ∈ kL_law := List.mem_of_getElem? (i := 453) (by decide +kernel)
set_option maxRecDepth 10000 in
theorem eL_law_694 : (694, Instr.invokevirtual 85, 3, 42, 1, 514) ∈ kL_law := List.mem_of_getElem? (i := 454) (by decide +kernel)
set_option maxRecDepth 10000 in
theorem eL_law_697 : (697, Instr.aload_n 2, 1, 0, 0, 0) ∈ kL_law := List.mem_of_getElem? (i := 455) (by decide +kernel)
set_option maxRecDepth 10000 in
theorem eL_law_698 : (698, Instr.aload_n 0, 1, 0, 0, 0) ∈ kL_law := List.mem_of_getElem? (i := 456) (by decide +kernel)
set_option maxRecDepth 10000 in
theorem eL_law_699 : (699, Instr.iload_n 3, 1, 0, 0, 0) ∈ kL_law := List.mem_of_getElem? (i := 457) (by decide +kernel)
set_option maxRecDepth 10000 in
theorem eL_law_700 : (700, Instr.iconst 1, 1, 0, 0, 0) ∈ kL_law := List.mem_of_getElem? (i := 458) (by decide +kernel)
set_option maxRecDepth 10000 in
theorem eL_law_701 : (701, Instr.iadd, 1, 0, 0, 0) ∈ kL_law := List.mem_of_getElem? (i := 459) (by decide +kernel)
set_option maxRecDepth 10000 in
theorem eL_law_702 : (702, Instr.iaload, 1, 0, 0, 0) ∈ kL_law := List.mem_of_getElem? (i := 460) (by decide +kernel)
set_option maxRecDepth 10000 in
theorem eL_law_703 : (703, Instr.invokevirtual 88, 3, 112, 1, 815) ∈ kL_law := List.mem_of_getElem? (i := 461) (by decide +kernel)
set_option maxRecDepth 10000 in
theorem eL_law_706 : (706, Instr.if_icmp .eq 173, 3, 879, 0, 0) ∈ kL_law := List.mem_of_getElem? (i := 462) (by decide +kernel)
set_option maxRecDepth 10000 in
theorem eL_law_709 : (709, Instr.iconst 0, 1, 0, 0, 0) ∈ kL_law := List.mem_of_getElem? (i := 463) (by decide +kernel)
set_option maxRecDepth 10000 in
theorem eL_law_710 : (710, Instr.ireturn, 1, 1, 0, 0) ∈ kL_law := List.mem_of_getElem? (i := 464) (by decide +kernel)
set_option maxRecDepth 10000 in
theorem eL_law_711 : (711, Instr.aload_n 1, 1, 0, 0, 0) ∈ kL_law := List.mem_of_getElem? (i := 465) (by decide +kernel)
set_option maxRecDepth 10000 in
theorem eL_law_712 : (712, Instr.aload_n 0, 1, 0, 0, 0) ∈ kL_law := List.mem_of_getElem? (i := 466) (by decide +kernel)
set_option maxRecDepth 10000 in
theorem eL_law_713 : (713, Instr.iload_n 3, 1, 0, 0, 0) ∈ kL_law := List.mem_of_getElem? (i := 467) (by decide +kernel)
set_option maxRecDepth 10000 in
theorem eL_law_714 : (714, Instr.iconst 1, 1, 0, 0, 0) ∈ kL_law := List.mem_of_getElem? (i := 468) (by decide +kernel)
set_option maxRecDepth 10000 in
theorem eL_law_715 : (715, Instr.iadd, 1, 0, 0, 0) ∈ kL_law := List.mem_of_getElem? (i := 469) (by decide +kernel)
set_option maxRecDepth 10000 in
theorem eL_law_716 : (716, Instr.iaload, 1, 0, 0, 0) ∈ kL_law := List.mem_of_getElem? (i := 470) (by decide +kernel)
set_option maxRecDepth 10000 in
theorem eL_law_717 : (717, Instr.invokevirtual 89, 3, 43, 1, 519) ∈ kL_law := List.mem_of_getElem? (i := 471) (by decide +kernel)
set_option maxRecDepth 10000 in
theorem eL_law_720 : (720, Instr.aload_n 2, 1, 0, 0, 0) ∈ kL_law := List.mem_of_getElem? (i := 472) (by decide +kernel)
set_option maxRecDepth 10000 in
theorem eL_law_721 : (721, Instr.aload_n 0, 1, 0, 0, 0) ∈ kL_law := List.mem_of_getElem? (i := 473) (by decide +kernel)
set_option maxRecDepth 10000 in
theorem eL_law_722 : (722, Instr.iload_n 3, 1, 0, 0, 0) ∈ kL_law := List.mem_of_getElem? (i := 474) (by decide +kernel)
set_option maxRecDepth 10000 in
theorem eL_law_723 : (723, Instr.iconst 1, 1, 0, 0, 0) ∈ kL_law := List.mem_of_getElem? (i := 475) (by decide +kernel)
set_option maxRecDepth 10000 in
theorem eL_law_724 : (724, Instr.iadd, 1, 0, 0, 0) ∈ kL_law := List.mem_of_getElem? (i := 476) (by decide +kernel)
set_option maxRecDepth 10000 in
theorem eL_law_725 : (725, Instr.iaload, 1, 0, 0, 0) ∈ kL_law := List.mem_of_getElem? (i := 477) (by decide +kernel)
set_option maxRecDepth 10000 in
theorem eL_law_726 : (726, Instr.invokevirtual 93, 3, 113, 1, 819) ∈ kL_law := List.mem_of_getElem? (i := 478) (by decide +kernel)
set_option maxRecDepth 10000 in
theorem eL_law_729 : (729, Instr.if_icmp .eq 150, 3, 879, 0, 0) ∈ kL_law := List.mem_of_getElem? (i := 479) (by decide +kernel)
set_option maxRecDepth 10000 in
theorem eL_law_732 : (732, Instr.iconst 0, 1, 0, 0, 0) ∈ kL_law := List.mem_of_getElem? (i := 480) (by decide +kernel)
set_option maxRecDepth 10000 in
theorem eL_law_733 : (733, Instr.ireturn, 1, 1, 0, 0) ∈ kL_law := List.mem_of_getElem? (i := 481) (by decide +kernel)
set_option maxRecDepth 10000 in
theorem eL_law_734 : (734, Instr.aload_n 1, 1, 0, 0, 0) ∈ kL_law := List.mem_of_getElem? (i := 482) (by decide +kernel)
set_option maxRecDepth 10000 in
theorem eL_law_735 : (735, Instr.aload_n 0, 1, 0, 0, 0) ∈ kL_law := List.mem_of_getElem? (i := 483) (by decide +kernel)
set_option maxRecDepth 10000 in
theorem eL_law_736 : (736, Instr.iload_n 3, 1, 0, 0, 0) ∈ kL_law := List.mem_of_getElem? (i := 484) (by decide +kernel)
set_option maxRecDepth 10000 in
theorem eL_law_737 : (737, Instr.iconst 1, 1, 0, 0, 0) ∈ kL_law := List.mem_of_getElem? (i := 485) (by decide +kernel)
set_option maxRecDepth 10000 in
theorem eL_law_738 : (738, Instr.iadd, 1, 0, 0, 0) ∈ kL_law := List.mem_of_getElem? (i := 486) (by decide +kernel)
set_option maxRecDepth 10000 in
theorem eL_law_739 : (739, Instr.iaload, 1, 0, 0, 0) ∈ kL_law := List.mem_of_getElem? (i := 487) (by decide +kernel)
set_option maxRecDepth 10000 in
theorem eL_law_740 : (740, Instr.invokevirtual 94, 3, 44, 1, 527) ∈ kL_law := List.mem_of_getElem? (i := 488) (by decide +kernel)
set_option maxRecDepth 10000 in
theorem eL_law_743 : (743, Instr.aload_n 2, 1, 0, 0, 0) ∈ kL_law := List.mem_of_getElem? (i := 489) (by decide +kernel)
set_option maxRecDepth 10000 in
theorem eL_law_744 : (744, Instr.aload_n 0, 1, 0, 0, 0) ∈ kL_law := List.mem_of_getElem? (i := 490) (by decide +kernel)
set_option maxRecDepth 10000 in
theorem eL_law_745 : (745, Instr.iload_n 3, 1, 0, 0, 0) ∈ kL_law := List.mem_of_getElem? (i := 491) (by decide +kernel)
set_option maxRecDepth 10000 in
theorem eL_law_746 : (746, Instr.iconst 1, 1, 0, 0, 0) ∈ kL_law := List.mem_of_getElem? (i := 492) (by decide +kernel)
set_option maxRecDepth 10000 in
theorem eL_law_747 : (747, Instr.iadd, 1, 0, 0, 0) ∈ kL_law := List.mem_of_getElem? (i := 493) (by decide +kernel)
set_option maxRecDepth 10000 in
theorem eL_law_748 : (748, Instr.iaload, 1, 0, 0, 0) ∈ kL_law := List.mem_of_getElem? (i := 494) (by decide +kernel)
set_option maxRecDepth 10000 in
theorem eL_law_749 : (749, Instr.invokevirtual 97, 3, 114, 1, 823) ∈ kL_law := List.mem_of_getElem? (i := 495) (by decide +kernel)
set_option maxRecDepth 10000 in
theorem eL_law_752 : (752, Instr.if_icmp .eq 127, 3, 879, 0, 0) ∈ kL_law := List.mem_of_getElem? (i := 496) (by decide +kernel)
set_option maxRecDepth 10000 in
theorem eL_law_755 : (755, Instr.iconst 0, 1, 0, 0, 0) ∈ kL_law := List.mem_of_getElem? (i := 497) (by decide +kernel)
set_option maxRecDepth 10000 in
theorem eL_law_756 : (756, Instr.ireturn, 1, 1, 0, 0) ∈ kL_law := List.mem_of_getElem? (i := 498) (by decide +kernel)
set_option maxRecDepth 10000 in
theorem eL_law_757 : (757, Instr.aload_n 1, 1, 0, 0, 0) ∈ kL_law := List.mem_of_getElem? (i := 499) (by decide +kernel)
set_option maxRecDepth 10000 in
theorem eL_law_758 : (758, Instr.aload_n 0, 1, 0, 0, 0) ∈ kL_law := List.mem_of_getElem? (i := 500) (by decide +kernel)
set_option maxRecDepth 10000 in
theorem eL_law_759 : (759, Instr.iload_n 3, 1, 0, 0, 0) ∈ kL_law := List.mem_of_getElem? (i := 501) (by decide +kernel)
set_option maxRecDepth 10000 in
theorem eL_law_760 : (760, Instr.iconst 1, 1, 0, 0, 0) ∈ kL_law := List.mem_of_getElem? (i := 502) (by decide +kernel)
set_option maxRecDepth 10000 in
theorem eL_law_761 : (761, Instr.iadd, 1, 0, 0, 0) ∈ kL_law := List.mem_of_getElem? (i := 503) (by decide +kernel)
set_option maxRecDepth 10000 in
theorem eL_law_762 : (762, Instr.iaload, 1, 0, 0, 0) ∈ kL_law := List.mem_of_getElem? (i := 504) (by decide +kernel)
set_option maxRecDepth 10000 in
theorem eL_law_763 : (763, Instr.aload_n 0, 1, 0, 0, 0) ∈ kL_law := List.mem_of_getElem? (i := 505) (by decide +kernel)
set_option maxRecDepth 10000 in
theorem eL_law_764 : (764, Instr.iload_n 3, 1, 0, 0, 0) ∈ kL_law := List.mem_of_getElem? (i := 506) (by decide +kernel)
set_option maxRecDepth 10000 in
theorem eL_law_765 : (765, Instr.iconst 2, 1, 0, 0, 0) ∈ kL_law := List.mem_of_getElem? (i := 507) (by decide +kernel)
set_option maxRecDepth 10000 in
theorem eL_law_766 : (766, Instr.iadd, 1, 0, 0, 0) ∈ kL_law := List.mem_of_getElem? (i := 508) (by decide +kernel)
set_option maxRecDepth 10000 in
theorem eL_law_767 : (767, Instr.iaload, 1, 0, 0, 0) ∈ kL_law := List.mem_of_getElem? (i := 509) (by decide +kernel)
set_option maxRecDepth 10000 in
theorem eL_law_768 : (768, Instr.invokevirtual 98, 3, 45, 2, 531) ∈ kL_law := List.mem_of_getElem? (i := 510) (by decide +kernel)
set_option maxRecDepth 10000 in
theorem eL_law_771 : (771, Instr.aload_n 2, 1, 0, 0, 0) ∈ kL_law := List.mem_of_getElem? (i := 511) (by decide +kernel)
set_option maxRecDepth 10000 in
theorem eL_law_772 : (772, Instr.aload_n 0, 1, 0, 0, 0) ∈ kL_law := List.mem_of_getElem? (i := 512) (by decide +kernel)
set_option maxRecDepth 10000 in
theorem eL_law_773 : (773, Instr.iload_n 3, 1, 0, 0, 0) ∈ kL_law := List.mem_of_getElem? (i := 513) (by decide +kernel)
set_option maxRecDepth 10000 in
theorem eL_law_774 : (774, Instr.iconst 1, 1, 0, 0, 0) ∈ kL_law := List.mem_of_getElem? (i := 514) (by decide +kernel)
set_option maxRecDepth 10000 in
theorem eL_law_775 : (775, Instr.iadd, 1, 0, 0, 0) ∈ kL_law := List.mem_of_getElem? (i := 515) (by decide +kernel)
set_option maxRecDepth 10000 in
theorem eL_law_776 : (776, Instr.iaload, 1, 0, 0, 0) ∈ kL_law := List.mem_of_getElem? (i := 516) (by decide +kernel)
set_option maxRecDepth 10000 in
theorem eL_law_777 : (777, Instr.aload_n 0, 1, 0, 0, 0) ∈ kL_law := List.mem_of_getElem? (i := 517) (by decide +kernel)
set_option maxRecDepth 10000 in
theorem eL_law_778 : (778, Instr.iload_n 3, 1, 0, 0, 0) ∈ kL_law := List.mem_of_getElem? (i := 518) (by decide +kernel)
set_option maxRecDepth 10000 in
theorem eL_law_779 : (779, Instr.iconst 2, 1, 0, 0, 0) ∈ kL_law := List.mem_of_getElem? (i := 519) (by decide +kernel)
set_option maxRecDepth 10000 in
theorem eL_law_780 : (780, Instr.iadd, 1, 0, 0, 0) ∈ kL_law := List.mem_of_getElem? (i := 520) (by decide +kernel)
set_option maxRecDepth 10000 in
theorem eL_law_781 : (781, Instr.iaload, 1, 0, 0, 0) ∈ kL_law := List.mem_of_getElem? (i := 521) (by decide +kernel)
set_option maxRecDepth 10000 in
theorem eL_law_782 : (782, Instr.invokevirtual 101, 3, 115, 2, 827) ∈ kL_law := List.mem_of_getElem? (i := 522) (by decide +kernel)
set_option maxRecDepth 10000 in
theorem eL_law_785 : (785, Instr.if_icmp .eq 94, 3, 879, 0, 0) ∈ kL_law := List.mem_of_getElem? (i := 523) (by decide +kernel)
set_option maxRecDepth 10000 in
theorem eL_law_788 : (788, Instr.iconst 0, 1, 0, 0, 0) ∈ kL_law := List.mem_of_getElem? (i := 524) (by decide +kernel)
set_option maxRecDepth 10000 in
theorem eL_law_789 : (789, Instr.ireturn, 1, 1, 0, 0) ∈ kL_law := List.mem_of_getElem? (i := 525) (by decide +kernel)
set_option maxRecDepth 10000 in
theorem eL_law_790 : (790, Instr.aload_n 1, 1, 0, 0, 0) ∈ kL_law := List.mem_of_getElem? (i := 526) (by decide +kernel)
set_option maxRecDepth 10000 in
theorem eL_law_791 : (791, Instr.aload_n 0, 1, 0, 0, 0) ∈ kL_law := List.mem_of_getElem? (i := 527) (by decide +kernel)
set_option maxRecDepth 10000 in
theorem eL_law_792 : (792, Instr.iload_n 3, 1, 0, 0, 0) ∈ kL_law := List.mem_of_getElem? (i := 528) (by decide +kernel)
set_option maxRecDepth 10000 in
theorem eL_law_793 : (793, Instr.iconst 1, 1, 0, 0, 0) ∈ kL_law := List.mem_of_getElem? (i := 529) (by decide +kernel)
set_option maxRecDepth 10000 in
theorem eL_law_794 : (794, Instr.iadd, 1, 0, 0, 0) ∈ kL_law := List.mem_of_getElem? (i := 530) (by decide +kernel)
set_option maxRecDepth 10000 in
theorem eL_law_795 : (795, Instr.iaload, 1, 0, 0, 0) ∈ kL_law := List.mem_of_getElem? (i := 531) (by decide +kernel)
set_option maxRecDepth 10000 in
theorem eL_law_796 : (796, Instr.aload_n 0, 1, 0, 0, 0) ∈ kL_law := List.mem_of_getElem? (i := 532) (by decide +kernel)
set_option maxRecDepth 10000 in
theorem eL_law_797 : (797, Instr.iload_n 3, 1, 0, 0, 0) ∈ kL_law := List.mem_of_getElem? (i := 533) (by decide +kernel)
set_option maxRecDepth 10000 in
theorem eL_law_798 : (798, Instr.iconst 2, 1, 0, 0, 0) ∈ kL_law := List.mem_of_getElem? (i := 534) (by decide +kernel)
set_option maxRecDepth 10000 in
theorem eL_law_799 : (799, Instr.iadd, 1, 0, 0, 0) ∈ kL_law := List.mem_of_getElem? (i := 535) (by decide +kernel)
set_option maxRecDepth 10000 in
theorem eL_law_800 : (800, Instr.iaload, 1, 0, 0, 0) ∈ kL_law := List.mem_of_getElem? (i := 536) (by decide +kernel)
set_option maxRecDepth 10000 in
theorem eL_law_801 : (801, Instr.invokevirtual 102, 3, 46, 2, 538) ∈ kL_law := List.mem_of_getElem? (i := 537) (by decide +kernel)
set_option maxRecDepth 10000 in
theorem eL_law_804 : (804, Instr.aload_n 2, 1, 0, 0, 0) ∈ kL_law := List.mem_of_getElem? (i := 538) (by decide +kernel)
set_option maxRecDepth 10000 in
theorem eL_law_805 : (805, Instr.aload_n 0, 1, 0, 0, 0) ∈ kL_law := List.mem_of_getElem? (i := 539) (by decide +kernel)
set_option maxRecDepth 10000 in
theorem eL_law_806 : (806, Instr.iload_n 3, 1, 0, 0, 0) ∈ kL_law := List.mem_of_getElem? (i := 540) (by decide +kernel)
set_option maxRecDepth 10000 in
theorem eL_law_807 : (807, Instr.iconst 1, 1, 0, 0, 0) ∈ kL_law := List.mem_of_getElem? (i := 541) (by decide +kernel)
set_option maxRecDepth 10000 in
theorem eL_law_808 : (808, Instr.iadd, 1, 0, 0, 0) ∈ kL_law := List.mem_of_getElem? (i := 542) (by decide +kernel)
set_option maxRecDepth 10000 in
theorem eL_law_809 : (809, Instr.iaload, 1, 0, 0, 0) ∈ kL_law := List.mem_of_getElem? (i := 543) (by decide +kernel)
set_option maxRecDepth 10000 in
theorem eL_law_810 : (810, Instr.aload_n 0, 1, 0, 0, 0) ∈ kL_law := List.mem_of_getElem? (i := 544) (by decide +kernel)
set_option maxRecDepth 10000 in
theorem eL_law_811 : (811, Instr.iload_n 3, 1, 0, 0, 0) ∈ kL_law := List.mem_of_getElem? (i := 545) (by decide +kernel)
set_option maxRecDepth 10000 in
theorem eL_law_812 : (812, Instr.iconst 2, 1, 0, 0, 0) ∈ kL_law := List.mem_of_getElem? (i := 546) (by decide +kernel)
set_option maxRecDepth 10000 in
theorem eL_law_813 : (813, Instr.iadd, 1, 0, 0, 0) ∈ kL_law := List.mem_of_getElem? (i := 547) (by decide +kernel)
set_option maxRecDepth 10000 in
theorem eL_law_814 : (814, Instr.iaload, 1, 0, 0, 0) ∈ kL_law := List.mem_of_getElem? (i := 548) (by decide +kernel)
set_option maxRecDepth 10000 in
theorem eL_law_815 : (815, Instr.invokevirtual 105, 3, 116, 2, 831) ∈ kL_law := List.mem_of_getElem? (i := 549) (by decide +kernel)
set_option maxRecDepth 10000 in
theorem eL_law_818 : (818, Instr.if_icmp .eq 61, 3, 879, 0, 0) ∈ kL_law := List.mem_of_getElem? (i := 550) (by decide +kernel)
set_option maxRecDepth 10000 in
theorem eL_law_821 : (821, Instr.iconst 0, 1, 0, 0, 0) ∈ kL_law := List.mem_of_getElem? (i := 551) (by decide +kernel)
set_option maxRecDepth 10000 in
theorem eL_law_822 : (822, Instr.ireturn, 1, 1, 0, 0) ∈ kL_law := List.mem_of_getElem? (i := 552) (by decide +kernel)
set_option maxRecDepth 10000 in
theorem eL_law_823 : (823, Instr.aload_n 1, 1, 0, 0, 0) ∈ kL_law := List.mem_of_getElem? (i := 553) (by decide +kernel)
set_option maxRecDepth 10000 in
theorem eL_law_824 : (824, Instr.aload_n 0, 1, 0, 0, 0) ∈ kL_law := List.mem_of_getElem? (i := 554) (by decide +kernel)
set_option maxRecDepth 10000 in
theorem eL_law_825 : (825, Instr.iload_n 3, 1, 0, 0, 0) ∈ kL_law := List.mem_of_getElem? (i := 555) (by decide +kernel)
set_option maxRecDepth 10000 in
theorem eL_law_826 : (826, Instr.iconst 1, 1, 0, 0, 0) ∈ kL_law := List.mem_of_getElem? (i := 556) (by decide +kernel)
set_option maxRecDepth 10000 in
theorem eL_law_827 : (827, Instr.iadd, 1, 0, 0, 0) ∈ kL_law := List.mem_of_getElem? (i := 557) (by decide +kernel)
set_option maxRecDepth 10000 in
theorem eL_law_828 : (828, Instr.iaload, 1, 0, 0, 0) ∈ kL_law := List.mem_of_getElem? (i := 558) (by decide +kernel)
set_option maxRecDepth 10000 in
theorem eL_law_829 : (829, Instr.aload_n 0, 1, 0, 0, 0) ∈ kL_law := List.mem_of_getElem? (i := 559) (by decide +kernel)
set_option maxRecDepth 10000 in
theorem eL_law_830 : (830, Instr.iload_n 3, 1, 0, 0, 0) ∈ kL_law := List.mem_of_getElem? (i := 560) (by decide +kernel)
set_option maxRecDepth 10000 in
theorem eL_law_831 : (831, Instr.iconst 2, 1, 0, 0, 0) ∈ kL_law := List.mem_of_getElem? (i := 561) (by decide +kernel)
set_option maxRecDepth 10000 in
theorem eL_law_832 : (832, Instr.iadd, 1, 0, 0, 0) ∈ kL_law := List.mem_of_getElem? (i := 562) (by decide +kernel)
set_option maxRecDepth 10000 in
theorem eL_law_833 : (833, Instr.iaload, 1, 0, 0, 0) ∈ kL_law := List.mem_of_getElem? (i := 563) (by decide +kernel)
set_option maxRecDepth 10000 in
theorem eL_law_834 : (834, Instr.invokevirtual 106, 3, 47, 2, 547) ∈ kL_law := List.mem_of_getElem? (i := 564) (by decide +kernel)
set_option maxRecDepth 10000 in
theorem eL_law_837 : (837, Instr.aload_n 2, 1, 0, 0, 0) ∈ kL_law := List.mem_of_getElem? (i := 565) (by decide +kernel)
set_option maxRecDepth 10000 in
theorem eL_law_838 : (838, Instr.aload_n 0, 1, 0, 0, 0) ∈ kL_law := List.mem_of_getElem? (i := 566) (by decide +kernel)
set_option maxRecDepth 10000 in
theorem eL_law_839 : (839, Instr.iload_n 3, 1, 0, 0, 0) ∈ kL_law := List.mem_of_getElem? (i := 567) (by decide +kernel)
set_option maxRecDepth 10000 in
theorem eL_law_840 : (840, Instr.iconst 1, 1, 0, 0, 0) ∈ kL_law := List.mem_of_getElem? (i := 568) (by decide +kernel)
set_option maxRecDepth 10000 in
theorem eL_law_841 : (841, Instr.iadd, 1, 0, 0, 0) ∈ kL_law := List.mem_of_getElem? (i := 569) (by decide +kernel)
set_option maxRecDepth 10000 in
theorem eL_law_842 : (842, Instr.iaload, 1, 0, 0, 0) ∈ kL_law := List.mem_of_getElem? (i := 570) (by decide +kernel)
set_option maxRecDepth 10000 in
theorem eL_law_843 : (843, Instr.aload_n 0, 1, 0, 0, 0) ∈ kL_law := List.mem_of_getElem? (i := 571) (by decide +kernel)
set_option maxRecDepth 10000 in
theorem eL_law_844 : (844, Instr.iload_n 3, 1, 0, 0, 0) ∈ kL_law := List.mem_of_getElem? (i := 572) (by decide +kernel)
set_option maxRecDepth 10000 in
theorem eL_law_845 : (845, Instr.iconst 2, 1, 0, 0, 0) ∈ kL_law := List.mem_of_getElem? (i := 573) (by decide +kernel)
set_option maxRecDepth 10000 in
theorem eL_law_846 : (846, Instr.iadd, 1, 0, 0, 0) ∈ kL_law := List.mem_of_getElem? (i := 574) (by decide +kernel)
set_option maxRecDepth 10000 in
theorem eL_law_847 : (847, Instr.iaload, 1, 0, 0, 0) ∈ kL_law := List.mem_of_getElem? (i := 575) (by decide +kernel)
set_option maxRecDepth 10000 in
theorem eL_law_848 : (848, Instr.invokevirtual 109, 3, 117, 2, 835) ∈ kL_law := List.mem_of_getElem? (i := 576) (by decide +kernel)
set_option maxRecDepth 10000 in
theorem eL_law_851 : (851, Instr.if_icmp .eq 28, 3, 879, 0, 0) ∈ kL_law := List.mem_of_getElem? (i := 577) (by decide +kernel)
set_option maxRecDepth 10000 in
theorem eL_law_854 : (854, Instr.iconst 0, 1, 0, 0, 0) ∈ kL_law := List.mem_of_getElem? (i := 578) (by decide +kernel)
set_option maxRecDepth 10000 in
theorem eL_law_855 : (855, Instr.ireturn, 1, 1, 0, 0) ∈ kL_law := List.mem_of_getElem? (i := 579) (by decide +kernel)
set_option maxRecDepth 10000 in
theorem eL_law_856 : (856, Instr.aload_n 1, 1, 0, 0, 0) ∈ kL_law := List.mem_of_getElem? (i := 580) (by decide +kernel)
set_option maxRecDepth 10000 in
theorem eL_law_857 : (857, Instr.aload_n 0, 1, 0, 0, 0) ∈ kL_law := List.mem_of_getElem? (i := 581) (by decide +kernel)
set_option maxRecDepth 10000 in
theorem eL_law_858 : (858, Instr.iload_n 3, 1, 0, 0, 0) ∈ kL_law := List.mem_of_getElem? (i := 582) (by decide +kernel)
set_option maxRecDepth 10000 in
theorem eL_law_859 : (859, Instr.iconst 1, 1, 0, 0, 0) ∈ kL_law := List.mem_of_getElem? (i := 583) (by decide +kernel)
set_option maxRecDepth 10000 in
theorem eL_law_860 : (860, Instr.iadd, 1, 0, 0, 0) ∈ kL_law := List.mem_of_getElem? (i := 584) (by decide +kernel)
set_option maxRecDepth 10000 in
theorem eL_law_861 : (861, Instr.iaload, 1, 0, 0, 0) ∈ kL_law := List.mem_of_getElem? (i := 585) (by decide +kernel)
set_option maxRecDepth 10000 in
theorem eL_law_862 : (862, Instr.invokevirtual 110, 3, 48, 1, 551) ∈ kL_law := List.mem_of_getElem? (i := 586) (by decide +kernel)
set_option maxRecDepth 10000 in
theorem eL_law_865 : (865, Instr.aload_n 2, 1, 0, 0, 0) ∈ kL_law := List.mem_of_getElem? (i := 587) (by decide +kernel)
set_option maxRecDepth 10000 in
theorem eL_law_866 : (866, Instr.aload_n 0, 1, 0, 0, 0) ∈ kL_law := List.mem_of_getElem? (i := 588) (by decide +kernel)
set_option maxRecDepth 10000 in
theorem eL_law_867 : (867, Instr.iload_n 3, 1, 0, 0, 0) ∈ kL_law := List.mem_of_getElem? (i := 589) (by decide +kernel)
set_option maxRecDepth 10000 in
theorem eL_law_868 : (868, Instr.iconst 1, 1, 0, 0, 0) ∈ kL_law := List.mem_of_getElem? (i := 590) (by decide +kernel)
set_option maxRecDepth 10000 in
theorem eL_law_869 : (869, Instr.iadd, 1, 0, 0, 0) ∈ kL_law := List.mem_of_getElem? (i := 591) (by decide +kernel)
set_option maxRecDepth 10000 in
theorem eL_law_870 : (870, Instr.iaload, 1, 0, 0, 0) ∈ kL_law := List.mem_of_getElem? (i := 592) (by decide +kernel)
set_option maxRecDepth 10000 in
theorem eL_law_871 : (871, Instr.invokevirtual 113, 3, 118, 1, 839) ∈ kL_law := List.mem_of_getElem? (i := 593) (by decide +kernel)
set_option maxRecDepth 10000 in
theorem eL_law_874 : (874, Instr.if_icmp .eq 5, 3, 879, 0, 0) ∈ kL_law := List.mem_of_getElem? (i := 594) (by decide +kernel)
set_option maxRecDepth 10000 in
theorem eL_law_877 : (877, Instr.iconst 0, 1, 0, 0, 0) ∈ kL_law := List.mem_of_getElem? (i := 595) (by decide +kernel)
set_option maxRecDepth 10000 in
theorem eL_law_878 : (878, Instr.ireturn, 1, 1, 0, 0) ∈ kL_law := List.mem_of_getElem? (i := 596) (by decide +kernel)
set_option maxRecDepth 10000 in
theorem eL_law_879 : (879, Instr.iinc 3 7, 3, 0, 0, 0) ∈ kL_law := List.mem_of_getElem? (i := 597) (by decide +kernel)
set_option maxRecDepth 10000 in
theorem eL_law_882 : (882, Instr.goto (-864), 3, 18, 0, 0) ∈ kL_law := List.mem_of_getElem? (i := 598) (by decide +kernel)
set_option maxRecDepth 10000 in
theorem eL_law_885 : (885, Instr.iconst 1, 1, 0, 0, 0) ∈ kL_law := List.mem_of_getElem? (i := 599) (by decide +kernel)
set_option maxRecDepth 10000 in
theorem eL_law_886 : (886, Instr.ireturn, 1, 1, 0, 0) ∈ kL_law := List.mem_of_getElem? (i := 600) (by decide +kernel)
