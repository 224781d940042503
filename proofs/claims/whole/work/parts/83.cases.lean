/-! ===== the law, case by case ===== -/
section CASES
variable {p : Program} {l : Launch} {e : Env} {s : State} {m : MethodId} {below : List Frame} {meth : Method} {c : Code} {sb : Nat} {g : zG} {k n : Nat} {F : Nat → Nat → Int} {Lf : Nat → Int} {im : Nat → Option Nat} {ci : Nat}
theorem law_hours (hC : zC RL code 4 ret meth.name p s m #[Value.ref sb] meth c) {L : Nat} {xs : Nat → Int32} (hX : va_X sb L xs s s.heap) (hbl : sb < s.heap.size) (hg : g.2.1 = s.heap.size) (hL : L ≤ 2560) {i : Nat} (hi : i + 5 ≤ L) (hR : Rl g F im ci) (hk : k + 7 ≤ 600000) (hn : n + 750 ≤ 7302250) (kk : ∀ (F2 : Nat → Nat → Int) (L2 : Nat → Int) (im2 : Nat → Option Nat) (c2 : Nat), Rl g F2 im2 c2 → zY p l e s m below meth c sb g (k + 7) (n + 750) 745 [some (.ref sb), some (.ref (g.2.1 + 0)), some (.ref (g.2.1 + 23)), some (.int (iz (i : Int)))] [] (zk g F2 L2 im2 c2)) : zY p l e s m below meth c sb g k n 124 [some (.ref sb), some (.ref (g.2.1 + 0)), some (.ref (g.2.1 + 23)), some (.int (iz (i : Int)))] [] (zk g F Lf im ci) := by
  refine y_aload_n hC (pc := 124) rfl dL_law_124 ?_
  refine y_aload_n hC (pc := 125) rfl dL_law_125 ?_
  refine y_iload_n hC (pc := 126) rfl dL_law_126 ?_
  refine y_iconst hC (pc := 127) dL_law_127 ?_
  refine y_iadd hC (pc := 128) dL_law_128 ?_
  refine y_sld hC (pc := 129) hX hbl hg hL (j := i + 1) (by omega) (by omega) dL_law_129 ?_
  refine y_V1 hC (pc := 130) (q0 := 0) (sp_hours hR (ir_toInt _)) lk_L_13 iv_X4_hours rfl rfl ⟨by decide, by decide⟩ (Nat.le_of_ble_eq_true rfl) ⟨by show _ ≤ 600000; omega, by show _ ≤ 7302250; omega⟩ dL_law_130 (fun r h9 hq => ?_)
  obtain ⟨v, F1, im1, c1, rfl, rfl, hM⟩ := hq
  refine y_r1 ?_
  refine y_aload_n hC (pc := 133) rfl dL_law_133 ?_
  refine y_aload_n hC (pc := 134) rfl dL_law_134 ?_
  refine y_iload_n hC (pc := 135) rfl dL_law_135 ?_
  refine y_iconst hC (pc := 136) dL_law_136 ?_
  refine y_iadd hC (pc := 137) dL_law_137 ?_
  refine y_sld hC (pc := 138) hX hbl hg hL (j := i + 1) (by omega) (by omega) dL_law_138 ?_
  refine y_V1 hC (pc := 139) (q0 := 23) hM lk_L_17 iv_X5_hours rfl rfl ⟨by decide, by decide⟩ (Nat.le_of_ble_eq_true rfl) ⟨by show _ ≤ 600000; omega, by show _ ≤ 7302250; omega⟩ dL_law_139 (fun r h9 hq => ?_)
  obtain ⟨rfl, F2, L2, rfl, hR2⟩ := hq
  refine y_r1 ?_
  refine y_same hC (pc := 142) 745 (by decide) dL_law_142 ?_
  refine y_wide (k2 := k + 7) (n2 := n + 750) (by omega) (by omega) ?_
  exact kk F2 L2 im1 c1 hR2
theorem law_kind (hC : zC RL code 4 ret meth.name p s m #[Value.ref sb] meth c) {L : Nat} {xs : Nat → Int32} (hX : va_X sb L xs s s.heap) (hbl : sb < s.heap.size) (hg : g.2.1 = s.heap.size) (hL : L ≤ 2560) {i : Nat} (hi : i + 5 ≤ L) (hR : Rl g F im ci) (hk : k + 7 ≤ 600000) (hn : n + 750 ≤ 7302250) (kk : ∀ (F2 : Nat → Nat → Int) (L2 : Nat → Int) (im2 : Nat → Option Nat) (c2 : Nat), Rl g F2 im2 c2 → zY p l e s m below meth c sb g (k + 7) (n + 750) 745 [some (.ref sb), some (.ref (g.2.1 + 0)), some (.ref (g.2.1 + 23)), some (.int (iz (i : Int)))] [] (zk g F2 L2 im2 c2)) : zY p l e s m below meth c sb g k n 147 [some (.ref sb), some (.ref (g.2.1 + 0)), some (.ref (g.2.1 + 23)), some (.int (iz (i : Int)))] [] (zk g F Lf im ci) := by
  refine y_aload_n hC (pc := 147) rfl dL_law_147 ?_
  refine y_aload_n hC (pc := 148) rfl dL_law_148 ?_
  refine y_iload_n hC (pc := 149) rfl dL_law_149 ?_
  refine y_iconst hC (pc := 150) dL_law_150 ?_
  refine y_iadd hC (pc := 151) dL_law_151 ?_
  refine y_sld hC (pc := 152) hX hbl hg hL (j := i + 1) (by omega) (by omega) dL_law_152 ?_
  refine y_V1 hC (pc := 153) (q0 := 0) (sp_kind hR (ir_toInt _)) lk_L_18 iv_X4_kind rfl rfl ⟨by decide, by decide⟩ (Nat.le_of_ble_eq_true rfl) ⟨by show _ ≤ 600000; omega, by show _ ≤ 7302250; omega⟩ dL_law_153 (fun r h9 hq => ?_)
  obtain ⟨v, F1, im1, c1, rfl, rfl, hM⟩ := hq
  refine y_r1 ?_
  refine y_aload_n hC (pc := 156) rfl dL_law_156 ?_
  refine y_aload_n hC (pc := 157) rfl dL_law_157 ?_
  refine y_iload_n hC (pc := 158) rfl dL_law_158 ?_
  refine y_iconst hC (pc := 159) dL_law_159 ?_
  refine y_iadd hC (pc := 160) dL_law_160 ?_
  refine y_sld hC (pc := 161) hX hbl hg hL (j := i + 1) (by omega) (by omega) dL_law_161 ?_
  refine y_V1 hC (pc := 162) (q0 := 23) hM lk_L_22 iv_X5_kind rfl rfl ⟨by decide, by decide⟩ (Nat.le_of_ble_eq_true rfl) ⟨by show _ ≤ 600000; omega, by show _ ≤ 7302250; omega⟩ dL_law_162 (fun r h9 hq => ?_)
  obtain ⟨rfl, F2, L2, rfl, hR2⟩ := hq
  refine y_r1 ?_
  refine y_same hC (pc := 165) 745 (by decide) dL_law_165 ?_
  refine y_wide (k2 := k + 7) (n2 := n + 750) (by omega) (by omega) ?_
  exact kk F2 L2 im1 c1 hR2
theorem law_offer (hC : zC RL code 4 ret meth.name p s m #[Value.ref sb] meth c) {L : Nat} {xs : Nat → Int32} (hX : va_X sb L xs s s.heap) (hbl : sb < s.heap.size) (hg : g.2.1 = s.heap.size) (hL : L ≤ 2560) {i : Nat} (hi : i + 5 ≤ L) (hR : Rl g F im ci) (hk : k + 7 ≤ 600000) (hn : n + 750 ≤ 7302250) (kk : ∀ (F2 : Nat → Nat → Int) (L2 : Nat → Int) (im2 : Nat → Option Nat) (c2 : Nat), Rl g F2 im2 c2 → zY p l e s m below meth c sb g (k + 7) (n + 750) 745 [some (.ref sb), some (.ref (g.2.1 + 0)), some (.ref (g.2.1 + 23)), some (.int (iz (i : Int)))] [] (zk g F2 L2 im2 c2)) : zY p l e s m below meth c sb g k n 170 [some (.ref sb), some (.ref (g.2.1 + 0)), some (.ref (g.2.1 + 23)), some (.int (iz (i : Int)))] [] (zk g F Lf im ci) := by
  refine y_aload_n hC (pc := 170) rfl dL_law_170 ?_
  refine y_aload_n hC (pc := 171) rfl dL_law_171 ?_
  refine y_iload_n hC (pc := 172) rfl dL_law_172 ?_
  refine y_iconst hC (pc := 173) dL_law_173 ?_
  refine y_iadd hC (pc := 174) dL_law_174 ?_
  refine y_sld hC (pc := 175) hX hbl hg hL (j := i + 1) (by omega) (by omega) dL_law_175 ?_
  refine y_aload_n hC (pc := 176) rfl dL_law_176 ?_
  refine y_iload_n hC (pc := 177) rfl dL_law_177 ?_
  refine y_iconst hC (pc := 178) dL_law_178 ?_
  refine y_iadd hC (pc := 179) dL_law_179 ?_
  refine y_sld hC (pc := 180) hX hbl hg hL (j := i + 2) (by omega) (by omega) dL_law_180 ?_
  refine y_aload_n hC (pc := 181) rfl dL_law_181 ?_
  refine y_iload_n hC (pc := 182) rfl dL_law_182 ?_
  refine y_iconst hC (pc := 183) dL_law_183 ?_
  refine y_iadd hC (pc := 184) dL_law_184 ?_
  refine y_sld hC (pc := 185) hX hbl hg hL (j := i + 3) (by omega) (by omega) dL_law_185 ?_
  refine y_V3 hC (pc := 186) (q0 := 0) (sp_offer hR (ir_toInt _) (ir_toInt _) (ir_toInt _)) lk_L_23 iv_X4_offer rfl rfl ⟨by decide, by decide⟩ (Nat.le_of_ble_eq_true rfl) ⟨by show _ ≤ 600000; omega, by show _ ≤ 7302250; omega⟩ dL_law_186 (fun r h9 hq => ?_)
  obtain ⟨v, F1, im1, c1, rfl, rfl, hM⟩ := hq
  refine y_r1 ?_
  refine y_aload_n hC (pc := 189) rfl dL_law_189 ?_
  refine y_aload_n hC (pc := 190) rfl dL_law_190 ?_
  refine y_iload_n hC (pc := 191) rfl dL_law_191 ?_
  refine y_iconst hC (pc := 192) dL_law_192 ?_
  refine y_iadd hC (pc := 193) dL_law_193 ?_
  refine y_sld hC (pc := 194) hX hbl hg hL (j := i + 1) (by omega) (by omega) dL_law_194 ?_
  refine y_aload_n hC (pc := 195) rfl dL_law_195 ?_
  refine y_iload_n hC (pc := 196) rfl dL_law_196 ?_
  refine y_iconst hC (pc := 197) dL_law_197 ?_
  refine y_iadd hC (pc := 198) dL_law_198 ?_
  refine y_sld hC (pc := 199) hX hbl hg hL (j := i + 2) (by omega) (by omega) dL_law_199 ?_
  refine y_aload_n hC (pc := 200) rfl dL_law_200 ?_
  refine y_iload_n hC (pc := 201) rfl dL_law_201 ?_
  refine y_iconst hC (pc := 202) dL_law_202 ?_
  refine y_iadd hC (pc := 203) dL_law_203 ?_
  refine y_sld hC (pc := 204) hX hbl hg hL (j := i + 3) (by omega) (by omega) dL_law_204 ?_
  refine y_V3 hC (pc := 205) (q0 := 23) hM lk_L_27 iv_X5_offer rfl rfl ⟨by decide, by decide⟩ (Nat.le_of_ble_eq_true rfl) ⟨by show _ ≤ 600000; omega, by show _ ≤ 7302250; omega⟩ dL_law_205 (fun r h9 hq => ?_)
  obtain ⟨rfl, F2, L2, rfl, hR2⟩ := hq
  refine y_r1 ?_
  refine y_same hC (pc := 208) 745 (by decide) dL_law_208 ?_
  refine y_wide (k2 := k + 7) (n2 := n + 750) (by omega) (by omega) ?_
  exact kk F2 L2 im1 c1 hR2
theorem law_reprice (hC : zC RL code 4 ret meth.name p s m #[Value.ref sb] meth c) {L : Nat} {xs : Nat → Int32} (hX : va_X sb L xs s s.heap) (hbl : sb < s.heap.size) (hg : g.2.1 = s.heap.size) (hL : L ≤ 2560) {i : Nat} (hi : i + 5 ≤ L) (hR : Rl g F im ci) (hk : k + 7 ≤ 600000) (hn : n + 750 ≤ 7302250) (kk : ∀ (F2 : Nat → Nat → Int) (L2 : Nat → Int) (im2 : Nat → Option Nat) (c2 : Nat), Rl g F2 im2 c2 → zY p l e s m below meth c sb g (k + 7) (n + 750) 745 [some (.ref sb), some (.ref (g.2.1 + 0)), some (.ref (g.2.1 + 23)), some (.int (iz (i : Int)))] [] (zk g F2 L2 im2 c2)) : zY p l e s m below meth c sb g k n 213 [some (.ref sb), some (.ref (g.2.1 + 0)), some (.ref (g.2.1 + 23)), some (.int (iz (i : Int)))] [] (zk g F Lf im ci) := by
  refine y_aload_n hC (pc := 213) rfl dL_law_213 ?_
  refine y_aload_n hC (pc := 214) rfl dL_law_214 ?_
  refine y_iload_n hC (pc := 215) rfl dL_law_215 ?_
  refine y_iconst hC (pc := 216) dL_law_216 ?_
  refine y_iadd hC (pc := 217) dL_law_217 ?_
  refine y_sld hC (pc := 218) hX hbl hg hL (j := i + 1) (by omega) (by omega) dL_law_218 ?_
  refine y_aload_n hC (pc := 219) rfl dL_law_219 ?_
  refine y_iload_n hC (pc := 220) rfl dL_law_220 ?_
  refine y_iconst hC (pc := 221) dL_law_221 ?_
  refine y_iadd hC (pc := 222) dL_law_222 ?_
  refine y_sld hC (pc := 223) hX hbl hg hL (j := i + 2) (by omega) (by omega) dL_law_223 ?_
  refine y_V2 hC (pc := 224) (q0 := 0) (sp_reprice hR (ir_toInt _) (ir_toInt _)) lk_L_28 iv_X4_reprice rfl rfl ⟨by decide, by decide⟩ (Nat.le_of_ble_eq_true rfl) ⟨by show _ ≤ 600000; omega, by show _ ≤ 7302250; omega⟩ dL_law_224 (fun r h9 hq => ?_)
  obtain ⟨v, F1, im1, c1, rfl, rfl, hM⟩ := hq
  refine y_r1 ?_
  refine y_aload_n hC (pc := 227) rfl dL_law_227 ?_
  refine y_aload_n hC (pc := 228) rfl dL_law_228 ?_
  refine y_iload_n hC (pc := 229) rfl dL_law_229 ?_
  refine y_iconst hC (pc := 230) dL_law_230 ?_
  refine y_iadd hC (pc := 231) dL_law_231 ?_
  refine y_sld hC (pc := 232) hX hbl hg hL (j := i + 1) (by omega) (by omega) dL_law_232 ?_
  refine y_aload_n hC (pc := 233) rfl dL_law_233 ?_
  refine y_iload_n hC (pc := 234) rfl dL_law_234 ?_
  refine y_iconst hC (pc := 235) dL_law_235 ?_
  refine y_iadd hC (pc := 236) dL_law_236 ?_
  refine y_sld hC (pc := 237) hX hbl hg hL (j := i + 2) (by omega) (by omega) dL_law_237 ?_
  refine y_V2 hC (pc := 238) (q0 := 23) hM lk_L_32 iv_X5_reprice rfl rfl ⟨by decide, by decide⟩ (Nat.le_of_ble_eq_true rfl) ⟨by show _ ≤ 600000; omega, by show _ ≤ 7302250; omega⟩ dL_law_238 (fun r h9 hq => ?_)
  obtain ⟨rfl, F2, L2, rfl, hR2⟩ := hq
  refine y_r1 ?_
  refine y_same hC (pc := 241) 745 (by decide) dL_law_241 ?_
  refine y_wide (k2 := k + 7) (n2 := n + 750) (by omega) (by omega) ?_
  exact kk F2 L2 im1 c1 hR2
theorem law_need (hC : zC RL code 4 ret meth.name p s m #[Value.ref sb] meth c) {L : Nat} {xs : Nat → Int32} (hX : va_X sb L xs s s.heap) (hbl : sb < s.heap.size) (hg : g.2.1 = s.heap.size) (hL : L ≤ 2560) {i : Nat} (hi : i + 5 ≤ L) (hR : Rl g F im ci) (hk : k + 7 ≤ 600000) (hn : n + 750 ≤ 7302250) (kk : ∀ (F2 : Nat → Nat → Int) (L2 : Nat → Int) (im2 : Nat → Option Nat) (c2 : Nat), Rl g F2 im2 c2 → zY p l e s m below meth c sb g (k + 7) (n + 750) 745 [some (.ref sb), some (.ref (g.2.1 + 0)), some (.ref (g.2.1 + 23)), some (.int (iz (i : Int)))] [] (zk g F2 L2 im2 c2)) : zY p l e s m below meth c sb g k n 246 [some (.ref sb), some (.ref (g.2.1 + 0)), some (.ref (g.2.1 + 23)), some (.int (iz (i : Int)))] [] (zk g F Lf im ci) := by
  refine y_aload_n hC (pc := 246) rfl dL_law_246 ?_
  refine y_aload_n hC (pc := 247) rfl dL_law_247 ?_
  refine y_iload_n hC (pc := 248) rfl dL_law_248 ?_
  refine y_iconst hC (pc := 249) dL_law_249 ?_
  refine y_iadd hC (pc := 250) dL_law_250 ?_
  refine y_sld hC (pc := 251) hX hbl hg hL (j := i + 1) (by omega) (by omega) dL_law_251 ?_
  refine y_aload_n hC (pc := 252) rfl dL_law_252 ?_
  refine y_iload_n hC (pc := 253) rfl dL_law_253 ?_
  refine y_iconst hC (pc := 254) dL_law_254 ?_
  refine y_iadd hC (pc := 255) dL_law_255 ?_
  refine y_sld hC (pc := 256) hX hbl hg hL (j := i + 2) (by omega) (by omega) dL_law_256 ?_
  refine y_aload_n hC (pc := 257) rfl dL_law_257 ?_
  refine y_iload_n hC (pc := 258) rfl dL_law_258 ?_
  refine y_iconst hC (pc := 259) dL_law_259 ?_
  refine y_iadd hC (pc := 260) dL_law_260 ?_
  refine y_sld hC (pc := 261) hX hbl hg hL (j := i + 3) (by omega) (by omega) dL_law_261 ?_
  refine y_aload_n hC (pc := 262) rfl dL_law_262 ?_
  refine y_iload_n hC (pc := 263) rfl dL_law_263 ?_
  refine y_iconst hC (pc := 264) dL_law_264 ?_
  refine y_iadd hC (pc := 265) dL_law_265 ?_
  refine y_sld hC (pc := 266) hX hbl hg hL (j := i + 4) (by omega) (by omega) dL_law_266 ?_
  refine y_V4 hC (pc := 267) (q0 := 0) (sp_need hR (ir_toInt _) (ir_toInt _) (ir_toInt _) (ir_toInt _)) lk_L_33 iv_X4_need rfl rfl ⟨by decide, by decide⟩ (Nat.le_of_ble_eq_true rfl) ⟨by show _ ≤ 600000; omega, by show _ ≤ 7302250; omega⟩ dL_law_267 (fun r h9 hq => ?_)
  obtain ⟨v, F1, im1, c1, rfl, rfl, hM⟩ := hq
  refine y_r1 ?_
  refine y_aload_n hC (pc := 270) rfl dL_law_270 ?_
  refine y_aload_n hC (pc := 271) rfl dL_law_271 ?_
  refine y_iload_n hC (pc := 272) rfl dL_law_272 ?_
  refine y_iconst hC (pc := 273) dL_law_273 ?_
  refine y_iadd hC (pc := 274) dL_law_274 ?_
  refine y_sld hC (pc := 275) hX hbl hg hL (j := i + 1) (by omega) (by omega) dL_law_275 ?_
  refine y_aload_n hC (pc := 276) rfl dL_law_276 ?_
  refine y_iload_n hC (pc := 277) rfl dL_law_277 ?_
  refine y_iconst hC (pc := 278) dL_law_278 ?_
  refine y_iadd hC (pc := 279) dL_law_279 ?_
  refine y_sld hC (pc := 280) hX hbl hg hL (j := i + 2) (by omega) (by omega) dL_law_280 ?_
  refine y_aload_n hC (pc := 281) rfl dL_law_281 ?_
  refine y_iload_n hC (pc := 282) rfl dL_law_282 ?_
  refine y_iconst hC (pc := 283) dL_law_283 ?_
  refine y_iadd hC (pc := 284) dL_law_284 ?_
  refine y_sld hC (pc := 285) hX hbl hg hL (j := i + 3) (by omega) (by omega) dL_law_285 ?_
  refine y_aload_n hC (pc := 286) rfl dL_law_286 ?_
  refine y_iload_n hC (pc := 287) rfl dL_law_287 ?_
  refine y_iconst hC (pc := 288) dL_law_288 ?_
  refine y_iadd hC (pc := 289) dL_law_289 ?_
  refine y_sld hC (pc := 290) hX hbl hg hL (j := i + 4) (by omega) (by omega) dL_law_290 ?_
  refine y_V4 hC (pc := 291) (q0 := 23) hM lk_L_37 iv_X5_need rfl rfl ⟨by decide, by decide⟩ (Nat.le_of_ble_eq_true rfl) ⟨by show _ ≤ 600000; omega, by show _ ≤ 7302250; omega⟩ dL_law_291 (fun r h9 hq => ?_)
  obtain ⟨rfl, F2, L2, rfl, hR2⟩ := hq
  refine y_r1 ?_
  refine y_same hC (pc := 294) 745 (by decide) dL_law_294 ?_
  refine y_wide (k2 := k + 7) (n2 := n + 750) (by omega) (by omega) ?_
  exact kk F2 L2 im1 c1 hR2
theorem law_needs (hC : zC RL code 4 ret meth.name p s m #[Value.ref sb] meth c) {L : Nat} {xs : Nat → Int32} (hX : va_X sb L xs s s.heap) (hbl : sb < s.heap.size) (hg : g.2.1 = s.heap.size) (hL : L ≤ 2560) {i : Nat} (hi : i + 5 ≤ L) (hR : Rl g F im ci) (hk : k + 7 ≤ 600000) (hn : n + 750 ≤ 7302250) (kk : ∀ (F2 : Nat → Nat → Int) (L2 : Nat → Int) (im2 : Nat → Option Nat) (c2 : Nat), Rl g F2 im2 c2 → zY p l e s m below meth c sb g (k + 7) (n + 750) 745 [some (.ref sb), some (.ref (g.2.1 + 0)), some (.ref (g.2.1 + 23)), some (.int (iz (i : Int)))] [] (zk g F2 L2 im2 c2)) : zY p l e s m below meth c sb g k n 299 [some (.ref sb), some (.ref (g.2.1 + 0)), some (.ref (g.2.1 + 23)), some (.int (iz (i : Int)))] [] (zk g F Lf im ci) := by
  refine y_aload_n hC (pc := 299) rfl dL_law_299 ?_
  refine y_aload_n hC (pc := 300) rfl dL_law_300 ?_
  refine y_iload_n hC (pc := 301) rfl dL_law_301 ?_
  refine y_iconst hC (pc := 302) dL_law_302 ?_
  refine y_iadd hC (pc := 303) dL_law_303 ?_
  refine y_sld hC (pc := 304) hX hbl hg hL (j := i + 1) (by omega) (by omega) dL_law_304 ?_
  refine y_aload_n hC (pc := 305) rfl dL_law_305 ?_
  refine y_iload_n hC (pc := 306) rfl dL_law_306 ?_
  refine y_iconst hC (pc := 307) dL_law_307 ?_
  refine y_iadd hC (pc := 308) dL_law_308 ?_
  refine y_sld hC (pc := 309) hX hbl hg hL (j := i + 2) (by omega) (by omega) dL_law_309 ?_
  refine y_aload_n hC (pc := 310) rfl dL_law_310 ?_
  refine y_iload_n hC (pc := 311) rfl dL_law_311 ?_
  refine y_iconst hC (pc := 312) dL_law_312 ?_
  refine y_iadd hC (pc := 313) dL_law_313 ?_
  refine y_sld hC (pc := 314) hX hbl hg hL (j := i + 3) (by omega) (by omega) dL_law_314 ?_
  refine y_aload_n hC (pc := 315) rfl dL_law_315 ?_
  refine y_iload_n hC (pc := 316) rfl dL_law_316 ?_
  refine y_iconst hC (pc := 317) dL_law_317 ?_
  refine y_iadd hC (pc := 318) dL_law_318 ?_
  refine y_sld hC (pc := 319) hX hbl hg hL (j := i + 4) (by omega) (by omega) dL_law_319 ?_
  refine y_V4 hC (pc := 320) (q0 := 0) (sp_needs hR (ir_toInt _) (ir_toInt _) (ir_toInt _) (ir_toInt _)) lk_L_38 iv_X4_needs rfl rfl ⟨by decide, by decide⟩ (Nat.le_of_ble_eq_true rfl) ⟨by show _ ≤ 600000; omega, by show _ ≤ 7302250; omega⟩ dL_law_320 (fun r h9 hq => ?_)
  obtain ⟨v, F1, im1, c1, rfl, rfl, hM⟩ := hq
  refine y_r1 ?_
  refine y_aload_n hC (pc := 323) rfl dL_law_323 ?_
  refine y_aload_n hC (pc := 324) rfl dL_law_324 ?_
  refine y_iload_n hC (pc := 325) rfl dL_law_325 ?_
  refine y_iconst hC (pc := 326) dL_law_326 ?_
  refine y_iadd hC (pc := 327) dL_law_327 ?_
  refine y_sld hC (pc := 328) hX hbl hg hL (j := i + 1) (by omega) (by omega) dL_law_328 ?_
  refine y_aload_n hC (pc := 329) rfl dL_law_329 ?_
  refine y_iload_n hC (pc := 330) rfl dL_law_330 ?_
  refine y_iconst hC (pc := 331) dL_law_331 ?_
  refine y_iadd hC (pc := 332) dL_law_332 ?_
  refine y_sld hC (pc := 333) hX hbl hg hL (j := i + 2) (by omega) (by omega) dL_law_333 ?_
  refine y_aload_n hC (pc := 334) rfl dL_law_334 ?_
  refine y_iload_n hC (pc := 335) rfl dL_law_335 ?_
  refine y_iconst hC (pc := 336) dL_law_336 ?_
  refine y_iadd hC (pc := 337) dL_law_337 ?_
  refine y_sld hC (pc := 338) hX hbl hg hL (j := i + 3) (by omega) (by omega) dL_law_338 ?_
  refine y_aload_n hC (pc := 339) rfl dL_law_339 ?_
  refine y_iload_n hC (pc := 340) rfl dL_law_340 ?_
  refine y_iconst hC (pc := 341) dL_law_341 ?_
  refine y_iadd hC (pc := 342) dL_law_342 ?_
  refine y_sld hC (pc := 343) hX hbl hg hL (j := i + 4) (by omega) (by omega) dL_law_343 ?_
  refine y_V4 hC (pc := 344) (q0 := 23) hM lk_L_41 iv_X5_needs rfl rfl ⟨by decide, by decide⟩ (Nat.le_of_ble_eq_true rfl) ⟨by show _ ≤ 600000; omega, by show _ ≤ 7302250; omega⟩ dL_law_344 (fun r h9 hq => ?_)
  obtain ⟨rfl, F2, L2, rfl, hR2⟩ := hq
  refine y_r1 ?_
  refine y_same hC (pc := 347) 745 (by decide) dL_law_347 ?_
  refine y_wide (k2 := k + 7) (n2 := n + 750) (by omega) (by omega) ?_
  exact kk F2 L2 im1 c1 hR2
theorem law_buy (hC : zC RL code 4 ret meth.name p s m #[Value.ref sb] meth c) {L : Nat} {xs : Nat → Int32} (hX : va_X sb L xs s s.heap) (hbl : sb < s.heap.size) (hg : g.2.1 = s.heap.size) (hL : L ≤ 2560) {i : Nat} (hi : i + 5 ≤ L) (hR : Rl g F im ci) (hk : k + 7 ≤ 600000) (hn : n + 750 ≤ 7302250) (kk : ∀ (F2 : Nat → Nat → Int) (L2 : Nat → Int) (im2 : Nat → Option Nat) (c2 : Nat), Rl g F2 im2 c2 → zY p l e s m below meth c sb g (k + 7) (n + 750) 745 [some (.ref sb), some (.ref (g.2.1 + 0)), some (.ref (g.2.1 + 23)), some (.int (iz (i : Int)))] [] (zk g F2 L2 im2 c2)) : zY p l e s m below meth c sb g k n 352 [some (.ref sb), some (.ref (g.2.1 + 0)), some (.ref (g.2.1 + 23)), some (.int (iz (i : Int)))] [] (zk g F Lf im ci) := by
  refine y_aload_n hC (pc := 352) rfl dL_law_352 ?_
  refine y_aload_n hC (pc := 353) rfl dL_law_353 ?_
  refine y_iload_n hC (pc := 354) rfl dL_law_354 ?_
  refine y_iconst hC (pc := 355) dL_law_355 ?_
  refine y_iadd hC (pc := 356) dL_law_356 ?_
  refine y_sld hC (pc := 357) hX hbl hg hL (j := i + 1) (by omega) (by omega) dL_law_357 ?_
  refine y_aload_n hC (pc := 358) rfl dL_law_358 ?_
  refine y_iload_n hC (pc := 359) rfl dL_law_359 ?_
  refine y_iconst hC (pc := 360) dL_law_360 ?_
  refine y_iadd hC (pc := 361) dL_law_361 ?_
  refine y_sld hC (pc := 362) hX hbl hg hL (j := i + 2) (by omega) (by omega) dL_law_362 ?_
  refine y_aload_n hC (pc := 363) rfl dL_law_363 ?_
  refine y_iload_n hC (pc := 364) rfl dL_law_364 ?_
  refine y_iconst hC (pc := 365) dL_law_365 ?_
  refine y_iadd hC (pc := 366) dL_law_366 ?_
  refine y_sld hC (pc := 367) hX hbl hg hL (j := i + 3) (by omega) (by omega) dL_law_367 ?_
  refine y_V3 hC (pc := 368) (q0 := 0) (sp_buy hR (ir_toInt _) (ir_toInt _) (ir_toInt _)) lk_L_42 iv_X4_buy rfl rfl ⟨by decide, by decide⟩ (Nat.le_of_ble_eq_true rfl) ⟨by show _ ≤ 600000; omega, by show _ ≤ 7302250; omega⟩ dL_law_368 (fun r h9 hq => ?_)
  obtain ⟨v, F1, im1, c1, rfl, rfl, hM⟩ := hq
  refine y_r1 ?_
  refine y_aload_n hC (pc := 371) rfl dL_law_371 ?_
  refine y_aload_n hC (pc := 372) rfl dL_law_372 ?_
  refine y_iload_n hC (pc := 373) rfl dL_law_373 ?_
  refine y_iconst hC (pc := 374) dL_law_374 ?_
  refine y_iadd hC (pc := 375) dL_law_375 ?_
  refine y_sld hC (pc := 376) hX hbl hg hL (j := i + 1) (by omega) (by omega) dL_law_376 ?_
  refine y_aload_n hC (pc := 377) rfl dL_law_377 ?_
  refine y_iload_n hC (pc := 378) rfl dL_law_378 ?_
  refine y_iconst hC (pc := 379) dL_law_379 ?_
  refine y_iadd hC (pc := 380) dL_law_380 ?_
  refine y_sld hC (pc := 381) hX hbl hg hL (j := i + 2) (by omega) (by omega) dL_law_381 ?_
  refine y_aload_n hC (pc := 382) rfl dL_law_382 ?_
  refine y_iload_n hC (pc := 383) rfl dL_law_383 ?_
  refine y_iconst hC (pc := 384) dL_law_384 ?_
  refine y_iadd hC (pc := 385) dL_law_385 ?_
  refine y_sld hC (pc := 386) hX hbl hg hL (j := i + 3) (by omega) (by omega) dL_law_386 ?_
  refine y_V3 hC (pc := 387) (q0 := 23) hM lk_L_46 iv_X5_buy rfl rfl ⟨by decide, by decide⟩ (Nat.le_of_ble_eq_true rfl) ⟨by show _ ≤ 600000; omega, by show _ ≤ 7302250; omega⟩ dL_law_387 (fun r h9 hq => ?_)
  obtain ⟨rfl, F2, L2, rfl, hR2⟩ := hq
  refine y_r1 ?_
  refine y_same hC (pc := 390) 745 (by decide) dL_law_390 ?_
  refine y_wide (k2 := k + 7) (n2 := n + 750) (by omega) (by omega) ?_
  exact kk F2 L2 im1 c1 hR2
theorem law_clear (hC : zC RL code 4 ret meth.name p s m #[Value.ref sb] meth c) {L : Nat} {xs : Nat → Int32} (hX : va_X sb L xs s s.heap) (hbl : sb < s.heap.size) (hg : g.2.1 = s.heap.size) (hL : L ≤ 2560) {i : Nat} (hi : i + 5 ≤ L) (hR : Rl g F im ci) (hk : k + 7 ≤ 600000) (hn : n + 750 ≤ 7302250) (kk : ∀ (F2 : Nat → Nat → Int) (L2 : Nat → Int) (im2 : Nat → Option Nat) (c2 : Nat), Rl g F2 im2 c2 → zY p l e s m below meth c sb g (k + 7) (n + 750) 745 [some (.ref sb), some (.ref (g.2.1 + 0)), some (.ref (g.2.1 + 23)), some (.int (iz (i : Int)))] [] (zk g F2 L2 im2 c2)) : zY p l e s m below meth c sb g k n 395 [some (.ref sb), some (.ref (g.2.1 + 0)), some (.ref (g.2.1 + 23)), some (.int (iz (i : Int)))] [] (zk g F Lf im ci) := by
  refine y_aload_n hC (pc := 395) rfl dL_law_395 ?_
  refine y_aload_n hC (pc := 396) rfl dL_law_396 ?_
  refine y_iload_n hC (pc := 397) rfl dL_law_397 ?_
  refine y_iconst hC (pc := 398) dL_law_398 ?_
  refine y_iadd hC (pc := 399) dL_law_399 ?_
  refine y_sld hC (pc := 400) hX hbl hg hL (j := i + 1) (by omega) (by omega) dL_law_400 ?_
  refine y_V1 hC (pc := 401) (q0 := 0) (sp_clear hR (ir_toInt _)) lk_L_47 iv_X4_clear rfl rfl ⟨by decide, by decide⟩ (Nat.le_of_ble_eq_true rfl) ⟨by show _ ≤ 600000; omega, by show _ ≤ 7302250; omega⟩ dL_law_401 (fun r h9 hq => ?_)
  obtain ⟨v, F1, im1, c1, rfl, rfl, hM⟩ := hq
  refine y_r1 ?_
  refine y_aload_n hC (pc := 404) rfl dL_law_404 ?_
  refine y_aload_n hC (pc := 405) rfl dL_law_405 ?_
  refine y_iload_n hC (pc := 406) rfl dL_law_406 ?_
  refine y_iconst hC (pc := 407) dL_law_407 ?_
  refine y_iadd hC (pc := 408) dL_law_408 ?_
  refine y_sld hC (pc := 409) hX hbl hg hL (j := i + 1) (by omega) (by omega) dL_law_409 ?_
  refine y_V1 hC (pc := 410) (q0 := 23) hM lk_L_50 iv_X5_clear rfl rfl ⟨by decide, by decide⟩ (Nat.le_of_ble_eq_true rfl) ⟨by show _ ≤ 600000; omega, by show _ ≤ 7302250; omega⟩ dL_law_410 (fun r h9 hq => ?_)
  obtain ⟨rfl, F2, L2, rfl, hR2⟩ := hq
  refine y_r1 ?_
  refine y_same hC (pc := 413) 745 (by decide) dL_law_413 ?_
  refine y_wide (k2 := k + 7) (n2 := n + 750) (by omega) (by omega) ?_
  exact kk F2 L2 im1 c1 hR2
theorem law_tell (hC : zC RL code 4 ret meth.name p s m #[Value.ref sb] meth c) {L : Nat} {xs : Nat → Int32} (hX : va_X sb L xs s s.heap) (hbl : sb < s.heap.size) (hg : g.2.1 = s.heap.size) (hL : L ≤ 2560) {i : Nat} (hi : i + 5 ≤ L) (hR : Rl g F im ci) (hk : k + 7 ≤ 600000) (hn : n + 750 ≤ 7302250) (kk : ∀ (F2 : Nat → Nat → Int) (L2 : Nat → Int) (im2 : Nat → Option Nat) (c2 : Nat), Rl g F2 im2 c2 → zY p l e s m below meth c sb g (k + 7) (n + 750) 745 [some (.ref sb), some (.ref (g.2.1 + 0)), some (.ref (g.2.1 + 23)), some (.int (iz (i : Int)))] [] (zk g F2 L2 im2 c2)) : zY p l e s m below meth c sb g k n 418 [some (.ref sb), some (.ref (g.2.1 + 0)), some (.ref (g.2.1 + 23)), some (.int (iz (i : Int)))] [] (zk g F Lf im ci) := by
  refine y_aload_n hC (pc := 418) rfl dL_law_418 ?_
  refine y_aload_n hC (pc := 419) rfl dL_law_419 ?_
  refine y_iload_n hC (pc := 420) rfl dL_law_420 ?_
  refine y_iconst hC (pc := 421) dL_law_421 ?_
  refine y_iadd hC (pc := 422) dL_law_422 ?_
  refine y_sld hC (pc := 423) hX hbl hg hL (j := i + 1) (by omega) (by omega) dL_law_423 ?_
  refine y_aload_n hC (pc := 424) rfl dL_law_424 ?_
  refine y_iload_n hC (pc := 425) rfl dL_law_425 ?_
  refine y_iconst hC (pc := 426) dL_law_426 ?_
  refine y_iadd hC (pc := 427) dL_law_427 ?_
  refine y_sld hC (pc := 428) hX hbl hg hL (j := i + 2) (by omega) (by omega) dL_law_428 ?_
  refine y_aload_n hC (pc := 429) rfl dL_law_429 ?_
  refine y_iload_n hC (pc := 430) rfl dL_law_430 ?_
  refine y_iconst hC (pc := 431) dL_law_431 ?_
  refine y_iadd hC (pc := 432) dL_law_432 ?_
  refine y_sld hC (pc := 433) hX hbl hg hL (j := i + 3) (by omega) (by omega) dL_law_433 ?_
  refine y_V3 hC (pc := 434) (q0 := 0) (sp_tell hR (ir_toInt _) (ir_toInt _) (ir_toInt _)) lk_L_51 iv_X4_tell rfl rfl ⟨by decide, by decide⟩ (Nat.le_of_ble_eq_true rfl) ⟨by show _ ≤ 600000; omega, by show _ ≤ 7302250; omega⟩ dL_law_434 (fun r h9 hq => ?_)
  obtain ⟨v, F1, im1, c1, rfl, rfl, hM⟩ := hq
  refine y_r1 ?_
  refine y_aload_n hC (pc := 437) rfl dL_law_437 ?_
  refine y_aload_n hC (pc := 438) rfl dL_law_438 ?_
  refine y_iload_n hC (pc := 439) rfl dL_law_439 ?_
  refine y_iconst hC (pc := 440) dL_law_440 ?_
  refine y_iadd hC (pc := 441) dL_law_441 ?_
  refine y_sld hC (pc := 442) hX hbl hg hL (j := i + 1) (by omega) (by omega) dL_law_442 ?_
  refine y_aload_n hC (pc := 443) rfl dL_law_443 ?_
  refine y_iload_n hC (pc := 444) rfl dL_law_444 ?_
  refine y_iconst hC (pc := 445) dL_law_445 ?_
  refine y_iadd hC (pc := 446) dL_law_446 ?_
  refine y_sld hC (pc := 447) hX hbl hg hL (j := i + 2) (by omega) (by omega) dL_law_447 ?_
  refine y_aload_n hC (pc := 448) rfl dL_law_448 ?_
  refine y_iload_n hC (pc := 449) rfl dL_law_449 ?_
  refine y_iconst hC (pc := 450) dL_law_450 ?_
  refine y_iadd hC (pc := 451) dL_law_451 ?_
  refine y_sld hC (pc := 452) hX hbl hg hL (j := i + 3) (by omega) (by omega) dL_law_452 ?_
  refine y_V3 hC (pc := 453) (q0 := 23) hM lk_L_54 iv_X5_tell rfl rfl ⟨by decide, by decide⟩ (Nat.le_of_ble_eq_true rfl) ⟨by show _ ≤ 600000; omega, by show _ ≤ 7302250; omega⟩ dL_law_453 (fun r h9 hq => ?_)
  obtain ⟨rfl, F2, L2, rfl, hR2⟩ := hq
  refine y_r1 ?_
  refine y_same hC (pc := 456) 745 (by decide) dL_law_456 ?_
  refine y_wide (k2 := k + 7) (n2 := n + 750) (by omega) (by omega) ?_
  exact kk F2 L2 im1 c1 hR2
theorem law_cost (hC : zC RL code 4 ret meth.name p s m #[Value.ref sb] meth c) {L : Nat} {xs : Nat → Int32} (hX : va_X sb L xs s s.heap) (hbl : sb < s.heap.size) (hg : g.2.1 = s.heap.size) (hL : L ≤ 2560) {i : Nat} (hi : i + 5 ≤ L) (hR : Rl g F im ci) (hk : k + 7 ≤ 600000) (hn : n + 750 ≤ 7302250) (kk : ∀ (F2 : Nat → Nat → Int) (L2 : Nat → Int) (im2 : Nat → Option Nat) (c2 : Nat), Rl g F2 im2 c2 → zY p l e s m below meth c sb g (k + 7) (n + 750) 745 [some (.ref sb), some (.ref (g.2.1 + 0)), some (.ref (g.2.1 + 23)), some (.int (iz (i : Int)))] [] (zk g F2 L2 im2 c2)) : zY p l e s m below meth c sb g k n 461 [some (.ref sb), some (.ref (g.2.1 + 0)), some (.ref (g.2.1 + 23)), some (.int (iz (i : Int)))] [] (zk g F Lf im ci) := by
  refine y_aload_n hC (pc := 461) rfl dL_law_461 ?_
  refine y_aload_n hC (pc := 462) rfl dL_law_462 ?_
  refine y_iload_n hC (pc := 463) rfl dL_law_463 ?_
  refine y_iconst hC (pc := 464) dL_law_464 ?_
  refine y_iadd hC (pc := 465) dL_law_465 ?_
  refine y_sld hC (pc := 466) hX hbl hg hL (j := i + 1) (by omega) (by omega) dL_law_466 ?_
  refine y_V1 hC (pc := 467) (q0 := 0) (sp_cost hR (ir_toInt _)) lk_L_55 iv_X4_cost rfl rfl ⟨by decide, by decide⟩ (Nat.le_of_ble_eq_true rfl) ⟨by show _ ≤ 600000; omega, by show _ ≤ 7302250; omega⟩ dL_law_467 (fun r h9 hq => ?_)
  obtain ⟨v, F1, im1, c1, rfl, rfl, hM⟩ := hq
  refine y_r1 ?_
  refine y_aload_n hC (pc := 470) rfl dL_law_470 ?_
  refine y_aload_n hC (pc := 471) rfl dL_law_471 ?_
  refine y_iload_n hC (pc := 472) rfl dL_law_472 ?_
  refine y_iconst hC (pc := 473) dL_law_473 ?_
  refine y_iadd hC (pc := 474) dL_law_474 ?_
  refine y_sld hC (pc := 475) hX hbl hg hL (j := i + 1) (by omega) (by omega) dL_law_475 ?_
  refine y_V1 hC (pc := 476) (q0 := 23) hM lk_L_59 iv_X5_cost rfl rfl ⟨by decide, by decide⟩ (Nat.le_of_ble_eq_true rfl) ⟨by show _ ≤ 600000; omega, by show _ ≤ 7302250; omega⟩ dL_law_476 (fun r h9 hq => ?_)
  obtain ⟨rfl, F2, L2, rfl, hR2⟩ := hq
  refine y_r1 ?_
  refine y_sameL hC (pc := 479) 745 (by decide) dL_law_479 dL_law_480 ?_
  refine y_wide (k2 := k + 7) (n2 := n + 750) (by omega) (by omega) ?_
  exact kk F2 L2 im1 c1 hR2
theorem law_best (hC : zC RL code 4 ret meth.name p s m #[Value.ref sb] meth c) {L : Nat} {xs : Nat → Int32} (hX : va_X sb L xs s s.heap) (hbl : sb < s.heap.size) (hg : g.2.1 = s.heap.size) (hL : L ≤ 2560) {i : Nat} (hi : i + 5 ≤ L) (hR : Rl g F im ci) (hk : k + 7 ≤ 600000) (hn : n + 750 ≤ 7302250) (kk : ∀ (F2 : Nat → Nat → Int) (L2 : Nat → Int) (im2 : Nat → Option Nat) (c2 : Nat), Rl g F2 im2 c2 → zY p l e s m below meth c sb g (k + 7) (n + 750) 745 [some (.ref sb), some (.ref (g.2.1 + 0)), some (.ref (g.2.1 + 23)), some (.int (iz (i : Int)))] [] (zk g F2 L2 im2 c2)) : zY p l e s m below meth c sb g k n 485 [some (.ref sb), some (.ref (g.2.1 + 0)), some (.ref (g.2.1 + 23)), some (.int (iz (i : Int)))] [] (zk g F Lf im ci) := by
  refine y_aload_n hC (pc := 485) rfl dL_law_485 ?_
  refine y_aload_n hC (pc := 486) rfl dL_law_486 ?_
  refine y_iload_n hC (pc := 487) rfl dL_law_487 ?_
  refine y_iconst hC (pc := 488) dL_law_488 ?_
  refine y_iadd hC (pc := 489) dL_law_489 ?_
  refine y_sld hC (pc := 490) hX hbl hg hL (j := i + 1) (by omega) (by omega) dL_law_490 ?_
  refine y_V1 hC (pc := 491) (q0 := 0) (sp_best hR (ir_toInt _)) lk_L_60 iv_X4_best rfl rfl ⟨by decide, by decide⟩ (Nat.le_of_ble_eq_true rfl) ⟨by show _ ≤ 600000; omega, by show _ ≤ 7302250; omega⟩ dL_law_491 (fun r h9 hq => ?_)
  obtain ⟨v, F1, im1, c1, rfl, rfl, hM⟩ := hq
  refine y_r1 ?_
  refine y_aload_n hC (pc := 494) rfl dL_law_494 ?_
  refine y_aload_n hC (pc := 495) rfl dL_law_495 ?_
  refine y_iload_n hC (pc := 496) rfl dL_law_496 ?_
  refine y_iconst hC (pc := 497) dL_law_497 ?_
  refine y_iadd hC (pc := 498) dL_law_498 ?_
  refine y_sld hC (pc := 499) hX hbl hg hL (j := i + 1) (by omega) (by omega) dL_law_499 ?_
  refine y_V1 hC (pc := 500) (q0 := 23) hM lk_L_63 iv_X5_best rfl rfl ⟨by decide, by decide⟩ (Nat.le_of_ble_eq_true rfl) ⟨by show _ ≤ 600000; omega, by show _ ≤ 7302250; omega⟩ dL_law_500 (fun r h9 hq => ?_)
  obtain ⟨rfl, F2, L2, rfl, hR2⟩ := hq
  refine y_r1 ?_
  refine y_sameL hC (pc := 503) 745 (by decide) dL_law_503 dL_law_504 ?_
  refine y_wide (k2 := k + 7) (n2 := n + 750) (by omega) (by omega) ?_
  exact kk F2 L2 im1 c1 hR2
theorem law_price (hC : zC RL code 4 ret meth.name p s m #[Value.ref sb] meth c) {L : Nat} {xs : Nat → Int32} (hX : va_X sb L xs s s.heap) (hbl : sb < s.heap.size) (hg : g.2.1 = s.heap.size) (hL : L ≤ 2560) {i : Nat} (hi : i + 5 ≤ L) (hR : Rl g F im ci) (hk : k + 7 ≤ 600000) (hn : n + 750 ≤ 7302250) (kk : ∀ (F2 : Nat → Nat → Int) (L2 : Nat → Int) (im2 : Nat → Option Nat) (c2 : Nat), Rl g F2 im2 c2 → zY p l e s m below meth c sb g (k + 7) (n + 750) 745 [some (.ref sb), some (.ref (g.2.1 + 0)), some (.ref (g.2.1 + 23)), some (.int (iz (i : Int)))] [] (zk g F2 L2 im2 c2)) : zY p l e s m below meth c sb g k n 509 [some (.ref sb), some (.ref (g.2.1 + 0)), some (.ref (g.2.1 + 23)), some (.int (iz (i : Int)))] [] (zk g F Lf im ci) := by
  refine y_aload_n hC (pc := 509) rfl dL_law_509 ?_
  refine y_aload_n hC (pc := 510) rfl dL_law_510 ?_
  refine y_iload_n hC (pc := 511) rfl dL_law_511 ?_
  refine y_iconst hC (pc := 512) dL_law_512 ?_
  refine y_iadd hC (pc := 513) dL_law_513 ?_
  refine y_sld hC (pc := 514) hX hbl hg hL (j := i + 1) (by omega) (by omega) dL_law_514 ?_
  refine y_aload_n hC (pc := 515) rfl dL_law_515 ?_
  refine y_iload_n hC (pc := 516) rfl dL_law_516 ?_
  refine y_iconst hC (pc := 517) dL_law_517 ?_
  refine y_iadd hC (pc := 518) dL_law_518 ?_
  refine y_sld hC (pc := 519) hX hbl hg hL (j := i + 2) (by omega) (by omega) dL_law_519 ?_
  refine y_V2 hC (pc := 520) (q0 := 0) (sp_price hR (ir_toInt _) (ir_toInt _)) lk_L_64 iv_X4_price rfl rfl ⟨by decide, by decide⟩ (Nat.le_of_ble_eq_true rfl) ⟨by show _ ≤ 600000; omega, by show _ ≤ 7302250; omega⟩ dL_law_520 (fun r h9 hq => ?_)
  obtain ⟨v, F1, im1, c1, rfl, rfl, hM⟩ := hq
  refine y_r1 ?_
  refine y_aload_n hC (pc := 523) rfl dL_law_523 ?_
  refine y_aload_n hC (pc := 524) rfl dL_law_524 ?_
  refine y_iload_n hC (pc := 525) rfl dL_law_525 ?_
  refine y_iconst hC (pc := 526) dL_law_526 ?_
  refine y_iadd hC (pc := 527) dL_law_527 ?_
  refine y_sld hC (pc := 528) hX hbl hg hL (j := i + 1) (by omega) (by omega) dL_law_528 ?_
  refine y_aload_n hC (pc := 529) rfl dL_law_529 ?_
  refine y_iload_n hC (pc := 530) rfl dL_law_530 ?_
  refine y_iconst hC (pc := 531) dL_law_531 ?_
  refine y_iadd hC (pc := 532) dL_law_532 ?_
  refine y_sld hC (pc := 533) hX hbl hg hL (j := i + 2) (by omega) (by omega) dL_law_533 ?_
  refine y_V2 hC (pc := 534) (q0 := 23) hM lk_L_68 iv_X5_price rfl rfl ⟨by decide, by decide⟩ (Nat.le_of_ble_eq_true rfl) ⟨by show _ ≤ 600000; omega, by show _ ≤ 7302250; omega⟩ dL_law_534 (fun r h9 hq => ?_)
  obtain ⟨rfl, F2, L2, rfl, hR2⟩ := hq
  refine y_r1 ?_
  refine y_same hC (pc := 537) 745 (by decide) dL_law_537 ?_
  refine y_wide (k2 := k + 7) (n2 := n + 750) (by omega) (by omega) ?_
  exact kk F2 L2 im1 c1 hR2
theorem law_more (hC : zC RL code 4 ret meth.name p s m #[Value.ref sb] meth c) {L : Nat} {xs : Nat → Int32} (hX : va_X sb L xs s s.heap) (hbl : sb < s.heap.size) (hg : g.2.1 = s.heap.size) (hL : L ≤ 2560) {i : Nat} (hi : i + 5 ≤ L) (hR : Rl g F im ci) (hk : k + 7 ≤ 600000) (hn : n + 750 ≤ 7302250) (kk : ∀ (F2 : Nat → Nat → Int) (L2 : Nat → Int) (im2 : Nat → Option Nat) (c2 : Nat), Rl g F2 im2 c2 → zY p l e s m below meth c sb g (k + 7) (n + 750) 745 [some (.ref sb), some (.ref (g.2.1 + 0)), some (.ref (g.2.1 + 23)), some (.int (iz (i : Int)))] [] (zk g F2 L2 im2 c2)) : zY p l e s m below meth c sb g k n 542 [some (.ref sb), some (.ref (g.2.1 + 0)), some (.ref (g.2.1 + 23)), some (.int (iz (i : Int)))] [] (zk g F Lf im ci) := by
  refine y_aload_n hC (pc := 542) rfl dL_law_542 ?_
  refine y_aload_n hC (pc := 543) rfl dL_law_543 ?_
  refine y_iload_n hC (pc := 544) rfl dL_law_544 ?_
  refine y_iconst hC (pc := 545) dL_law_545 ?_
  refine y_iadd hC (pc := 546) dL_law_546 ?_
  refine y_sld hC (pc := 547) hX hbl hg hL (j := i + 1) (by omega) (by omega) dL_law_547 ?_
  refine y_aload_n hC (pc := 548) rfl dL_law_548 ?_
  refine y_iload_n hC (pc := 549) rfl dL_law_549 ?_
  refine y_iconst hC (pc := 550) dL_law_550 ?_
  refine y_iadd hC (pc := 551) dL_law_551 ?_
  refine y_sld hC (pc := 552) hX hbl hg hL (j := i + 2) (by omega) (by omega) dL_law_552 ?_
  refine y_aload_n hC (pc := 553) rfl dL_law_553 ?_
  refine y_iload_n hC (pc := 554) rfl dL_law_554 ?_
  refine y_iconst hC (pc := 555) dL_law_555 ?_
  refine y_iadd hC (pc := 556) dL_law_556 ?_
  refine y_sld hC (pc := 557) hX hbl hg hL (j := i + 3) (by omega) (by omega) dL_law_557 ?_
  refine y_V3 hC (pc := 558) (q0 := 0) (sp_more hR (ir_toInt _) (ir_toInt _) (ir_toInt _)) lk_L_69 iv_X4_more rfl rfl ⟨by decide, by decide⟩ (Nat.le_of_ble_eq_true rfl) ⟨by show _ ≤ 600000; omega, by show _ ≤ 7302250; omega⟩ dL_law_558 (fun r h9 hq => ?_)
  obtain ⟨v, F1, im1, c1, rfl, rfl, hM⟩ := hq
  refine y_r1 ?_
  refine y_aload_n hC (pc := 561) rfl dL_law_561 ?_
  refine y_aload_n hC (pc := 562) rfl dL_law_562 ?_
  refine y_iload_n hC (pc := 563) rfl dL_law_563 ?_
  refine y_iconst hC (pc := 564) dL_law_564 ?_
  refine y_iadd hC (pc := 565) dL_law_565 ?_
  refine y_sld hC (pc := 566) hX hbl hg hL (j := i + 1) (by omega) (by omega) dL_law_566 ?_
  refine y_aload_n hC (pc := 567) rfl dL_law_567 ?_
  refine y_iload_n hC (pc := 568) rfl dL_law_568 ?_
  refine y_iconst hC (pc := 569) dL_law_569 ?_
  refine y_iadd hC (pc := 570) dL_law_570 ?_
  refine y_sld hC (pc := 571) hX hbl hg hL (j := i + 2) (by omega) (by omega) dL_law_571 ?_
  refine y_aload_n hC (pc := 572) rfl dL_law_572 ?_
  refine y_iload_n hC (pc := 573) rfl dL_law_573 ?_
  refine y_iconst hC (pc := 574) dL_law_574 ?_
  refine y_iadd hC (pc := 575) dL_law_575 ?_
  refine y_sld hC (pc := 576) hX hbl hg hL (j := i + 3) (by omega) (by omega) dL_law_576 ?_
  refine y_V3 hC (pc := 577) (q0 := 23) hM lk_L_72 iv_X5_more rfl rfl ⟨by decide, by decide⟩ (Nat.le_of_ble_eq_true rfl) ⟨by show _ ≤ 600000; omega, by show _ ≤ 7302250; omega⟩ dL_law_577 (fun r h9 hq => ?_)
  obtain ⟨rfl, F2, L2, rfl, hR2⟩ := hq
  refine y_r1 ?_
  refine y_same hC (pc := 580) 745 (by decide) dL_law_580 ?_
  refine y_wide (k2 := k + 7) (n2 := n + 750) (by omega) (by omega) ?_
  exact kk F2 L2 im1 c1 hR2
theorem law_blind (hC : zC RL code 4 ret meth.name p s m #[Value.ref sb] meth c) {L : Nat} {xs : Nat → Int32} (hX : va_X sb L xs s s.heap) (hbl : sb < s.heap.size) (hg : g.2.1 = s.heap.size) (hL : L ≤ 2560) {i : Nat} (hi : i + 5 ≤ L) (hR : Rl g F im ci) (hk : k + 7 ≤ 600000) (hn : n + 750 ≤ 7302250) (kk : ∀ (F2 : Nat → Nat → Int) (L2 : Nat → Int) (im2 : Nat → Option Nat) (c2 : Nat), Rl g F2 im2 c2 → zY p l e s m below meth c sb g (k + 7) (n + 750) 745 [some (.ref sb), some (.ref (g.2.1 + 0)), some (.ref (g.2.1 + 23)), some (.int (iz (i : Int)))] [] (zk g F2 L2 im2 c2)) : zY p l e s m below meth c sb g k n 585 [some (.ref sb), some (.ref (g.2.1 + 0)), some (.ref (g.2.1 + 23)), some (.int (iz (i : Int)))] [] (zk g F Lf im ci) := by
  refine y_aload_n hC (pc := 585) rfl dL_law_585 ?_
  refine y_aload_n hC (pc := 586) rfl dL_law_586 ?_
  refine y_iload_n hC (pc := 587) rfl dL_law_587 ?_
  refine y_iconst hC (pc := 588) dL_law_588 ?_
  refine y_iadd hC (pc := 589) dL_law_589 ?_
  refine y_sld hC (pc := 590) hX hbl hg hL (j := i + 1) (by omega) (by omega) dL_law_590 ?_
  refine y_V1 hC (pc := 591) (q0 := 0) (sp_blind hR (ir_toInt _)) lk_L_73 iv_X4_blind rfl rfl ⟨by decide, by decide⟩ (Nat.le_of_ble_eq_true rfl) ⟨by show _ ≤ 600000; omega, by show _ ≤ 7302250; omega⟩ dL_law_591 (fun r h9 hq => ?_)
  obtain ⟨v, F1, im1, c1, rfl, rfl, hM⟩ := hq
  refine y_r1 ?_
  refine y_aload_n hC (pc := 594) rfl dL_law_594 ?_
  refine y_aload_n hC (pc := 595) rfl dL_law_595 ?_
  refine y_iload_n hC (pc := 596) rfl dL_law_596 ?_
  refine y_iconst hC (pc := 597) dL_law_597 ?_
  refine y_iadd hC (pc := 598) dL_law_598 ?_
  refine y_sld hC (pc := 599) hX hbl hg hL (j := i + 1) (by omega) (by omega) dL_law_599 ?_
  refine y_V1 hC (pc := 600) (q0 := 23) hM lk_L_76 iv_X5_blind rfl rfl ⟨by decide, by decide⟩ (Nat.le_of_ble_eq_true rfl) ⟨by show _ ≤ 600000; omega, by show _ ≤ 7302250; omega⟩ dL_law_600 (fun r h9 hq => ?_)
  obtain ⟨rfl, F2, L2, rfl, hR2⟩ := hq
  refine y_r1 ?_
  refine y_sameL hC (pc := 603) 745 (by decide) dL_law_603 dL_law_604 ?_
  refine y_wide (k2 := k + 7) (n2 := n + 750) (by omega) (by omega) ?_
  exact kk F2 L2 im1 c1 hR2
theorem law_pays (hC : zC RL code 4 ret meth.name p s m #[Value.ref sb] meth c) {L : Nat} {xs : Nat → Int32} (hX : va_X sb L xs s s.heap) (hbl : sb < s.heap.size) (hg : g.2.1 = s.heap.size) (hL : L ≤ 2560) {i : Nat} (hi : i + 5 ≤ L) (hR : Rl g F im ci) (hk : k + 7 ≤ 600000) (hn : n + 750 ≤ 7302250) (kk : ∀ (F2 : Nat → Nat → Int) (L2 : Nat → Int) (im2 : Nat → Option Nat) (c2 : Nat), Rl g F2 im2 c2 → zY p l e s m below meth c sb g (k + 7) (n + 750) 745 [some (.ref sb), some (.ref (g.2.1 + 0)), some (.ref (g.2.1 + 23)), some (.int (iz (i : Int)))] [] (zk g F2 L2 im2 c2)) : zY p l e s m below meth c sb g k n 609 [some (.ref sb), some (.ref (g.2.1 + 0)), some (.ref (g.2.1 + 23)), some (.int (iz (i : Int)))] [] (zk g F Lf im ci) := by
  refine y_aload_n hC (pc := 609) rfl dL_law_609 ?_
  refine y_aload_n hC (pc := 610) rfl dL_law_610 ?_
  refine y_iload_n hC (pc := 611) rfl dL_law_611 ?_
  refine y_iconst hC (pc := 612) dL_law_612 ?_
  refine y_iadd hC (pc := 613) dL_law_613 ?_
  refine y_sld hC (pc := 614) hX hbl hg hL (j := i + 1) (by omega) (by omega) dL_law_614 ?_
  refine y_aload_n hC (pc := 615) rfl dL_law_615 ?_
  refine y_iload_n hC (pc := 616) rfl dL_law_616 ?_
  refine y_iconst hC (pc := 617) dL_law_617 ?_
  refine y_iadd hC (pc := 618) dL_law_618 ?_
  refine y_sld hC (pc := 619) hX hbl hg hL (j := i + 2) (by omega) (by omega) dL_law_619 ?_
  refine y_V2 hC (pc := 620) (q0 := 0) (sp_pays hR (ir_toInt _) (ir_toInt _)) lk_L_77 iv_X4_pays rfl rfl ⟨by decide, by decide⟩ (Nat.le_of_ble_eq_true rfl) ⟨by show _ ≤ 600000; omega, by show _ ≤ 7302250; omega⟩ dL_law_620 (fun r h9 hq => ?_)
  obtain ⟨v, F1, im1, c1, rfl, rfl, hM⟩ := hq
  refine y_r1 ?_
  refine y_aload_n hC (pc := 623) rfl dL_law_623 ?_
  refine y_aload_n hC (pc := 624) rfl dL_law_624 ?_
  refine y_iload_n hC (pc := 625) rfl dL_law_625 ?_
  refine y_iconst hC (pc := 626) dL_law_626 ?_
  refine y_iadd hC (pc := 627) dL_law_627 ?_
  refine y_sld hC (pc := 628) hX hbl hg hL (j := i + 1) (by omega) (by omega) dL_law_628 ?_
  refine y_aload_n hC (pc := 629) rfl dL_law_629 ?_
  refine y_iload_n hC (pc := 630) rfl dL_law_630 ?_
  refine y_iconst hC (pc := 631) dL_law_631 ?_
  refine y_iadd hC (pc := 632) dL_law_632 ?_
  refine y_sld hC (pc := 633) hX hbl hg hL (j := i + 2) (by omega) (by omega) dL_law_633 ?_
  refine y_V2 hC (pc := 634) (q0 := 23) hM lk_L_81 iv_X5_pays rfl rfl ⟨by decide, by decide⟩ (Nat.le_of_ble_eq_true rfl) ⟨by show _ ≤ 600000; omega, by show _ ≤ 7302250; omega⟩ dL_law_634 (fun r h9 hq => ?_)
  obtain ⟨rfl, F2, L2, rfl, hR2⟩ := hq
  refine y_r1 ?_
  refine y_sameL hC (pc := 637) 745 (by decide) dL_law_637 dL_law_638 ?_
  refine y_wide (k2 := k + 7) (n2 := n + 750) (by omega) (by omega) ?_
  exact kk F2 L2 im1 c1 hR2
theorem law_about (hC : zC RL code 4 ret meth.name p s m #[Value.ref sb] meth c) {L : Nat} {xs : Nat → Int32} (hX : va_X sb L xs s s.heap) (hbl : sb < s.heap.size) (hg : g.2.1 = s.heap.size) (hL : L ≤ 2560) {i : Nat} (hi : i + 5 ≤ L) (hR : Rl g F im ci) (hk : k + 7 ≤ 600000) (hn : n + 750 ≤ 7302250) (kk : ∀ (F2 : Nat → Nat → Int) (L2 : Nat → Int) (im2 : Nat → Option Nat) (c2 : Nat), Rl g F2 im2 c2 → zY p l e s m below meth c sb g (k + 7) (n + 750) 745 [some (.ref sb), some (.ref (g.2.1 + 0)), some (.ref (g.2.1 + 23)), some (.int (iz (i : Int)))] [] (zk g F2 L2 im2 c2)) : zY p l e s m below meth c sb g k n 643 [some (.ref sb), some (.ref (g.2.1 + 0)), some (.ref (g.2.1 + 23)), some (.int (iz (i : Int)))] [] (zk g F Lf im ci) := by
  refine y_aload_n hC (pc := 643) rfl dL_law_643 ?_
  refine y_aload_n hC (pc := 644) rfl dL_law_644 ?_
  refine y_iload_n hC (pc := 645) rfl dL_law_645 ?_
  refine y_iconst hC (pc := 646) dL_law_646 ?_
  refine y_iadd hC (pc := 647) dL_law_647 ?_
  refine y_sld hC (pc := 648) hX hbl hg hL (j := i + 1) (by omega) (by omega) dL_law_648 ?_
  refine y_aload_n hC (pc := 649) rfl dL_law_649 ?_
  refine y_iload_n hC (pc := 650) rfl dL_law_650 ?_
  refine y_iconst hC (pc := 651) dL_law_651 ?_
  refine y_iadd hC (pc := 652) dL_law_652 ?_
  refine y_sld hC (pc := 653) hX hbl hg hL (j := i + 2) (by omega) (by omega) dL_law_653 ?_
  refine y_V2 hC (pc := 654) (q0 := 0) (sp_about hR (ir_toInt _) (ir_toInt _)) lk_L_82 iv_X4_about rfl rfl ⟨by decide, by decide⟩ (Nat.le_of_ble_eq_true rfl) ⟨by show _ ≤ 600000; omega, by show _ ≤ 7302250; omega⟩ dL_law_654 (fun r h9 hq => ?_)
  obtain ⟨v, F1, im1, c1, rfl, rfl, hM⟩ := hq
  refine y_r1 ?_
  refine y_aload_n hC (pc := 657) rfl dL_law_657 ?_
  refine y_aload_n hC (pc := 658) rfl dL_law_658 ?_
  refine y_iload_n hC (pc := 659) rfl dL_law_659 ?_
  refine y_iconst hC (pc := 660) dL_law_660 ?_
  refine y_iadd hC (pc := 661) dL_law_661 ?_
  refine y_sld hC (pc := 662) hX hbl hg hL (j := i + 1) (by omega) (by omega) dL_law_662 ?_
  refine y_aload_n hC (pc := 663) rfl dL_law_663 ?_
  refine y_iload_n hC (pc := 664) rfl dL_law_664 ?_
  refine y_iconst hC (pc := 665) dL_law_665 ?_
  refine y_iadd hC (pc := 666) dL_law_666 ?_
  refine y_sld hC (pc := 667) hX hbl hg hL (j := i + 2) (by omega) (by omega) dL_law_667 ?_
  refine y_V2 hC (pc := 668) (q0 := 23) hM lk_L_85 iv_X5_about rfl rfl ⟨by decide, by decide⟩ (Nat.le_of_ble_eq_true rfl) ⟨by show _ ≤ 600000; omega, by show _ ≤ 7302250; omega⟩ dL_law_668 (fun r h9 hq => ?_)
  obtain ⟨rfl, F2, L2, rfl, hR2⟩ := hq
  refine y_r1 ?_
  refine y_same hC (pc := 671) 745 (by decide) dL_law_671 ?_
  refine y_wide (k2 := k + 7) (n2 := n + 750) (by omega) (by omega) ?_
  exact kk F2 L2 im1 c1 hR2
theorem law_count (hC : zC RL code 4 ret meth.name p s m #[Value.ref sb] meth c) {L : Nat} {xs : Nat → Int32} (hX : va_X sb L xs s s.heap) (hbl : sb < s.heap.size) (hg : g.2.1 = s.heap.size) (hL : L ≤ 2560) {i : Nat} (hi : i + 5 ≤ L) (hR : Rl g F im ci) (hk : k + 7 ≤ 600000) (hn : n + 750 ≤ 7302250) (kk : ∀ (F2 : Nat → Nat → Int) (L2 : Nat → Int) (im2 : Nat → Option Nat) (c2 : Nat), Rl g F2 im2 c2 → zY p l e s m below meth c sb g (k + 7) (n + 750) 745 [some (.ref sb), some (.ref (g.2.1 + 0)), some (.ref (g.2.1 + 23)), some (.int (iz (i : Int)))] [] (zk g F2 L2 im2 c2)) : zY p l e s m below meth c sb g k n 676 [some (.ref sb), some (.ref (g.2.1 + 0)), some (.ref (g.2.1 + 23)), some (.int (iz (i : Int)))] [] (zk g F Lf im ci) := by
  refine y_aload_n hC (pc := 676) rfl dL_law_676 ?_
  refine y_aload_n hC (pc := 677) rfl dL_law_677 ?_
  refine y_iload_n hC (pc := 678) rfl dL_law_678 ?_
  refine y_iconst hC (pc := 679) dL_law_679 ?_
  refine y_iadd hC (pc := 680) dL_law_680 ?_
  refine y_sld hC (pc := 681) hX hbl hg hL (j := i + 1) (by omega) (by omega) dL_law_681 ?_
  refine y_V1 hC (pc := 682) (q0 := 0) (sp_count hR (ir_toInt _)) lk_L_86 iv_X4_count rfl rfl ⟨by decide, by decide⟩ (Nat.le_of_ble_eq_true rfl) ⟨by show _ ≤ 600000; omega, by show _ ≤ 7302250; omega⟩ dL_law_682 (fun r h9 hq => ?_)
  obtain ⟨v, F1, im1, c1, rfl, rfl, hM⟩ := hq
  refine y_r1 ?_
  refine y_aload_n hC (pc := 685) rfl dL_law_685 ?_
  refine y_aload_n hC (pc := 686) rfl dL_law_686 ?_
  refine y_iload_n hC (pc := 687) rfl dL_law_687 ?_
  refine y_iconst hC (pc := 688) dL_law_688 ?_
  refine y_iadd hC (pc := 689) dL_law_689 ?_
  refine y_sld hC (pc := 690) hX hbl hg hL (j := i + 1) (by omega) (by omega) dL_law_690 ?_
  refine y_V1 hC (pc := 691) (q0 := 23) hM lk_L_89 iv_X5_count rfl rfl ⟨by decide, by decide⟩ (Nat.le_of_ble_eq_true rfl) ⟨by show _ ≤ 600000; omega, by show _ ≤ 7302250; omega⟩ dL_law_691 (fun r h9 hq => ?_)
  obtain ⟨rfl, F2, L2, rfl, hR2⟩ := hq
  refine y_r1 ?_
  refine y_same hC (pc := 694) 745 (by decide) dL_law_694 ?_
  refine y_wide (k2 := k + 7) (n2 := n + 750) (by omega) (by omega) ?_
  exact kk F2 L2 im1 c1 hR2
theorem law_image (hC : zC RL code 4 ret meth.name p s m #[Value.ref sb] meth c) {L : Nat} {xs : Nat → Int32} (hX : va_X sb L xs s s.heap) (hbl : sb < s.heap.size) (hg : g.2.1 = s.heap.size) (hL : L ≤ 2560) {i : Nat} (hi : i + 5 ≤ L) (hR : Rl g F im ci) (hk : k + 7 ≤ 600000) (hn : n + 750 ≤ 7302250) (kk : ∀ (F2 : Nat → Nat → Int) (L2 : Nat → Int) (im2 : Nat → Option Nat) (c2 : Nat), Rl g F2 im2 c2 → zY p l e s m below meth c sb g (k + 7) (n + 750) 745 [some (.ref sb), some (.ref (g.2.1 + 0)), some (.ref (g.2.1 + 23)), some (.int (iz (i : Int)))] [] (zk g F2 L2 im2 c2)) : zY p l e s m below meth c sb g k n 699 [some (.ref sb), some (.ref (g.2.1 + 0)), some (.ref (g.2.1 + 23)), some (.int (iz (i : Int)))] [] (zk g F Lf im ci) := by
  refine y_aload_n hC (pc := 699) rfl dL_law_699 ?_
  refine y_aload_n hC (pc := 700) rfl dL_law_700 ?_
  refine y_iload_n hC (pc := 701) rfl dL_law_701 ?_
  refine y_iconst hC (pc := 702) dL_law_702 ?_
  refine y_iadd hC (pc := 703) dL_law_703 ?_
  refine y_sld hC (pc := 704) hX hbl hg hL (j := i + 1) (by omega) (by omega) dL_law_704 ?_
  refine y_V1 hC (pc := 705) (q0 := 0) (sp_image hR (ir_toInt _)) lk_L_90 iv_X4_image rfl rfl ⟨by decide, by decide⟩ (Nat.le_of_ble_eq_true rfl) ⟨by show _ ≤ 600000; omega, by show _ ≤ 7302250; omega⟩ dL_law_705 (fun r h9 hq => ?_)
  obtain ⟨v, F1, im1, c1, rfl, rfl, hM⟩ := hq
  refine y_r1 ?_
  refine y_aload_n hC (pc := 708) rfl dL_law_708 ?_
  refine y_aload_n hC (pc := 709) rfl dL_law_709 ?_
  refine y_iload_n hC (pc := 710) rfl dL_law_710 ?_
  refine y_iconst hC (pc := 711) dL_law_711 ?_
  refine y_iadd hC (pc := 712) dL_law_712 ?_
  refine y_sld hC (pc := 713) hX hbl hg hL (j := i + 1) (by omega) (by omega) dL_law_713 ?_
  refine y_V1 hC (pc := 714) (q0 := 23) hM lk_L_93 iv_X5_image rfl rfl ⟨by decide, by decide⟩ (Nat.le_of_ble_eq_true rfl) ⟨by show _ ≤ 600000; omega, by show _ ≤ 7302250; omega⟩ dL_law_714 (fun r h9 hq => ?_)
  obtain ⟨rfl, F2, L2, rfl, hR2⟩ := hq
  refine y_r1 ?_
  refine y_same hC (pc := 717) 745 (by decide) dL_law_717 ?_
  refine y_wide (k2 := k + 7) (n2 := n + 750) (by omega) (by omega) ?_
  exact kk F2 L2 im1 c1 hR2
theorem law_again (hC : zC RL code 4 ret meth.name p s m #[Value.ref sb] meth c) {L : Nat} {xs : Nat → Int32} (hX : va_X sb L xs s s.heap) (hbl : sb < s.heap.size) (hg : g.2.1 = s.heap.size) (hL : L ≤ 2560) {i : Nat} (hi : i + 5 ≤ L) (hR : Rl g F im ci) (hk : k + 7 ≤ 600000) (hn : n + 750 ≤ 7302250) (kk : ∀ (F2 : Nat → Nat → Int) (L2 : Nat → Int) (im2 : Nat → Option Nat) (c2 : Nat), Rl g F2 im2 c2 → zY p l e s m below meth c sb g (k + 7) (n + 750) 745 [some (.ref sb), some (.ref (g.2.1 + 0)), some (.ref (g.2.1 + 23)), some (.int (iz (i : Int)))] [] (zk g F2 L2 im2 c2)) : zY p l e s m below meth c sb g k n 722 [some (.ref sb), some (.ref (g.2.1 + 0)), some (.ref (g.2.1 + 23)), some (.int (iz (i : Int)))] [] (zk g F Lf im ci) := by
  refine y_aload_n hC (pc := 722) rfl dL_law_722 ?_
  refine y_aload_n hC (pc := 723) rfl dL_law_723 ?_
  refine y_iload_n hC (pc := 724) rfl dL_law_724 ?_
  refine y_iconst hC (pc := 725) dL_law_725 ?_
  refine y_iadd hC (pc := 726) dL_law_726 ?_
  refine y_sld hC (pc := 727) hX hbl hg hL (j := i + 1) (by omega) (by omega) dL_law_727 ?_
  refine y_V1 hC (pc := 728) (q0 := 0) (sp_again hR (ir_toInt _)) lk_L_94 iv_X4_again rfl rfl ⟨by decide, by decide⟩ (Nat.le_of_ble_eq_true rfl) ⟨by show _ ≤ 600000; omega, by show _ ≤ 7302250; omega⟩ dL_law_728 (fun r h9 hq => ?_)
  obtain ⟨v, F1, im1, c1, rfl, rfl, hM⟩ := hq
  refine y_r1 ?_
  refine y_aload_n hC (pc := 731) rfl dL_law_731 ?_
  refine y_aload_n hC (pc := 732) rfl dL_law_732 ?_
  refine y_iload_n hC (pc := 733) rfl dL_law_733 ?_
  refine y_iconst hC (pc := 734) dL_law_734 ?_
  refine y_iadd hC (pc := 735) dL_law_735 ?_
  refine y_sld hC (pc := 736) hX hbl hg hL (j := i + 1) (by omega) (by omega) dL_law_736 ?_
  refine y_V1 hC (pc := 737) (q0 := 23) hM lk_L_97 iv_X5_again rfl rfl ⟨by decide, by decide⟩ (Nat.le_of_ble_eq_true rfl) ⟨by show _ ≤ 600000; omega, by show _ ≤ 7302250; omega⟩ dL_law_737 (fun r h9 hq => ?_)
  obtain ⟨rfl, F2, L2, rfl, hR2⟩ := hq
  refine y_r1 ?_
  refine y_same hC (pc := 740) 745 (by decide) dL_law_740 ?_
  refine y_wide (k2 := k + 7) (n2 := n + 750) (by omega) (by omega) ?_
  exact kk F2 L2 im1 c1 hR2
end CASES
