/-! the law's cases -/
theorem r_pop2 {E : qE} {y : MethodName} {cc : ByteArray} {ret : Option FieldType} {d mc ms cells slots pc : Nat} {Q : qPost} {L : List (Option Value)} {st : List Value} {S : qSh} {I : qI} {J : qJ} {v : Value} (hd : decode cc pc = .ok (.pop2, 1)) (hv : v.category = 2) (k : qW E y cc ret d mc ms Q cells slots (pc + 1) L st S I J) : qW E y cc ret d mc ms Q cells slots pc L (v :: st) S I J := fun p l e s m args below meth c H locs ls C K P V hL => lv_pop2_2 C.1 C.2.1 hd hv (k p l e s m args below meth c H locs ls C K P V hL)
theorem lwi0 (n : Nat) : nI n = nI (n + 0) := rfl
theorem lwi1 (n : Nat) : nI n + 1 = nI (n + 1) := nI_add (a := n) (b := 1)
theorem lwi2 (n : Nat) : nI n + 2 = nI (n + 2) := nI_add (a := n) (b := 2)
theorem lwi3 (n : Nat) : nI n + 3 = nI (n + 3) := nI_add (a := n) (b := 3)
theorem lwi4 (n : Nat) : nI n + 4 = nI (n + 4) := nI_add (a := n) (b := 4)
theorem lwi5 (n : Nat) : nI n + 5 = nI (n + 5) := nI_add (a := n) (b := 5)
theorem lwi6 (n : Nat) : nI n + 6 = nI (n + 6) := nI_add (a := n) (b := 6)
theorem r_scr {E : qE} {y : MethodName} {cc : ByteArray} {ret : Option FieldType} {d mc ms cells slots pc : Nat} {Q : qPost} {L : List (Option Value)} {st : List Value} {S : qSh} {I : qI} {J : qJ} {x : Int32} {n k : Nat} (hx : x = nI (n + k)) (hd : decode cc pc = .ok (.iaload, 1)) (hn : n + k < qsl E) (hL : qsl E ≤ 3072) (kk : qW E y cc ret d mc ms Q cells slots (pc + 1) L (.int (qsx E (n + k)) :: st) S I J) : qW E y cc ret d mc ms Q cells slots pc L (.int x :: .ref (qsc E) :: st) S I J := by
  subst hx
  refine r_sld hd (vp_in_nI hn (by omega)) ?_
  rw [qcl (by omega)]
  exact kk
def qEnd (E : qE) (c s n : Nat) (Q : qPost) : Prop := ∀ c' s' S I J, c' ≤ c + 5 → s' ≤ s + 133 → tINV S I J → qW E y_L_law b_L_law (some .boolean) 1312 600000 7302250 Q c' s' 1273 [some (.ref (qsc E)), some (.ref (qb E + 0)), some (.ref (qb E + 114)), some (.int (nI n))] [] S I J
section LWP
variable {E : qE} {S : qSh} {I : qI} {J : qJ} {Q : qPost}
theorem lw_case0 {c s n : Nat} (hc : c + 5 ≤ 600000) (hs : s + 133 ≤ 7302250) (hn : n + 5 < qsl E) (hL : qsl E ≤ 3072) (g : tINV S I J) (kend : qEnd E c s n Q) : qW E y_L_law b_L_law (some .boolean) 1312 600000 7302250 Q c s 184 [some (.ref (qsc E)), some (.ref (qb E + 0)), some (.ref (qb E + 114)), some (.int (nI n))] [] S I J := by
  obtain ⟨⟨w0, w1, w2, bl, hC⟩, hM, hR, hT⟩ := id g.1.1.1
  obtain ⟨c0, c06, hc0⟩ := hC.2.2.2.2.1.1
  refine lda_n_4_1 (pc := 184) d_L_law_184 ?_
  refine lda_n_4_0 (pc := 185) d_L_law_185 ?_
  refine ldi_n_4_3 (pc := 186) d_L_law_186 ?_
  refine r_iconst (pc := 187) (v := 1) d_L_law_187 rfl ?_
  refine r_iadd (pc := 188) d_L_law_188 ?_
  refine r_scr (pc := 189) (n := n) (k := 1) (lwi1 n) d_L_law_189 (by omega) hL ?_
  refine lda_n_4_0 (pc := 190) d_L_law_190 ?_
  refine ldi_n_4_3 (pc := 191) d_L_law_191 ?_
  refine r_iconst (pc := 192) (v := 2) d_L_law_192 rfl ?_
  refine r_iadd (pc := 193) d_L_law_193 ?_
  refine r_scr (pc := 194) (n := n) (k := 2) (lwi2 n) d_L_law_194 (by omega) hL ?_
  refine lda_n_4_0 (pc := 195) d_L_law_195 ?_
  refine ldi_n_4_3 (pc := 196) d_L_law_196 ?_
  refine r_iconst (pc := 197) (v := 3) d_L_law_197 rfl ?_
  refine r_iadd (pc := 198) d_L_law_198 ?_
  refine r_scr (pc := 199) (n := n) (k := 3) (lwi3 n) d_L_law_199 (by omega) hL ?_
  refine r_callV (pc := 200) (As := [.int (qsx E (n + 1)), .int (qsx E (n + 2)), .int (qsx E (n + 3))]) (k := 8) (N := 11) (T := T_On) k_L_13 im_On_mourner se_On_mourner rfl (by decide) rfl (by decide) d_L_law_200 hC.1.1 (K_mourner hC hc0 c06) rfl (Nat.le_of_ble_eq_true rfl) (by omega) (by omega) (by omega) (fun v S1 I1 J1 hq => ?_)
  obtain ⟨⟨pK, cw⟩, hK⟩ := hq
  obtain ⟨r1, rfl⟩ : VI v := ⟨_, pK.1⟩
  have hM1 := hK.2.1 hM
  have hR1 := hR.far hK.2.2.1
  have hc1 : I1 114 0 = nI c0 := by rw [(hK.2.2.1 114 (by decide) (by decide)).1]; exact hT.1.1.trans hc0
  refine r_pop (pc := 203) d_L_law_203 rfl ?_
  refine lda_n_4_2 (pc := 204) d_L_law_204 ?_
  refine lda_n_4_0 (pc := 205) d_L_law_205 ?_
  refine ldi_n_4_3 (pc := 206) d_L_law_206 ?_
  refine r_iconst (pc := 207) (v := 1) d_L_law_207 rfl ?_
  refine r_iadd (pc := 208) d_L_law_208 ?_
  refine r_scr (pc := 209) (n := n) (k := 1) (lwi1 n) d_L_law_209 (by omega) hL ?_
  refine lda_n_4_0 (pc := 210) d_L_law_210 ?_
  refine ldi_n_4_3 (pc := 211) d_L_law_211 ?_
  refine r_iconst (pc := 212) (v := 2) d_L_law_212 rfl ?_
  refine r_iadd (pc := 213) d_L_law_213 ?_
  refine r_scr (pc := 214) (n := n) (k := 2) (lwi2 n) d_L_law_214 (by omega) hL ?_
  refine lda_n_4_0 (pc := 215) d_L_law_215 ?_
  refine ldi_n_4_3 (pc := 216) d_L_law_216 ?_
  refine r_iconst (pc := 217) (v := 3) d_L_law_217 rfl ?_
  refine r_iadd (pc := 218) d_L_law_218 ?_
  refine r_scr (pc := 219) (n := n) (k := 3) (lwi3 n) d_L_law_219 (by omega) hL ?_
  refine r_callV (pc := 220) (As := [.int (qsx E (n + 1)), .int (qsx E (n + 2)), .int (qsx E (n + 3))]) (k := 9) (N := 56) (T := T_Md) k_L_17 im_Md_mourner se_Md_mourner rfl (by decide) rfl (by decide) d_L_law_220 hM1.1 (R_mourner hM1 hR1 hc1 c06) rfl (Nat.le_of_ble_eq_true rfl) (by omega) (by omega) (by omega) (fun v2 S2 I2 J2 hq2 => ?_)
  obtain ⟨pR, pv, hV⟩ := hq2
  obtain ⟨r2, rfl⟩ : VI v2 := ⟨_, pv⟩
  refine r_pop (pc := 223) d_L_law_223 rfl ?_
  refine r_goto (pc := 224) (tgt := 1273) d_L_law_224 (by decide) ?_
  exact kend _ _ _ _ _ (by omega) (by omega) (g.mourner c06 hc0 pK.2.1 pK.2.2 cw hK pR.1 pR.2 hV)
theorem lw_case1 {c s n : Nat} (hc : c + 5 ≤ 600000) (hs : s + 133 ≤ 7302250) (hn : n + 5 < qsl E) (hL : qsl E ≤ 3072) (g : tINV S I J) (kend : qEnd E c s n Q) : qW E y_L_law b_L_law (some .boolean) 1312 600000 7302250 Q c s 227 [some (.ref (qsc E)), some (.ref (qb E + 0)), some (.ref (qb E + 114)), some (.int (nI n))] [] S I J := by
  obtain ⟨⟨w0, w1, w2, bl, hC⟩, hM, hR, hT⟩ := id g.1.1.1
  refine lda_n_4_1 (pc := 227) d_L_law_227 ?_
  refine lda_n_4_0 (pc := 228) d_L_law_228 ?_
  refine ldi_n_4_3 (pc := 229) d_L_law_229 ?_
  refine r_iconst (pc := 230) (v := 1) d_L_law_230 rfl ?_
  refine r_iadd (pc := 231) d_L_law_231 ?_
  refine r_scr (pc := 232) (n := n) (k := 1) (lwi1 n) d_L_law_232 (by omega) hL ?_
  refine lda_n_4_0 (pc := 233) d_L_law_233 ?_
  refine ldi_n_4_3 (pc := 234) d_L_law_234 ?_
  refine r_iconst (pc := 235) (v := 2) d_L_law_235 rfl ?_
  refine r_iadd (pc := 236) d_L_law_236 ?_
  refine r_scr (pc := 237) (n := n) (k := 2) (lwi2 n) d_L_law_237 (by omega) hL ?_
  refine r_callV (pc := 238) (As := [.int (qsx E (n + 1)), .int (qsx E (n + 2))]) (k := 8) (N := 11) (T := T_On) k_L_18 im_On_of se_On_of rfl (by decide) rfl (by decide) d_L_law_238 hC.1.1 (K_ofX hC) rfl (Nat.le_of_ble_eq_true rfl) (by omega) (by omega) (by omega) (fun v S1 I1 J1 hq => ?_)
  obtain ⟨⟨pK, cw⟩, hK⟩ := hq
  obtain ⟨r1, rfl⟩ : VI v := (by obtain ⟨⟨c, l, -, -, -, -, h⟩, -⟩ := pK; exact ⟨_, h⟩)
  have hM1 := hK.2.1 hM
  have hR1 := hR.far hK.2.2.1
  refine r_pop (pc := 241) d_L_law_241 rfl ?_
  refine lda_n_4_2 (pc := 242) d_L_law_242 ?_
  refine lda_n_4_0 (pc := 243) d_L_law_243 ?_
  refine ldi_n_4_3 (pc := 244) d_L_law_244 ?_
  refine r_iconst (pc := 245) (v := 1) d_L_law_245 rfl ?_
  refine r_iadd (pc := 246) d_L_law_246 ?_
  refine r_scr (pc := 247) (n := n) (k := 1) (lwi1 n) d_L_law_247 (by omega) hL ?_
  refine lda_n_4_0 (pc := 248) d_L_law_248 ?_
  refine ldi_n_4_3 (pc := 249) d_L_law_249 ?_
  refine r_iconst (pc := 250) (v := 2) d_L_law_250 rfl ?_
  refine r_iadd (pc := 251) d_L_law_251 ?_
  refine r_scr (pc := 252) (n := n) (k := 2) (lwi2 n) d_L_law_252 (by omega) hL ?_
  refine r_callV (pc := 253) (As := [.int (qsx E (n + 1)), .int (qsx E (n + 2))]) (k := 9) (N := 56) (T := T_Md) k_L_22 im_Md_of se_Md_of rfl (by decide) rfl (by decide) d_L_law_253 hM1.1 (R_ofX hM1 hR1) rfl (Nat.le_of_ble_eq_true rfl) (by omega) (by omega) (by omega) (fun v2 S2 I2 J2 hq2 => ?_)
  obtain ⟨⟨pR, rw⟩, hV⟩ := hq2
  obtain ⟨r2, rfl⟩ : VI v2 := (by obtain ⟨⟨c, l, d, -, -, -, -, -, -, h⟩, -⟩ := pR; exact ⟨_, h⟩)
  refine r_pop (pc := 256) d_L_law_256 rfl ?_
  refine r_goto (pc := 257) (tgt := 1273) d_L_law_257 (by decide) ?_
  exact kend _ _ _ _ _ (by omega) (by omega) (g.ask pK.2 cw hK pR.2 rw hV)
theorem lw_case2 {c s n : Nat} (hc : c + 5 ≤ 600000) (hs : s + 133 ≤ 7302250) (hn : n + 5 < qsl E) (hL : qsl E ≤ 3072) (g : tINV S I J) (kend : qEnd E c s n Q) : qW E y_L_law b_L_law (some .boolean) 1312 600000 7302250 Q c s 260 [some (.ref (qsc E)), some (.ref (qb E + 0)), some (.ref (qb E + 114)), some (.int (nI n))] [] S I J := by
  obtain ⟨⟨w0, w1, w2, bl, hC⟩, hM, hR, hT⟩ := id g.1.1.1
  refine lda_n_4_1 (pc := 260) d_L_law_260 ?_
  refine lda_n_4_0 (pc := 261) d_L_law_261 ?_
  refine ldi_n_4_3 (pc := 262) d_L_law_262 ?_
  refine r_iconst (pc := 263) (v := 1) d_L_law_263 rfl ?_
  refine r_iadd (pc := 264) d_L_law_264 ?_
  refine r_scr (pc := 265) (n := n) (k := 1) (lwi1 n) d_L_law_265 (by omega) hL ?_
  refine lda_n_4_0 (pc := 266) d_L_law_266 ?_
  refine ldi_n_4_3 (pc := 267) d_L_law_267 ?_
  refine r_iconst (pc := 268) (v := 2) d_L_law_268 rfl ?_
  refine r_iadd (pc := 269) d_L_law_269 ?_
  refine r_scr (pc := 270) (n := n) (k := 2) (lwi2 n) d_L_law_270 (by omega) hL ?_
  refine lda_n_4_0 (pc := 271) d_L_law_271 ?_
  refine ldi_n_4_3 (pc := 272) d_L_law_272 ?_
  refine r_iconst (pc := 273) (v := 3) d_L_law_273 rfl ?_
  refine r_iadd (pc := 274) d_L_law_274 ?_
  refine r_scr (pc := 275) (n := n) (k := 3) (lwi3 n) d_L_law_275 (by omega) hL ?_
  refine r_callV (pc := 276) (As := [.int (qsx E (n + 1)), .int (qsx E (n + 2)), .int (qsx E (n + 3))]) (k := 8) (N := 11) (T := T_On) k_L_23 im_On_set se_On_set rfl (by decide) rfl (by decide) d_L_law_276 hC.1.1 (K_set hC) rfl (Nat.le_of_ble_eq_true rfl) (by omega) (by omega) (by omega) (fun v S1 I1 J1 hq => ?_)
  obtain ⟨⟨pK, cw⟩, hK⟩ := hq
  obtain ⟨r1, rfl⟩ : VI v := (by obtain ⟨c, -, -, h, -⟩ := pK; exact ⟨_, h⟩)
  have hM1 := hK.2.1 hM
  have hR1 := hR.far hK.2.2.1
  refine r_pop (pc := 279) d_L_law_279 rfl ?_
  refine lda_n_4_2 (pc := 280) d_L_law_280 ?_
  refine lda_n_4_0 (pc := 281) d_L_law_281 ?_
  refine ldi_n_4_3 (pc := 282) d_L_law_282 ?_
  refine r_iconst (pc := 283) (v := 1) d_L_law_283 rfl ?_
  refine r_iadd (pc := 284) d_L_law_284 ?_
  refine r_scr (pc := 285) (n := n) (k := 1) (lwi1 n) d_L_law_285 (by omega) hL ?_
  refine lda_n_4_0 (pc := 286) d_L_law_286 ?_
  refine ldi_n_4_3 (pc := 287) d_L_law_287 ?_
  refine r_iconst (pc := 288) (v := 2) d_L_law_288 rfl ?_
  refine r_iadd (pc := 289) d_L_law_289 ?_
  refine r_scr (pc := 290) (n := n) (k := 2) (lwi2 n) d_L_law_290 (by omega) hL ?_
  refine lda_n_4_0 (pc := 291) d_L_law_291 ?_
  refine ldi_n_4_3 (pc := 292) d_L_law_292 ?_
  refine r_iconst (pc := 293) (v := 3) d_L_law_293 rfl ?_
  refine r_iadd (pc := 294) d_L_law_294 ?_
  refine r_scr (pc := 295) (n := n) (k := 3) (lwi3 n) d_L_law_295 (by omega) hL ?_
  refine r_callV (pc := 296) (As := [.int (qsx E (n + 1)), .int (qsx E (n + 2)), .int (qsx E (n + 3))]) (k := 9) (N := 56) (T := T_Md) k_L_26 im_Md_set se_Md_set rfl (by decide) rfl (by decide) d_L_law_296 hM1.1 (R_set hM1 hR1) rfl (Nat.le_of_ble_eq_true rfl) (by omega) (by omega) (by omega) (fun v2 S2 I2 J2 hq2 => ?_)
  obtain ⟨pR, hV⟩ := hq2
  obtain ⟨r2, rfl⟩ : VI v2 := ⟨_, pR.1⟩
  refine r_pop (pc := 299) d_L_law_299 rfl ?_
  refine r_goto (pc := 300) (tgt := 1273) d_L_law_300 (by decide) ?_
  exact kend _ _ _ _ _ (by omega) (by omega) (g.set pK cw hK pR hV).1
theorem lw_case3 {c s n : Nat} (hc : c + 5 ≤ 600000) (hs : s + 133 ≤ 7302250) (hn : n + 5 < qsl E) (hL : qsl E ≤ 3072) (g : tINV S I J) (kend : qEnd E c s n Q) : qW E y_L_law b_L_law (some .boolean) 1312 600000 7302250 Q c s 303 [some (.ref (qsc E)), some (.ref (qb E + 0)), some (.ref (qb E + 114)), some (.int (nI n))] [] S I J := by
  obtain ⟨⟨w0, w1, w2, bl, hC⟩, hM, hR, hT⟩ := id g.1.1.1
  refine lda_n_4_1 (pc := 303) d_L_law_303 ?_
  refine lda_n_4_0 (pc := 304) d_L_law_304 ?_
  refine ldi_n_4_3 (pc := 305) d_L_law_305 ?_
  refine r_iconst (pc := 306) (v := 1) d_L_law_306 rfl ?_
  refine r_iadd (pc := 307) d_L_law_307 ?_
  refine r_scr (pc := 308) (n := n) (k := 1) (lwi1 n) d_L_law_308 (by omega) hL ?_
  refine lda_n_4_0 (pc := 309) d_L_law_309 ?_
  refine ldi_n_4_3 (pc := 310) d_L_law_310 ?_
  refine r_iconst (pc := 311) (v := 2) d_L_law_311 rfl ?_
  refine r_iadd (pc := 312) d_L_law_312 ?_
  refine r_scr (pc := 313) (n := n) (k := 2) (lwi2 n) d_L_law_313 (by omega) hL ?_
  refine r_if_eq (pc := 314) (tgt := 321) d_L_law_314 (by decide) (fun c314 => ?_) (fun c314 => ?_)
  · refine r_iconst (pc := 321) (v := 0) d_L_law_321 rfl ?_
    refine r_callV (pc := 322) (As := [.int (qsx E (n + 1)), .int 0]) (k := 8) (N := 11) (T := T_On) k_L_27 im_On_done se_On_done rfl (by decide) rfl (by decide) d_L_law_322 hC.1.1 (K_done hC (Or.inl rfl)) rfl (Nat.le_of_ble_eq_true rfl) (by omega) (by omega) (by omega) (fun v S1 I1 J1 hq => ?_)
    obtain ⟨⟨pK, cw⟩, hK⟩ := hq
    obtain ⟨r1, rfl⟩ : VI v := (by obtain ⟨c, -, -, h, -⟩ := pK; exact ⟨_, h⟩)
    have hM1 := hK.2.1 hM
    have hR1 := hR.far hK.2.2.1
    refine r_pop (pc := 325) d_L_law_325 rfl ?_
    refine lda_n_4_2 (pc := 326) d_L_law_326 ?_
    refine lda_n_4_0 (pc := 327) d_L_law_327 ?_
    refine ldi_n_4_3 (pc := 328) d_L_law_328 ?_
    refine r_iconst (pc := 329) (v := 1) d_L_law_329 rfl ?_
    refine r_iadd (pc := 330) d_L_law_330 ?_
    refine r_scr (pc := 331) (n := n) (k := 1) (lwi1 n) d_L_law_331 (by omega) hL ?_
    refine lda_n_4_0 (pc := 332) d_L_law_332 ?_
    refine ldi_n_4_3 (pc := 333) d_L_law_333 ?_
    refine r_iconst (pc := 334) (v := 2) d_L_law_334 rfl ?_
    refine r_iadd (pc := 335) d_L_law_335 ?_
    refine r_scr (pc := 336) (n := n) (k := 2) (lwi2 n) d_L_law_336 (by omega) hL ?_
    refine r_if_eq (pc := 337) (tgt := 344) d_L_law_337 (by decide) (fun c337 => ?_) (fun c337 => ?_)
    · refine r_iconst (pc := 344) (v := 0) d_L_law_344 rfl ?_
      refine r_callV (pc := 345) (As := [.int (qsx E (n + 1)), .int 0]) (k := 9) (N := 56) (T := T_Md) k_L_31 im_Md_done se_Md_done rfl (by decide) rfl (by decide) d_L_law_345 hM1.1 (R_done hM1 hR1) rfl (Nat.le_of_ble_eq_true rfl) (by omega) (by omega) (by omega) (fun v2 S2 I2 J2 hq2 => ?_)
      obtain ⟨pR, hV⟩ := hq2
      obtain ⟨r2, rfl⟩ : VI v2 := ⟨_, pR.1⟩
      refine r_pop (pc := 348) d_L_law_348 rfl ?_
      refine r_goto (pc := 349) (tgt := 1273) d_L_law_349 (by decide) ?_
      exact kend _ _ _ _ _ (by omega) (by omega) (g.done (by first | exact Or.inl rfl | exact Or.inr rfl) pK cw hK pR hV).1
    · exact absurd c314 c337
  · refine r_iconst (pc := 317) (v := 1) d_L_law_317 rfl ?_
    refine r_goto (pc := 318) (tgt := 322) d_L_law_318 (by decide) ?_
    refine r_callV (pc := 322) (As := [.int (qsx E (n + 1)), .int 1]) (k := 8) (N := 11) (T := T_On) k_L_27 im_On_done se_On_done rfl (by decide) rfl (by decide) d_L_law_322 hC.1.1 (K_done hC (Or.inr rfl)) rfl (Nat.le_of_ble_eq_true rfl) (by omega) (by omega) (by omega) (fun v S1 I1 J1 hq => ?_)
    obtain ⟨⟨pK, cw⟩, hK⟩ := hq
    obtain ⟨r1, rfl⟩ : VI v := (by obtain ⟨c, -, -, h, -⟩ := pK; exact ⟨_, h⟩)
    have hM1 := hK.2.1 hM
    have hR1 := hR.far hK.2.2.1
    refine r_pop (pc := 325) d_L_law_325 rfl ?_
    refine lda_n_4_2 (pc := 326) d_L_law_326 ?_
    refine lda_n_4_0 (pc := 327) d_L_law_327 ?_
    refine ldi_n_4_3 (pc := 328) d_L_law_328 ?_
    refine r_iconst (pc := 329) (v := 1) d_L_law_329 rfl ?_
    refine r_iadd (pc := 330) d_L_law_330 ?_
    refine r_scr (pc := 331) (n := n) (k := 1) (lwi1 n) d_L_law_331 (by omega) hL ?_
    refine lda_n_4_0 (pc := 332) d_L_law_332 ?_
    refine ldi_n_4_3 (pc := 333) d_L_law_333 ?_
    refine r_iconst (pc := 334) (v := 2) d_L_law_334 rfl ?_
    refine r_iadd (pc := 335) d_L_law_335 ?_
    refine r_scr (pc := 336) (n := n) (k := 2) (lwi2 n) d_L_law_336 (by omega) hL ?_
    refine r_if_eq (pc := 337) (tgt := 344) d_L_law_337 (by decide) (fun c337 => ?_) (fun c337 => ?_)
    · exact absurd c337 c314
    · refine r_iconst (pc := 340) (v := 1) d_L_law_340 rfl ?_
      refine r_goto (pc := 341) (tgt := 345) d_L_law_341 (by decide) ?_
      refine r_callV (pc := 345) (As := [.int (qsx E (n + 1)), .int 1]) (k := 9) (N := 56) (T := T_Md) k_L_31 im_Md_done se_Md_done rfl (by decide) rfl (by decide) d_L_law_345 hM1.1 (R_done hM1 hR1) rfl (Nat.le_of_ble_eq_true rfl) (by omega) (by omega) (by omega) (fun v2 S2 I2 J2 hq2 => ?_)
      obtain ⟨pR, hV⟩ := hq2
      obtain ⟨r2, rfl⟩ : VI v2 := ⟨_, pR.1⟩
      refine r_pop (pc := 348) d_L_law_348 rfl ?_
      refine r_goto (pc := 349) (tgt := 1273) d_L_law_349 (by decide) ?_
      exact kend _ _ _ _ _ (by omega) (by omega) (g.done (by first | exact Or.inl rfl | exact Or.inr rfl) pK cw hK pR hV).1
theorem lw_case4 {c s n : Nat} (hc : c + 5 ≤ 600000) (hs : s + 133 ≤ 7302250) (hn : n + 5 < qsl E) (hL : qsl E ≤ 3072) (g : tINV S I J) (kend : qEnd E c s n Q) : qW E y_L_law b_L_law (some .boolean) 1312 600000 7302250 Q c s 352 [some (.ref (qsc E)), some (.ref (qb E + 0)), some (.ref (qb E + 114)), some (.int (nI n))] [] S I J := by
  obtain ⟨⟨w0, w1, w2, bl, hC⟩, hM, hR, hT⟩ := id g.1.1.1
  refine lda_n_4_1 (pc := 352) d_L_law_352 ?_
  refine lda_n_4_0 (pc := 353) d_L_law_353 ?_
  refine ldi_n_4_3 (pc := 354) d_L_law_354 ?_
  refine r_iconst (pc := 355) (v := 1) d_L_law_355 rfl ?_
  refine r_iadd (pc := 356) d_L_law_356 ?_
  refine r_scr (pc := 357) (n := n) (k := 1) (lwi1 n) d_L_law_357 (by omega) hL ?_
  refine r_callV (pc := 358) (As := [.int (qsx E (n + 1))]) (k := 8) (N := 11) (T := T_On) k_L_32 im_On_list se_On_list rfl (by decide) rfl (by decide) d_L_law_358 hC.1.1 (K_list hC) rfl (Nat.le_of_ble_eq_true rfl) (by omega) (by omega) (by omega) (fun v S1 I1 J1 hq => ?_)
  obtain ⟨⟨pK, cw⟩, hK⟩ := hq
  obtain ⟨r1, rfl⟩ : VI v := (by obtain ⟨c, l, -, -, -, -, h, -⟩ := pK; exact ⟨_, h⟩)
  have hM1 := hK.2.1 hM
  have hR1 := hR.far hK.2.2.1
  refine r_pop (pc := 361) d_L_law_361 rfl ?_
  refine lda_n_4_2 (pc := 362) d_L_law_362 ?_
  refine lda_n_4_0 (pc := 363) d_L_law_363 ?_
  refine ldi_n_4_3 (pc := 364) d_L_law_364 ?_
  refine r_iconst (pc := 365) (v := 1) d_L_law_365 rfl ?_
  refine r_iadd (pc := 366) d_L_law_366 ?_
  refine r_scr (pc := 367) (n := n) (k := 1) (lwi1 n) d_L_law_367 (by omega) hL ?_
  refine r_callV (pc := 368) (As := [.int (qsx E (n + 1))]) (k := 9) (N := 56) (T := T_Md) k_L_36 im_Md_list se_Md_list rfl (by decide) rfl (by decide) d_L_law_368 hM1.1 (R_list hM1 hR1) rfl (Nat.le_of_ble_eq_true rfl) (by omega) (by omega) (by omega) (fun v2 S2 I2 J2 hq2 => ?_)
  obtain ⟨pR, hV⟩ := hq2
  obtain ⟨r2, rfl⟩ : VI v2 := (by obtain ⟨l, -, -, h, -⟩ := pR; exact ⟨_, h⟩)
  refine r_pop (pc := 371) d_L_law_371 rfl ?_
  refine r_goto (pc := 372) (tgt := 1273) d_L_law_372 (by decide) ?_
  exact kend _ _ _ _ _ (by omega) (by omega) (g.list pK cw hK pR hV)
theorem lw_case5 {c s n : Nat} (hc : c + 5 ≤ 600000) (hs : s + 133 ≤ 7302250) (hn : n + 5 < qsl E) (hL : qsl E ≤ 3072) (g : tINV S I J) (kend : qEnd E c s n Q) : qW E y_L_law b_L_law (some .boolean) 1312 600000 7302250 Q c s 375 [some (.ref (qsc E)), some (.ref (qb E + 0)), some (.ref (qb E + 114)), some (.int (nI n))] [] S I J := by
  obtain ⟨⟨w0, w1, w2, bl, hC⟩, hM, hR, hT⟩ := id g.1.1.1
  refine lda_n_4_1 (pc := 375) d_L_law_375 ?_
  refine lda_n_4_0 (pc := 376) d_L_law_376 ?_
  refine ldi_n_4_3 (pc := 377) d_L_law_377 ?_
  refine r_iconst (pc := 378) (v := 1) d_L_law_378 rfl ?_
  refine r_iadd (pc := 379) d_L_law_379 ?_
  refine r_scr (pc := 380) (n := n) (k := 1) (lwi1 n) d_L_law_380 (by omega) hL ?_
  refine lda_n_4_0 (pc := 381) d_L_law_381 ?_
  refine ldi_n_4_3 (pc := 382) d_L_law_382 ?_
  refine r_iconst (pc := 383) (v := 2) d_L_law_383 rfl ?_
  refine r_iadd (pc := 384) d_L_law_384 ?_
  refine r_scr (pc := 385) (n := n) (k := 2) (lwi2 n) d_L_law_385 (by omega) hL ?_
  refine r_callV (pc := 386) (As := [.int (qsx E (n + 1)), .int (qsx E (n + 2))]) (k := 8) (N := 11) (T := T_On) k_L_37 im_On_swap se_On_swap rfl (by decide) rfl (by decide) d_L_law_386 hC.1.1 (K_swap hC) rfl (Nat.le_of_ble_eq_true rfl) (by omega) (by omega) (by omega) (fun v S1 I1 J1 hq => ?_)
  obtain ⟨⟨pK, cw⟩, hK⟩ := hq
  obtain ⟨r1, rfl⟩ : VI v := (by obtain ⟨c, l, -, -, -, -, h, -⟩ := pK; exact ⟨_, h⟩)
  have hM1 := hK.2.1 hM
  have hR1 := hR.far hK.2.2.1
  refine r_pop (pc := 389) d_L_law_389 rfl ?_
  refine lda_n_4_2 (pc := 390) d_L_law_390 ?_
  refine lda_n_4_0 (pc := 391) d_L_law_391 ?_
  refine ldi_n_4_3 (pc := 392) d_L_law_392 ?_
  refine r_iconst (pc := 393) (v := 1) d_L_law_393 rfl ?_
  refine r_iadd (pc := 394) d_L_law_394 ?_
  refine r_scr (pc := 395) (n := n) (k := 1) (lwi1 n) d_L_law_395 (by omega) hL ?_
  refine lda_n_4_0 (pc := 396) d_L_law_396 ?_
  refine ldi_n_4_3 (pc := 397) d_L_law_397 ?_
  refine r_iconst (pc := 398) (v := 2) d_L_law_398 rfl ?_
  refine r_iadd (pc := 399) d_L_law_399 ?_
  refine r_scr (pc := 400) (n := n) (k := 2) (lwi2 n) d_L_law_400 (by omega) hL ?_
  refine r_callV (pc := 401) (As := [.int (qsx E (n + 1)), .int (qsx E (n + 2))]) (k := 9) (N := 56) (T := T_Md) k_L_40 im_Md_swap se_Md_swap rfl (by decide) rfl (by decide) d_L_law_401 hM1.1 (R_swap hM1 hR1) rfl (Nat.le_of_ble_eq_true rfl) (by omega) (by omega) (by omega) (fun v2 S2 I2 J2 hq2 => ?_)
  obtain ⟨pR, hV⟩ := hq2
  obtain ⟨r2, rfl⟩ : VI v2 := (by obtain ⟨l, -, -, h, -⟩ := pR; exact ⟨_, h⟩)
  refine r_pop (pc := 404) d_L_law_404 rfl ?_
  refine r_goto (pc := 405) (tgt := 1273) d_L_law_405 (by decide) ?_
  exact kend _ _ _ _ _ (by omega) (by omega) (g.swap pK cw hK pR hV)
theorem lw_case6 {c s n : Nat} (hc : c + 5 ≤ 600000) (hs : s + 133 ≤ 7302250) (hn : n + 5 < qsl E) (hL : qsl E ≤ 3072) (g : tINV S I J) (kend : qEnd E c s n Q) : qW E y_L_law b_L_law (some .boolean) 1312 600000 7302250 Q c s 408 [some (.ref (qsc E)), some (.ref (qb E + 0)), some (.ref (qb E + 114)), some (.int (nI n))] [] S I J := by
  obtain ⟨⟨w0, w1, w2, bl, hC⟩, hM, hR, hT⟩ := id g.1.1.1
  refine lda_n_4_1 (pc := 408) d_L_law_408 ?_
  refine lda_n_4_0 (pc := 409) d_L_law_409 ?_
  refine ldi_n_4_3 (pc := 410) d_L_law_410 ?_
  refine r_iconst (pc := 411) (v := 1) d_L_law_411 rfl ?_
  refine r_iadd (pc := 412) d_L_law_412 ?_
  refine r_scr (pc := 413) (n := n) (k := 1) (lwi1 n) d_L_law_413 (by omega) hL ?_
  refine lda_n_4_0 (pc := 414) d_L_law_414 ?_
  refine ldi_n_4_3 (pc := 415) d_L_law_415 ?_
  refine r_iconst (pc := 416) (v := 2) d_L_law_416 rfl ?_
  refine r_iadd (pc := 417) d_L_law_417 ?_
  refine r_scr (pc := 418) (n := n) (k := 2) (lwi2 n) d_L_law_418 (by omega) hL ?_
  refine lda_n_4_0 (pc := 419) d_L_law_419 ?_
  refine ldi_n_4_3 (pc := 420) d_L_law_420 ?_
  refine r_iconst (pc := 421) (v := 3) d_L_law_421 rfl ?_
  refine r_iadd (pc := 422) d_L_law_422 ?_
  refine r_scr (pc := 423) (n := n) (k := 3) (lwi3 n) d_L_law_423 (by omega) hL ?_
  refine r_callV (pc := 424) (As := [.int (qsx E (n + 1)), .int (qsx E (n + 2)), .int (qsx E (n + 3))]) (k := 8) (N := 11) (T := T_On) k_L_41 im_On_row se_On_row rfl (by decide) rfl (by decide) d_L_law_424 hC.1.1 (K_row hC) rfl (Nat.le_of_ble_eq_true rfl) (by omega) (by omega) (by omega) (fun v S1 I1 J1 hq => ?_)
  obtain ⟨⟨pK, cw⟩, hK⟩ := hq
  obtain ⟨r1, rfl⟩ : VI v := (by obtain ⟨c, -, -, h, -⟩ := pK; exact ⟨_, h⟩)
  have hM1 := hK.2.1 hM
  have hR1 := hR.far hK.2.2.1
  refine r_pop (pc := 427) d_L_law_427 rfl ?_
  refine lda_n_4_2 (pc := 428) d_L_law_428 ?_
  refine lda_n_4_0 (pc := 429) d_L_law_429 ?_
  refine ldi_n_4_3 (pc := 430) d_L_law_430 ?_
  refine r_iconst (pc := 431) (v := 1) d_L_law_431 rfl ?_
  refine r_iadd (pc := 432) d_L_law_432 ?_
  refine r_scr (pc := 433) (n := n) (k := 1) (lwi1 n) d_L_law_433 (by omega) hL ?_
  refine lda_n_4_0 (pc := 434) d_L_law_434 ?_
  refine ldi_n_4_3 (pc := 435) d_L_law_435 ?_
  refine r_iconst (pc := 436) (v := 2) d_L_law_436 rfl ?_
  refine r_iadd (pc := 437) d_L_law_437 ?_
  refine r_scr (pc := 438) (n := n) (k := 2) (lwi2 n) d_L_law_438 (by omega) hL ?_
  refine lda_n_4_0 (pc := 439) d_L_law_439 ?_
  refine ldi_n_4_3 (pc := 440) d_L_law_440 ?_
  refine r_iconst (pc := 441) (v := 3) d_L_law_441 rfl ?_
  refine r_iadd (pc := 442) d_L_law_442 ?_
  refine r_scr (pc := 443) (n := n) (k := 3) (lwi3 n) d_L_law_443 (by omega) hL ?_
  refine r_callV (pc := 444) (As := [.int (qsx E (n + 1)), .int (qsx E (n + 2)), .int (qsx E (n + 3))]) (k := 9) (N := 56) (T := T_Md) k_L_44 im_Md_row se_Md_row rfl (by decide) rfl (by decide) d_L_law_444 hM1.1 (R_row hM1 hR1) rfl (Nat.le_of_ble_eq_true rfl) (by omega) (by omega) (by omega) (fun v2 S2 I2 J2 hq2 => ?_)
  obtain ⟨pR, hV⟩ := hq2
  obtain ⟨r2, rfl⟩ : VI v2 := ⟨_, pR.1⟩
  refine r_pop (pc := 447) d_L_law_447 rfl ?_
  refine r_goto (pc := 448) (tgt := 1273) d_L_law_448 (by decide) ?_
  exact kend _ _ _ _ _ (by omega) (by omega) (g.row pK cw hK pR hV)
theorem lw_case7 {c s n : Nat} (hc : c + 5 ≤ 600000) (hs : s + 133 ≤ 7302250) (hn : n + 5 < qsl E) (hL : qsl E ≤ 3072) (g : tINV S I J) (kend : qEnd E c s n Q) : qW E y_L_law b_L_law (some .boolean) 1312 600000 7302250 Q c s 451 [some (.ref (qsc E)), some (.ref (qb E + 0)), some (.ref (qb E + 114)), some (.int (nI n))] [] S I J := by
  obtain ⟨⟨w0, w1, w2, bl, hC⟩, hM, hR, hT⟩ := id g.1.1.1
  refine lda_n_4_1 (pc := 451) d_L_law_451 ?_
  refine lda_n_4_0 (pc := 452) d_L_law_452 ?_
  refine ldi_n_4_3 (pc := 453) d_L_law_453 ?_
  refine r_iconst (pc := 454) (v := 1) d_L_law_454 rfl ?_
  refine r_iadd (pc := 455) d_L_law_455 ?_
  refine r_scr (pc := 456) (n := n) (k := 1) (lwi1 n) d_L_law_456 (by omega) hL ?_
  refine r_callV (pc := 457) (As := [.int (qsx E (n + 1))]) (k := 8) (N := 11) (T := T_On) k_L_45 im_On_feed se_On_feed rfl (by decide) rfl (by decide) d_L_law_457 hC.1.1 (K_feed hC) rfl (Nat.le_of_ble_eq_true rfl) (by omega) (by omega) (by omega) (fun v S1 I1 J1 hq => ?_)
  obtain ⟨⟨pK, cw⟩, hK⟩ := hq
  obtain ⟨r1, rfl⟩ : VI v := (by obtain ⟨z, -, -, h, -⟩ := pK; exact ⟨_, h⟩)
  have hM1 := hK.2.1 hM
  have hR1 := hR.far hK.2.2.1
  refine r_pop (pc := 460) d_L_law_460 rfl ?_
  refine lda_n_4_2 (pc := 461) d_L_law_461 ?_
  refine lda_n_4_0 (pc := 462) d_L_law_462 ?_
  refine ldi_n_4_3 (pc := 463) d_L_law_463 ?_
  refine r_iconst (pc := 464) (v := 1) d_L_law_464 rfl ?_
  refine r_iadd (pc := 465) d_L_law_465 ?_
  refine r_scr (pc := 466) (n := n) (k := 1) (lwi1 n) d_L_law_466 (by omega) hL ?_
  refine r_callV (pc := 467) (As := [.int (qsx E (n + 1))]) (k := 9) (N := 56) (T := T_Md) k_L_48 im_Md_feed se_Md_feed rfl (by decide) rfl (by decide) d_L_law_467 hM1.1 (R_feed hM1 hR1) rfl (Nat.le_of_ble_eq_true rfl) (by omega) (by omega) (by omega) (fun v2 S2 I2 J2 hq2 => ?_)
  obtain ⟨pR, hV⟩ := hq2
  obtain ⟨r2, rfl⟩ : VI v2 := ⟨_, pR.1⟩
  refine r_pop (pc := 470) d_L_law_470 rfl ?_
  refine r_goto (pc := 471) (tgt := 1273) d_L_law_471 (by decide) ?_
  exact kend _ _ _ _ _ (by omega) (by omega) (g.feed pK cw hK pR hV)
theorem lw_case8 {c s n : Nat} (hc : c + 5 ≤ 600000) (hs : s + 133 ≤ 7302250) (hn : n + 5 < qsl E) (hL : qsl E ≤ 3072) (g : tINV S I J) (kend : qEnd E c s n Q) : qW E y_L_law b_L_law (some .boolean) 1312 600000 7302250 Q c s 474 [some (.ref (qsc E)), some (.ref (qb E + 0)), some (.ref (qb E + 114)), some (.int (nI n))] [] S I J := by
  obtain ⟨⟨w0, w1, w2, bl, hC⟩, hM, hR, hT⟩ := id g.1.1.1
  obtain ⟨nt, nt1, hn87, hx0⟩ := hC.tx
  have hx := hT.2.2.2.2.2.tx hx0
  by_cases h6 : I 0 7 = 6
  · refine lda_n_4_1 (pc := 474) d_L_law_474 ?_
    refine r_callV (pc := 475) (As := []) (k := 8) (N := 11) (T := T_On) k_L_49 im_On_island se_On_island rfl (by decide) rfl (by decide) d_L_law_475 hC.1.1 (K_island6 hC h6) rfl (Nat.le_of_ble_eq_true rfl) (by omega) (by omega) (by omega) (fun v S1 I1 J1 hq => ?_)
    obtain ⟨⟨pK, cw⟩, hK⟩ := hq
    obtain ⟨r1, rfl⟩ : VI v := ⟨_, pK.1⟩
    have hM1 := hK.2.1 hM
    have hR1 := hR.far hK.2.2.1
    refine r_pop (pc := 478) d_L_law_478 rfl ?_
    refine lda_n_4_2 (pc := 479) d_L_law_479 ?_
    refine r_callV (pc := 480) (As := []) (k := 9) (N := 56) (T := T_Md) k_L_53 im_Md_island se_Md_island rfl (by decide) rfl (by decide) d_L_law_480 hM1.1 (R_island hM1 hR1) rfl (Nat.le_of_ble_eq_true rfl) (by omega) (by omega) (by omega) (fun v2 S2 I2 J2 hq2 => ?_)
    obtain ⟨pR, hV⟩ := hq2
    obtain ⟨r2, rfl⟩ : VI v2 := (by rcases pR.1 with ⟨-, h, -⟩ | ⟨g1, z1, cz1, -, -, -, -, -, -, ⟨-, h, -⟩ | ⟨-, h, -⟩⟩ <;> exact ⟨_, h⟩)
    refine r_pop (pc := 483) d_L_law_483 rfl ?_
    refine r_goto (pc := 484) (tgt := 1273) d_L_law_484 (by decide) ?_
    exact kend _ _ _ _ _ (by omega) (by omega) (g.isl6 h6 pK cw hK pR hV.2.2.2.2 hV).1
  · by_cases hr : rok (rread (I 123) nt) nt = 0
    · refine lda_n_4_1 (pc := 474) d_L_law_474 ?_
      refine r_callV (pc := 475) (As := []) (k := 8) (N := 11) (T := T_On) k_L_49 im_On_island se_On_island rfl (by decide) rfl (by decide) d_L_law_475 hC.1.1 (K_islandF hC hx h6 hr) rfl (Nat.le_of_ble_eq_true rfl) (by omega) (by omega) (by omega) (fun v S1 I1 J1 hq => ?_)
      obtain ⟨⟨pK, cw⟩, hK⟩ := hq
      obtain ⟨r1, rfl⟩ : VI v := ⟨_, pK.1⟩
      have hM1 := hK.2.1 hM
      have hR1 := hR.far hK.2.2.1
      refine r_pop (pc := 478) d_L_law_478 rfl ?_
      refine lda_n_4_2 (pc := 479) d_L_law_479 ?_
      refine r_callV (pc := 480) (As := []) (k := 9) (N := 56) (T := T_Md) k_L_53 im_Md_island se_Md_island rfl (by decide) rfl (by decide) d_L_law_480 hM1.1 (R_island hM1 hR1) rfl (Nat.le_of_ble_eq_true rfl) (by omega) (by omega) (by omega) (fun v2 S2 I2 J2 hq2 => ?_)
      obtain ⟨pR, hV⟩ := hq2
      obtain ⟨r2, rfl⟩ : VI v2 := (by rcases pR.1 with ⟨-, h, -⟩ | ⟨g1, z1, cz1, -, -, -, -, -, -, ⟨-, h, -⟩ | ⟨-, h, -⟩⟩ <;> exact ⟨_, h⟩)
      refine r_pop (pc := 483) d_L_law_483 rfl ?_
      refine r_goto (pc := 484) (tgt := 1273) d_L_law_484 (by decide) ?_
      exact kend _ _ _ _ _ (by omega) (by omega) (g.isl h6 hn87 nt1 pK.2 hK.2.2.2.2.1 hK pR hV.2.2.2.2 hV (Or.inl ⟨hr, pK.1, hK.2.2.2.2.2⟩) (Or.inl ⟨hr, cw⟩)).1
    · refine lda_n_4_1 (pc := 474) d_L_law_474 ?_
      refine r_callV (pc := 475) (As := []) (k := 8) (N := 11) (T := T_On) k_L_49 im_On_island se_On_island rfl (by decide) rfl (by decide) d_L_law_475 hC.1.1 (K_island hC hx h6 hr) rfl (Nat.le_of_ble_eq_true rfl) (by omega) (by omega) (by omega) (fun v S1 I1 J1 hq => ?_)
      obtain ⟨⟨pK, cw⟩, hK⟩ := hq
      obtain ⟨r1, rfl⟩ : VI v := (by obtain ⟨g1, -, -, h, -⟩ := pK; exact ⟨_, h⟩)
      have hM1 := hK.2.1 hM
      have hR1 := hR.far hK.2.2.1
      refine r_pop (pc := 478) d_L_law_478 rfl ?_
      refine lda_n_4_2 (pc := 479) d_L_law_479 ?_
      refine r_callV (pc := 480) (As := []) (k := 9) (N := 56) (T := T_Md) k_L_53 im_Md_island se_Md_island rfl (by decide) rfl (by decide) d_L_law_480 hM1.1 (R_island hM1 hR1) rfl (Nat.le_of_ble_eq_true rfl) (by omega) (by omega) (by omega) (fun v2 S2 I2 J2 hq2 => ?_)
      obtain ⟨pR, hV⟩ := hq2
      obtain ⟨r2, rfl⟩ : VI v2 := (by rcases pR.1 with ⟨-, h, -⟩ | ⟨g1, z1, cz1, -, -, -, -, -, -, ⟨-, h, -⟩ | ⟨-, h, -⟩⟩ <;> exact ⟨_, h⟩)
      refine r_pop (pc := 483) d_L_law_483 rfl ?_
      refine r_goto (pc := 484) (tgt := 1273) d_L_law_484 (by decide) ?_
      exact kend _ _ _ _ _ (by omega) (by omega) (g.isl h6 hn87 nt1 (by obtain ⟨g1, -, -, -, h⟩ := pK; exact h) hK.2.2.2.2.1 hK pR hV.2.2.2.2 hV (Or.inr ⟨hr, (by obtain ⟨g1, h1, h2, h3, -⟩ := pK; exact ⟨g1, h1, h2, h3⟩), hK.2.2.2.2.2⟩) (Or.inr ⟨hr, cw⟩)).1
theorem lw_case9 {c s n : Nat} (hc : c + 5 ≤ 600000) (hs : s + 133 ≤ 7302250) (hn : n + 5 < qsl E) (hL : qsl E ≤ 3072) (g : tINV S I J) (kend : qEnd E c s n Q) : qW E y_L_law b_L_law (some .boolean) 1312 600000 7302250 Q c s 487 [some (.ref (qsc E)), some (.ref (qb E + 0)), some (.ref (qb E + 114)), some (.int (nI n))] [] S I J := by
  obtain ⟨⟨w0, w1, w2, bl, hC⟩, hM, hR, hT⟩ := id g.1.1.1
  refine lda_n_4_1 (pc := 487) d_L_law_487 ?_
  refine lda_n_4_0 (pc := 488) d_L_law_488 ?_
  refine ldi_n_4_3 (pc := 489) d_L_law_489 ?_
  refine r_iconst (pc := 490) (v := 1) d_L_law_490 rfl ?_
  refine r_iadd (pc := 491) d_L_law_491 ?_
  refine r_scr (pc := 492) (n := n) (k := 1) (lwi1 n) d_L_law_492 (by omega) hL ?_
  refine r_callV (pc := 493) (As := [.int (qsx E (n + 1))]) (k := 8) (N := 11) (T := T_On) k_L_54 im_On_told se_On_told rfl (by decide) rfl (by decide) d_L_law_493 hC.1.1 (K_told hC) rfl (Nat.le_of_ble_eq_true rfl) (by omega) (by omega) (by omega) (fun v S1 I1 J1 hq => ?_)
  obtain ⟨⟨pK, cw⟩, hK⟩ := hq
  obtain ⟨r1, rfl⟩ : VI v := pK.1
  have hM1 := hK.2.1 hM
  have hR1 := hR.far hK.2.2.1
  refine r_pop (pc := 496) d_L_law_496 rfl ?_
  refine lda_n_4_2 (pc := 497) d_L_law_497 ?_
  refine lda_n_4_0 (pc := 498) d_L_law_498 ?_
  refine ldi_n_4_3 (pc := 499) d_L_law_499 ?_
  refine r_iconst (pc := 500) (v := 1) d_L_law_500 rfl ?_
  refine r_iadd (pc := 501) d_L_law_501 ?_
  refine r_scr (pc := 502) (n := n) (k := 1) (lwi1 n) d_L_law_502 (by omega) hL ?_
  refine r_callV (pc := 503) (As := [.int (qsx E (n + 1))]) (k := 9) (N := 56) (T := T_Md) k_L_57 im_Md_told se_Md_told rfl (by decide) rfl (by decide) d_L_law_503 hM1.1 (R_told hM1 hR1) rfl (Nat.le_of_ble_eq_true rfl) (by omega) (by omega) (by omega) (fun v2 S2 I2 J2 hq2 => ?_)
  obtain ⟨⟨pR, rw⟩, hV⟩ := hq2
  obtain ⟨r2, rfl⟩ : VI v2 := pR.1
  refine r_pop (pc := 506) d_L_law_506 rfl ?_
  refine r_goto (pc := 507) (tgt := 1273) d_L_law_507 (by decide) ?_
  exact kend _ _ _ _ _ (by omega) (by omega) (g.ask pK.2 cw hK pR.2 rw hV)
theorem lw_case10 {c s n : Nat} (hc : c + 5 ≤ 600000) (hs : s + 133 ≤ 7302250) (hn : n + 5 < qsl E) (hL : qsl E ≤ 3072) (g : tINV S I J) (kend : qEnd E c s n Q) : qW E y_L_law b_L_law (some .boolean) 1312 600000 7302250 Q c s 510 [some (.ref (qsc E)), some (.ref (qb E + 0)), some (.ref (qb E + 114)), some (.int (nI n))] [] S I J := by
  obtain ⟨⟨w0, w1, w2, bl, hC⟩, hM, hR, hT⟩ := id g.1.1.1
  refine lda_n_4_1 (pc := 510) d_L_law_510 ?_
  refine lda_n_4_0 (pc := 511) d_L_law_511 ?_
  refine ldi_n_4_3 (pc := 512) d_L_law_512 ?_
  refine r_iconst (pc := 513) (v := 1) d_L_law_513 rfl ?_
  refine r_iadd (pc := 514) d_L_law_514 ?_
  refine r_scr (pc := 515) (n := n) (k := 1) (lwi1 n) d_L_law_515 (by omega) hL ?_
  refine r_callV (pc := 516) (As := [.int (qsx E (n + 1))]) (k := 8) (N := 11) (T := T_On) k_L_58 im_On_pass se_On_pass rfl (by decide) rfl (by decide) d_L_law_516 hC.1.1 (K_pass hC) rfl (Nat.le_of_ble_eq_true rfl) (by omega) (by omega) (by omega) (fun v S1 I1 J1 hq => ?_)
  obtain ⟨⟨pK, cw⟩, hK⟩ := hq
  obtain ⟨r1, rfl⟩ : VI v := (by obtain ⟨d, w, -, -, -, -, h, -⟩ := pK; exact ⟨_, h⟩)
  have hM1 := hK.2.1 hM
  have hR1 := hR.far hK.2.2.1
  refine r_pop (pc := 519) d_L_law_519 rfl ?_
  refine lda_n_4_2 (pc := 520) d_L_law_520 ?_
  refine lda_n_4_0 (pc := 521) d_L_law_521 ?_
  refine ldi_n_4_3 (pc := 522) d_L_law_522 ?_
  refine r_iconst (pc := 523) (v := 1) d_L_law_523 rfl ?_
  refine r_iadd (pc := 524) d_L_law_524 ?_
  refine r_scr (pc := 525) (n := n) (k := 1) (lwi1 n) d_L_law_525 (by omega) hL ?_
  refine r_callV (pc := 526) (As := [.int (qsx E (n + 1))]) (k := 9) (N := 56) (T := T_Md) k_L_61 im_Md_pass se_Md_pass rfl (by decide) rfl (by decide) d_L_law_526 hM1.1 (R_pass hM1 hR1) rfl (Nat.le_of_ble_eq_true rfl) (by omega) (by omega) (by omega) (fun v2 S2 I2 J2 hq2 => ?_)
  obtain ⟨pR, hV⟩ := hq2
  obtain ⟨r2, rfl⟩ : VI v2 := (by obtain ⟨d, -, -, -, hR⟩ := pR; split at hR; exact ⟨_, hR.1⟩; split at hR <;> exact ⟨_, hR.1⟩)
  refine r_pop (pc := 529) d_L_law_529 rfl ?_
  refine r_goto (pc := 530) (tgt := 1273) d_L_law_530 (by decide) ?_
  exact kend _ _ _ _ _ (by omega) (by omega) (g.pass pK cw hK pR hV).1
theorem lw_case11 {c s n : Nat} (hc : c + 5 ≤ 600000) (hs : s + 133 ≤ 7302250) (hn : n + 5 < qsl E) (hL : qsl E ≤ 3072) (g : tINV S I J) (kend : qEnd E c s n Q) : qW E y_L_law b_L_law (some .boolean) 1312 600000 7302250 Q c s 533 [some (.ref (qsc E)), some (.ref (qb E + 0)), some (.ref (qb E + 114)), some (.int (nI n))] [] S I J := by
  obtain ⟨⟨w0, w1, w2, bl, hC⟩, hM, hR, hT⟩ := id g.1.1.1
  refine lda_n_4_1 (pc := 533) d_L_law_533 ?_
  refine lda_n_4_0 (pc := 534) d_L_law_534 ?_
  refine ldi_n_4_3 (pc := 535) d_L_law_535 ?_
  refine r_iconst (pc := 536) (v := 1) d_L_law_536 rfl ?_
  refine r_iadd (pc := 537) d_L_law_537 ?_
  refine r_scr (pc := 538) (n := n) (k := 1) (lwi1 n) d_L_law_538 (by omega) hL ?_
  refine lda_n_4_0 (pc := 539) d_L_law_539 ?_
  refine ldi_n_4_3 (pc := 540) d_L_law_540 ?_
  refine r_iconst (pc := 541) (v := 2) d_L_law_541 rfl ?_
  refine r_iadd (pc := 542) d_L_law_542 ?_
  refine r_scr (pc := 543) (n := n) (k := 2) (lwi2 n) d_L_law_543 (by omega) hL ?_
  refine r_callV (pc := 544) (As := [.int (qsx E (n + 1)), .int (qsx E (n + 2))]) (k := 8) (N := 11) (T := T_On) k_L_62 im_On_on se_On_on rfl (by decide) rfl (by decide) d_L_law_544 hC.1.1 (K_on hC) rfl (Nat.le_of_ble_eq_true rfl) (by omega) (by omega) (by omega) (fun v S1 I1 J1 hq => ?_)
  obtain ⟨⟨pK, cw⟩, hK⟩ := hq
  obtain ⟨r1, rfl⟩ : VI v := (by obtain ⟨⟨c, w, -, -, -, h⟩, -⟩ := pK; exact ⟨_, h⟩)
  have hM1 := hK.2.1 hM
  have hR1 := hR.far hK.2.2.1
  refine r_pop (pc := 547) d_L_law_547 rfl ?_
  refine lda_n_4_2 (pc := 548) d_L_law_548 ?_
  refine lda_n_4_0 (pc := 549) d_L_law_549 ?_
  refine ldi_n_4_3 (pc := 550) d_L_law_550 ?_
  refine r_iconst (pc := 551) (v := 1) d_L_law_551 rfl ?_
  refine r_iadd (pc := 552) d_L_law_552 ?_
  refine r_scr (pc := 553) (n := n) (k := 1) (lwi1 n) d_L_law_553 (by omega) hL ?_
  refine lda_n_4_0 (pc := 554) d_L_law_554 ?_
  refine ldi_n_4_3 (pc := 555) d_L_law_555 ?_
  refine r_iconst (pc := 556) (v := 2) d_L_law_556 rfl ?_
  refine r_iadd (pc := 557) d_L_law_557 ?_
  refine r_scr (pc := 558) (n := n) (k := 2) (lwi2 n) d_L_law_558 (by omega) hL ?_
  refine r_callV (pc := 559) (As := [.int (qsx E (n + 1)), .int (qsx E (n + 2))]) (k := 9) (N := 56) (T := T_Md) k_L_65 im_Md_on se_Md_on rfl (by decide) rfl (by decide) d_L_law_559 hM1.1 (R_onX hM1 hR1) rfl (Nat.le_of_ble_eq_true rfl) (by omega) (by omega) (by omega) (fun v2 S2 I2 J2 hq2 => ?_)
  obtain ⟨⟨pR, rw⟩, hV⟩ := hq2
  obtain ⟨r2, rfl⟩ : VI v2 := (by obtain ⟨⟨c, -, -, M, -, h⟩, -⟩ := pR; exact ⟨_, h⟩)
  refine r_pop (pc := 562) d_L_law_562 rfl ?_
  refine r_goto (pc := 563) (tgt := 1273) d_L_law_563 (by decide) ?_
  exact kend _ _ _ _ _ (by omega) (by omega) (g.ask pK.2 cw hK pR.2 rw hV)
theorem lw_case12 {c s n : Nat} (hc : c + 5 ≤ 600000) (hs : s + 133 ≤ 7302250) (hn : n + 5 < qsl E) (hL : qsl E ≤ 3072) (g : tINV S I J) (kend : qEnd E c s n Q) : qW E y_L_law b_L_law (some .boolean) 1312 600000 7302250 Q c s 566 [some (.ref (qsc E)), some (.ref (qb E + 0)), some (.ref (qb E + 114)), some (.int (nI n))] [] S I J := by
  obtain ⟨⟨w0, w1, w2, bl, hC⟩, hM, hR, hT⟩ := id g.1.1.1
  refine lda_n_4_1 (pc := 566) d_L_law_566 ?_
  refine lda_n_4_0 (pc := 567) d_L_law_567 ?_
  refine ldi_n_4_3 (pc := 568) d_L_law_568 ?_
  refine r_iconst (pc := 569) (v := 1) d_L_law_569 rfl ?_
  refine r_iadd (pc := 570) d_L_law_570 ?_
  refine r_scr (pc := 571) (n := n) (k := 1) (lwi1 n) d_L_law_571 (by omega) hL ?_
  refine r_callV (pc := 572) (As := [.int (qsx E (n + 1))]) (k := 8) (N := 11) (T := T_On) k_L_66 im_On_turn se_On_turn rfl (by decide) rfl (by decide) d_L_law_572 hC.1.1 (K_turn hC) rfl (Nat.le_of_ble_eq_true rfl) (by omega) (by omega) (by omega) (fun v S1 I1 J1 hq => ?_)
  obtain ⟨⟨pK, cw⟩, hK⟩ := hq
  obtain ⟨r1, rfl⟩ : VI v := (by obtain ⟨⟨c, w, -, -, -, h⟩, -⟩ := pK; exact ⟨_, h⟩)
  have hM1 := hK.2.1 hM
  have hR1 := hR.far hK.2.2.1
  refine r_pop (pc := 575) d_L_law_575 rfl ?_
  refine lda_n_4_2 (pc := 576) d_L_law_576 ?_
  refine lda_n_4_0 (pc := 577) d_L_law_577 ?_
  refine ldi_n_4_3 (pc := 578) d_L_law_578 ?_
  refine r_iconst (pc := 579) (v := 1) d_L_law_579 rfl ?_
  refine r_iadd (pc := 580) d_L_law_580 ?_
  refine r_scr (pc := 581) (n := n) (k := 1) (lwi1 n) d_L_law_581 (by omega) hL ?_
  refine r_callV (pc := 582) (As := [.int (qsx E (n + 1))]) (k := 9) (N := 56) (T := T_Md) k_L_69 im_Md_turn se_Md_turn rfl (by decide) rfl (by decide) d_L_law_582 hM1.1 (R_turnX hM1 hR1) rfl (Nat.le_of_ble_eq_true rfl) (by omega) (by omega) (by omega) (fun v2 S2 I2 J2 hq2 => ?_)
  obtain ⟨⟨pR, rw⟩, hV⟩ := hq2
  obtain ⟨r2, rfl⟩ : VI v2 := (by obtain ⟨⟨c, -, -, M, -, h⟩, -⟩ := pR; exact ⟨_, h⟩)
  refine r_pop (pc := 585) d_L_law_585 rfl ?_
  refine r_goto (pc := 586) (tgt := 1273) d_L_law_586 (by decide) ?_
  exact kend _ _ _ _ _ (by omega) (by omega) (g.ask pK.2 cw hK pR.2 rw hV)
theorem lw_case13 {c s n : Nat} (hc : c + 5 ≤ 600000) (hs : s + 133 ≤ 7302250) (hn : n + 5 < qsl E) (hL : qsl E ≤ 3072) (g : tINV S I J) (kend : qEnd E c s n Q) : qW E y_L_law b_L_law (some .boolean) 1312 600000 7302250 Q c s 589 [some (.ref (qsc E)), some (.ref (qb E + 0)), some (.ref (qb E + 114)), some (.int (nI n))] [] S I J := by
  obtain ⟨⟨w0, w1, w2, bl, hC⟩, hM, hR, hT⟩ := id g.1.1.1
  refine lda_n_4_1 (pc := 589) d_L_law_589 ?_
  refine r_callV (pc := 590) (As := []) (k := 8) (N := 11) (T := T_On) k_L_70 im_On_empty se_On_empty rfl (by decide) rfl (by decide) d_L_law_590 hC.1.1 (K_empty hC) rfl (Nat.le_of_ble_eq_true rfl) (by omega) (by omega) (by omega) (fun v S1 I1 J1 hq => ?_)
  obtain ⟨⟨pK, cw⟩, hK⟩ := hq
  obtain ⟨r1, rfl⟩ : VI v := (by obtain ⟨⟨c, w, -, -, -, h⟩, -⟩ := pK; exact ⟨_, h⟩)
  have hM1 := hK.2.1 hM
  have hR1 := hR.far hK.2.2.1
  refine r_pop (pc := 593) d_L_law_593 rfl ?_
  refine lda_n_4_2 (pc := 594) d_L_law_594 ?_
  refine r_callV (pc := 595) (As := []) (k := 9) (N := 56) (T := T_Md) k_L_73 im_Md_empty se_Md_empty rfl (by decide) rfl (by decide) d_L_law_595 hM1.1 (R_emptyX hM1 hR1) rfl (Nat.le_of_ble_eq_true rfl) (by omega) (by omega) (by omega) (fun v2 S2 I2 J2 hq2 => ?_)
  obtain ⟨⟨pR, rw⟩, hV⟩ := hq2
  obtain ⟨r2, rfl⟩ : VI v2 := (by obtain ⟨⟨c, -, -, M, -, h⟩, -⟩ := pR; exact ⟨_, h⟩)
  refine r_pop (pc := 598) d_L_law_598 rfl ?_
  refine r_goto (pc := 599) (tgt := 1273) d_L_law_599 (by decide) ?_
  exact kend _ _ _ _ _ (by omega) (by omega) (g.ask pK.2 cw hK pR.2 rw hV)
theorem lw_case14 {c s n : Nat} (hc : c + 5 ≤ 600000) (hs : s + 133 ≤ 7302250) (hn : n + 5 < qsl E) (hL : qsl E ≤ 3072) (g : tINV S I J) (kend : qEnd E c s n Q) : qW E y_L_law b_L_law (some .boolean) 1312 600000 7302250 Q c s 602 [some (.ref (qsc E)), some (.ref (qb E + 0)), some (.ref (qb E + 114)), some (.int (nI n))] [] S I J := by
  obtain ⟨⟨w0, w1, w2, bl, hC⟩, hM, hR, hT⟩ := id g.1.1.1
  obtain ⟨c0, dd0, h0, c06, hc0, d09, hd0, hcH, hcM⟩ := g.rows hC
  refine lda_n_4_1 (pc := 602) d_L_law_602 ?_
  refine lda_n_4_0 (pc := 603) d_L_law_603 ?_
  refine ldi_n_4_3 (pc := 604) d_L_law_604 ?_
  refine r_iconst (pc := 605) (v := 1) d_L_law_605 rfl ?_
  refine r_iadd (pc := 606) d_L_law_606 ?_
  refine r_scr (pc := 607) (n := n) (k := 1) (lwi1 n) d_L_law_607 (by omega) hL ?_
  refine lda_n_4_0 (pc := 608) d_L_law_608 ?_
  refine ldi_n_4_3 (pc := 609) d_L_law_609 ?_
  refine r_iconst (pc := 610) (v := 2) d_L_law_610 rfl ?_
  refine r_iadd (pc := 611) d_L_law_611 ?_
  refine r_scr (pc := 612) (n := n) (k := 2) (lwi2 n) d_L_law_612 (by omega) hL ?_
  refine r_callV (pc := 613) (As := [.int (qsx E (n + 1)), .int (qsx E (n + 2))]) (k := 8) (N := 11) (T := T_On) k_L_74 im_On_best se_On_best rfl (by decide) rfl (by decide) d_L_law_613 hC.1.1 (K_bestX hC hc0 c06 hd0 d09 hcH) rfl (Nat.le_of_ble_eq_true rfl) (by omega) (by omega) (by omega) (fun v S1 I1 J1 hq => ?_)
  obtain ⟨⟨pK, cw⟩, hK⟩ := hq
  obtain ⟨r1, rfl⟩ : VI v := ⟨_, pK.1⟩
  have hM1 := hK.2.1 hM
  have hR1 := hR.far hK.2.2.1
  obtain ⟨hc1, hrH, hrW⟩ := hcM I1 (fun a a1 a2 => (hK.2.2.1 a a1 a2).1)
  refine r_pop (pc := 616) d_L_law_616 rfl ?_
  refine lda_n_4_2 (pc := 617) d_L_law_617 ?_
  refine lda_n_4_0 (pc := 618) d_L_law_618 ?_
  refine ldi_n_4_3 (pc := 619) d_L_law_619 ?_
  refine r_iconst (pc := 620) (v := 1) d_L_law_620 rfl ?_
  refine r_iadd (pc := 621) d_L_law_621 ?_
  refine r_scr (pc := 622) (n := n) (k := 1) (lwi1 n) d_L_law_622 (by omega) hL ?_
  refine lda_n_4_0 (pc := 623) d_L_law_623 ?_
  refine ldi_n_4_3 (pc := 624) d_L_law_624 ?_
  refine r_iconst (pc := 625) (v := 2) d_L_law_625 rfl ?_
  refine r_iadd (pc := 626) d_L_law_626 ?_
  refine r_scr (pc := 627) (n := n) (k := 2) (lwi2 n) d_L_law_627 (by omega) hL ?_
  refine r_callV (pc := 628) (As := [.int (qsx E (n + 1)), .int (qsx E (n + 2))]) (k := 9) (N := 56) (T := T_Md) k_L_77 im_Md_best se_Md_best rfl (by decide) rfl (by decide) d_L_law_628 hM1.1 (R_bestX hM1 hR1 hc1 c06 hrH) rfl (Nat.le_of_ble_eq_true rfl) (by omega) (by omega) (by omega) (fun v2 S2 I2 J2 hq2 => ?_)
  obtain ⟨⟨pR, rw⟩, hV⟩ := hq2
  obtain ⟨r2, rfl⟩ : VI v2 := ⟨_, pR.1⟩
  refine r_pop (pc := 631) d_L_law_631 rfl ?_
  refine r_goto (pc := 632) (tgt := 1273) d_L_law_632 (by decide) ?_
  exact kend _ _ _ _ _ (by omega) (by omega) (g.ask pK.2 cw hK pR.2 rw hV)
theorem lw_case15 {c s n : Nat} (hc : c + 5 ≤ 600000) (hs : s + 133 ≤ 7302250) (hn : n + 5 < qsl E) (hL : qsl E ≤ 3072) (g : tINV S I J) (kend : qEnd E c s n Q) : qW E y_L_law b_L_law (some .boolean) 1312 600000 7302250 Q c s 635 [some (.ref (qsc E)), some (.ref (qb E + 0)), some (.ref (qb E + 114)), some (.int (nI n))] [] S I J := by
  obtain ⟨⟨w0, w1, w2, bl, hC⟩, hM, hR, hT⟩ := id g.1.1.1
  refine lda_n_4_1 (pc := 635) d_L_law_635 ?_
  refine lda_n_4_0 (pc := 636) d_L_law_636 ?_
  refine ldi_n_4_3 (pc := 637) d_L_law_637 ?_
  refine r_iconst (pc := 638) (v := 1) d_L_law_638 rfl ?_
  refine r_iadd (pc := 639) d_L_law_639 ?_
  refine r_scr (pc := 640) (n := n) (k := 1) (lwi1 n) d_L_law_640 (by omega) hL ?_
  refine lda_n_4_0 (pc := 641) d_L_law_641 ?_
  refine ldi_n_4_3 (pc := 642) d_L_law_642 ?_
  refine r_iconst (pc := 643) (v := 2) d_L_law_643 rfl ?_
  refine r_iadd (pc := 644) d_L_law_644 ?_
  refine r_scr (pc := 645) (n := n) (k := 2) (lwi2 n) d_L_law_645 (by omega) hL ?_
  refine lda_n_4_0 (pc := 646) d_L_law_646 ?_
  refine ldi_n_4_3 (pc := 647) d_L_law_647 ?_
  refine r_iconst (pc := 648) (v := 3) d_L_law_648 rfl ?_
  refine r_iadd (pc := 649) d_L_law_649 ?_
  refine r_scr (pc := 650) (n := n) (k := 3) (lwi3 n) d_L_law_650 (by omega) hL ?_
  refine r_callV (pc := 651) (As := [.int (qsx E (n + 1)), .int (qsx E (n + 2)), .int (qsx E (n + 3))]) (k := 8) (N := 11) (T := T_On) k_L_78 im_On_see se_On_see rfl (by decide) rfl (by decide) d_L_law_651 hC.1.1 (K_see hC) rfl (Nat.le_of_ble_eq_true rfl) (by omega) (by omega) (by omega) (fun v S1 I1 J1 hq => ?_)
  obtain ⟨⟨pK, cw⟩, hK⟩ := hq
  obtain ⟨r1, rfl⟩ : VI v := (by obtain ⟨c, l, -, -, -, -, h, -⟩ := pK; exact ⟨_, h⟩)
  have hM1 := hK.2.1 hM
  have hR1 := hR.far hK.2.2.1
  refine r_pop (pc := 654) d_L_law_654 rfl ?_
  refine lda_n_4_2 (pc := 655) d_L_law_655 ?_
  refine lda_n_4_0 (pc := 656) d_L_law_656 ?_
  refine ldi_n_4_3 (pc := 657) d_L_law_657 ?_
  refine r_iconst (pc := 658) (v := 1) d_L_law_658 rfl ?_
  refine r_iadd (pc := 659) d_L_law_659 ?_
  refine r_scr (pc := 660) (n := n) (k := 1) (lwi1 n) d_L_law_660 (by omega) hL ?_
  refine lda_n_4_0 (pc := 661) d_L_law_661 ?_
  refine ldi_n_4_3 (pc := 662) d_L_law_662 ?_
  refine r_iconst (pc := 663) (v := 2) d_L_law_663 rfl ?_
  refine r_iadd (pc := 664) d_L_law_664 ?_
  refine r_scr (pc := 665) (n := n) (k := 2) (lwi2 n) d_L_law_665 (by omega) hL ?_
  refine lda_n_4_0 (pc := 666) d_L_law_666 ?_
  refine ldi_n_4_3 (pc := 667) d_L_law_667 ?_
  refine r_iconst (pc := 668) (v := 3) d_L_law_668 rfl ?_
  refine r_iadd (pc := 669) d_L_law_669 ?_
  refine r_scr (pc := 670) (n := n) (k := 3) (lwi3 n) d_L_law_670 (by omega) hL ?_
  refine r_callV (pc := 671) (As := [.int (qsx E (n + 1)), .int (qsx E (n + 2)), .int (qsx E (n + 3))]) (k := 9) (N := 56) (T := T_Md) k_L_81 im_Md_see se_Md_see rfl (by decide) rfl (by decide) d_L_law_671 hM1.1 (R_see hM1 hR1) rfl (Nat.le_of_ble_eq_true rfl) (by omega) (by omega) (by omega) (fun v2 S2 I2 J2 hq2 => ?_)
  obtain ⟨pR, hV⟩ := hq2
  obtain ⟨r2, rfl⟩ : VI v2 := ⟨_, pR.1⟩
  refine r_pop (pc := 674) d_L_law_674 rfl ?_
  refine r_goto (pc := 675) (tgt := 1273) d_L_law_675 (by decide) ?_
  exact kend _ _ _ _ _ (by omega) (by omega) (g.see pK cw hK pR hV)
theorem lw_case16 {c s n : Nat} (hc : c + 5 ≤ 600000) (hs : s + 133 ≤ 7302250) (hn : n + 5 < qsl E) (hL : qsl E ≤ 3072) (g : tINV S I J) (kend : qEnd E c s n Q) : qW E y_L_law b_L_law (some .boolean) 1312 600000 7302250 Q c s 678 [some (.ref (qsc E)), some (.ref (qb E + 0)), some (.ref (qb E + 114)), some (.int (nI n))] [] S I J := by
  obtain ⟨⟨w0, w1, w2, bl, hC⟩, hM, hR, hT⟩ := id g.1.1.1
  refine lda_n_4_1 (pc := 678) d_L_law_678 ?_
  refine lda_n_4_0 (pc := 679) d_L_law_679 ?_
  refine ldi_n_4_3 (pc := 680) d_L_law_680 ?_
  refine r_iconst (pc := 681) (v := 1) d_L_law_681 rfl ?_
  refine r_iadd (pc := 682) d_L_law_682 ?_
  refine r_scr (pc := 683) (n := n) (k := 1) (lwi1 n) d_L_law_683 (by omega) hL ?_
  refine lda_n_4_0 (pc := 684) d_L_law_684 ?_
  refine ldi_n_4_3 (pc := 685) d_L_law_685 ?_
  refine r_iconst (pc := 686) (v := 2) d_L_law_686 rfl ?_
  refine r_iadd (pc := 687) d_L_law_687 ?_
  refine r_scr (pc := 688) (n := n) (k := 2) (lwi2 n) d_L_law_688 (by omega) hL ?_
  refine lda_n_4_0 (pc := 689) d_L_law_689 ?_
  refine ldi_n_4_3 (pc := 690) d_L_law_690 ?_
  refine r_iconst (pc := 691) (v := 3) d_L_law_691 rfl ?_
  refine r_iadd (pc := 692) d_L_law_692 ?_
  refine r_scr (pc := 693) (n := n) (k := 3) (lwi3 n) d_L_law_693 (by omega) hL ?_
  refine r_callV (pc := 694) (As := [.int (qsx E (n + 1)), .int (qsx E (n + 2)), .int (qsx E (n + 3))]) (k := 8) (N := 11) (T := T_On) k_L_82 im_On_can se_On_can rfl (by decide) rfl (by decide) d_L_law_694 hC.1.1 (K_can hC) rfl (Nat.le_of_ble_eq_true rfl) (by omega) (by omega) (by omega) (fun v S1 I1 J1 hq => ?_)
  obtain ⟨⟨pK, cw⟩, hK⟩ := hq
  obtain ⟨r1, rfl⟩ : VI v := (by obtain ⟨⟨c, w, -, -, -, h⟩, -⟩ := pK; exact ⟨_, h⟩)
  have hM1 := hK.2.1 hM
  have hR1 := hR.far hK.2.2.1
  refine r_pop (pc := 697) d_L_law_697 rfl ?_
  refine lda_n_4_2 (pc := 698) d_L_law_698 ?_
  refine lda_n_4_0 (pc := 699) d_L_law_699 ?_
  refine ldi_n_4_3 (pc := 700) d_L_law_700 ?_
  refine r_iconst (pc := 701) (v := 1) d_L_law_701 rfl ?_
  refine r_iadd (pc := 702) d_L_law_702 ?_
  refine r_scr (pc := 703) (n := n) (k := 1) (lwi1 n) d_L_law_703 (by omega) hL ?_
  refine lda_n_4_0 (pc := 704) d_L_law_704 ?_
  refine ldi_n_4_3 (pc := 705) d_L_law_705 ?_
  refine r_iconst (pc := 706) (v := 2) d_L_law_706 rfl ?_
  refine r_iadd (pc := 707) d_L_law_707 ?_
  refine r_scr (pc := 708) (n := n) (k := 2) (lwi2 n) d_L_law_708 (by omega) hL ?_
  refine lda_n_4_0 (pc := 709) d_L_law_709 ?_
  refine ldi_n_4_3 (pc := 710) d_L_law_710 ?_
  refine r_iconst (pc := 711) (v := 3) d_L_law_711 rfl ?_
  refine r_iadd (pc := 712) d_L_law_712 ?_
  refine r_scr (pc := 713) (n := n) (k := 3) (lwi3 n) d_L_law_713 (by omega) hL ?_
  refine r_callV (pc := 714) (As := [.int (qsx E (n + 1)), .int (qsx E (n + 2)), .int (qsx E (n + 3))]) (k := 9) (N := 56) (T := T_Md) k_L_85 im_Md_can se_Md_can rfl (by decide) rfl (by decide) d_L_law_714 hM1.1 (R_canX hM1 hR1) rfl (Nat.le_of_ble_eq_true rfl) (by omega) (by omega) (by omega) (fun v2 S2 I2 J2 hq2 => ?_)
  obtain ⟨⟨pR, rw⟩, hV⟩ := hq2
  obtain ⟨r2, rfl⟩ : VI v2 := (by obtain ⟨⟨c, z, -, -, -, -, h⟩, -⟩ := pR; exact ⟨_, h⟩)
  refine r_pop (pc := 717) d_L_law_717 rfl ?_
  refine r_goto (pc := 718) (tgt := 1273) d_L_law_718 (by decide) ?_
  exact kend _ _ _ _ _ (by omega) (by omega) (g.ask pK.2 cw hK pR.2 rw hV)
theorem lw_case17 {c s n : Nat} (hc : c + 5 ≤ 600000) (hs : s + 133 ≤ 7302250) (hn : n + 5 < qsl E) (hL : qsl E ≤ 3072) (g : tINV S I J) (kend : qEnd E c s n Q) : qW E y_L_law b_L_law (some .boolean) 1312 600000 7302250 Q c s 721 [some (.ref (qsc E)), some (.ref (qb E + 0)), some (.ref (qb E + 114)), some (.int (nI n))] [] S I J := by
  obtain ⟨⟨w0, w1, w2, bl, hC⟩, hM, hR, hT⟩ := id g.1.1.1
  obtain ⟨c0, dd0, h0, c06, hc0, d09, hd0, hcH, hcM⟩ := g.rows hC
  refine lda_n_4_1 (pc := 721) d_L_law_721 ?_
  refine lda_n_4_0 (pc := 722) d_L_law_722 ?_
  refine ldi_n_4_3 (pc := 723) d_L_law_723 ?_
  refine r_iconst (pc := 724) (v := 1) d_L_law_724 rfl ?_
  refine r_iadd (pc := 725) d_L_law_725 ?_
  refine r_scr (pc := 726) (n := n) (k := 1) (lwi1 n) d_L_law_726 (by omega) hL ?_
  refine lda_n_4_0 (pc := 727) d_L_law_727 ?_
  refine ldi_n_4_3 (pc := 728) d_L_law_728 ?_
  refine r_iconst (pc := 729) (v := 2) d_L_law_729 rfl ?_
  refine r_iadd (pc := 730) d_L_law_730 ?_
  refine r_scr (pc := 731) (n := n) (k := 2) (lwi2 n) d_L_law_731 (by omega) hL ?_
  refine r_callV (pc := 732) (As := [.int (qsx E (n + 1)), .int (qsx E (n + 2))]) (k := 8) (N := 11) (T := T_On) k_L_86 im_On_odds se_On_odds rfl (by decide) rfl (by decide) d_L_law_732 hC.1.1 (K_oddsX hC hc0 c06 hd0 d09 hcH) rfl (Nat.le_of_ble_eq_true rfl) (by omega) (by omega) (by omega) (fun v S1 I1 J1 hq => ?_)
  obtain ⟨⟨pK, cw⟩, hK⟩ := hq
  obtain ⟨r1, rfl⟩ : VL v := ⟨_, pK.1⟩
  have hM1 := hK.2.1 hM
  have hR1 := hR.far hK.2.2.1
  obtain ⟨hc1, hrH, hrW⟩ := hcM I1 (fun a a1 a2 => (hK.2.2.1 a a1 a2).1)
  refine r_pop2 (pc := 735) d_L_law_735 rfl ?_
  refine lda_n_4_2 (pc := 736) d_L_law_736 ?_
  refine lda_n_4_0 (pc := 737) d_L_law_737 ?_
  refine ldi_n_4_3 (pc := 738) d_L_law_738 ?_
  refine r_iconst (pc := 739) (v := 1) d_L_law_739 rfl ?_
  refine r_iadd (pc := 740) d_L_law_740 ?_
  refine r_scr (pc := 741) (n := n) (k := 1) (lwi1 n) d_L_law_741 (by omega) hL ?_
  refine lda_n_4_0 (pc := 742) d_L_law_742 ?_
  refine ldi_n_4_3 (pc := 743) d_L_law_743 ?_
  refine r_iconst (pc := 744) (v := 2) d_L_law_744 rfl ?_
  refine r_iadd (pc := 745) d_L_law_745 ?_
  refine r_scr (pc := 746) (n := n) (k := 2) (lwi2 n) d_L_law_746 (by omega) hL ?_
  refine r_callV (pc := 747) (As := [.int (qsx E (n + 1)), .int (qsx E (n + 2))]) (k := 9) (N := 56) (T := T_Md) k_L_90 im_Md_odds se_Md_odds rfl (by decide) rfl (by decide) d_L_law_747 hM1.1 (R_oddsX hM1 hR1 hc1 c06 hrH) rfl (Nat.le_of_ble_eq_true rfl) (by omega) (by omega) (by omega) (fun v2 S2 I2 J2 hq2 => ?_)
  obtain ⟨⟨pR, rw⟩, hV⟩ := hq2
  obtain ⟨r2, rfl⟩ : VL v2 := ⟨_, pR.1⟩
  refine r_pop2 (pc := 750) d_L_law_750 rfl ?_
  refine r_goto (pc := 751) (tgt := 1273) d_L_law_751 (by decide) ?_
  exact kend _ _ _ _ _ (by omega) (by omega) (g.ask pK.2 cw hK pR.2 rw hV)
theorem lw_case18 {c s n : Nat} (hc : c + 5 ≤ 600000) (hs : s + 133 ≤ 7302250) (hn : n + 5 < qsl E) (hL : qsl E ≤ 3072) (g : tINV S I J) (kend : qEnd E c s n Q) : qW E y_L_law b_L_law (some .boolean) 1312 600000 7302250 Q c s 754 [some (.ref (qsc E)), some (.ref (qb E + 0)), some (.ref (qb E + 114)), some (.int (nI n))] [] S I J := by
  obtain ⟨⟨w0, w1, w2, bl, hC⟩, hM, hR, hT⟩ := id g.1.1.1
  obtain ⟨c0, dd0, h0, c06, hc0, d09, hd0, hcH, hcM⟩ := g.rows hC
  refine lda_n_4_1 (pc := 754) d_L_law_754 ?_
  refine lda_n_4_0 (pc := 755) d_L_law_755 ?_
  refine ldi_n_4_3 (pc := 756) d_L_law_756 ?_
  refine r_iconst (pc := 757) (v := 1) d_L_law_757 rfl ?_
  refine r_iadd (pc := 758) d_L_law_758 ?_
  refine r_scr (pc := 759) (n := n) (k := 1) (lwi1 n) d_L_law_759 (by omega) hL ?_
  refine r_callV (pc := 760) (As := [.int (qsx E (n + 1))]) (k := 8) (N := 11) (T := T_On) k_L_91 im_On_mean se_On_mean rfl (by decide) rfl (by decide) d_L_law_760 hC.1.1 (K_meanX hC hc0 c06 hd0 d09 hcH) rfl (Nat.le_of_ble_eq_true rfl) (by omega) (by omega) (by omega) (fun v S1 I1 J1 hq => ?_)
  obtain ⟨⟨pK, cw⟩, hK⟩ := hq
  obtain ⟨r1, rfl⟩ : VL v := ⟨_, pK.1⟩
  have hM1 := hK.2.1 hM
  have hR1 := hR.far hK.2.2.1
  obtain ⟨hc1, hrH, hrW⟩ := hcM I1 (fun a a1 a2 => (hK.2.2.1 a a1 a2).1)
  refine lda_n_4_2 (pc := 763) d_L_law_763 ?_
  refine lda_n_4_0 (pc := 764) d_L_law_764 ?_
  refine ldi_n_4_3 (pc := 765) d_L_law_765 ?_
  refine r_iconst (pc := 766) (v := 1) d_L_law_766 rfl ?_
  refine r_iadd (pc := 767) d_L_law_767 ?_
  refine r_scr (pc := 768) (n := n) (k := 1) (lwi1 n) d_L_law_768 (by omega) hL ?_
  refine r_callV (pc := 769) (As := [.int (qsx E (n + 1))]) (k := 9) (N := 56) (T := T_Md) k_L_95 im_Md_mean se_Md_mean rfl (by decide) rfl (by decide) d_L_law_769 hM1.1 (R_meanX hM1 hR1 hc1 c06 hrH) rfl (Nat.le_of_ble_eq_true rfl) (by omega) (by omega) (by omega) (fun v2 S2 I2 J2 hq2 => ?_)
  obtain ⟨⟨pR, rw⟩, hV⟩ := hq2
  obtain ⟨r2, rfl⟩ : VL v2 := ⟨_, pR.1⟩
  refine r_lcmp (pc := 772) d_L_law_772 ?_
  refine r_if_eq (pc := 773) (tgt := 1273) d_L_law_773 (by decide) (fun ce => ?_) (fun ce => ?_)
  · exact kend _ _ _ _ _ (by omega) (by omega) (g.ask pK.2 cw hK pR.2 rw hV)
  · exact absurd (lcmp_self ((vinjL pK.1).trans (Eq.trans (by rw [hrW]) (vinjL pR.1).symm))) ce
theorem lw_case19 {c s n : Nat} (hc : c + 5 ≤ 600000) (hs : s + 133 ≤ 7302250) (hn : n + 5 < qsl E) (hL : qsl E ≤ 3072) (g : tINV S I J) (kend : qEnd E c s n Q) : qW E y_L_law b_L_law (some .boolean) 1312 600000 7302250 Q c s 778 [some (.ref (qsc E)), some (.ref (qb E + 0)), some (.ref (qb E + 114)), some (.int (nI n))] [] S I J := by
  obtain ⟨⟨w0, w1, w2, bl, hC⟩, hM, hR, hT⟩ := id g.1.1.1
  refine lda_n_4_1 (pc := 778) d_L_law_778 ?_
  refine lda_n_4_0 (pc := 779) d_L_law_779 ?_
  refine ldi_n_4_3 (pc := 780) d_L_law_780 ?_
  refine r_iconst (pc := 781) (v := 1) d_L_law_781 rfl ?_
  refine r_iadd (pc := 782) d_L_law_782 ?_
  refine r_scr (pc := 783) (n := n) (k := 1) (lwi1 n) d_L_law_783 (by omega) hL ?_
  refine lda_n_4_0 (pc := 784) d_L_law_784 ?_
  refine ldi_n_4_3 (pc := 785) d_L_law_785 ?_
  refine r_iconst (pc := 786) (v := 2) d_L_law_786 rfl ?_
  refine r_iadd (pc := 787) d_L_law_787 ?_
  refine r_scr (pc := 788) (n := n) (k := 2) (lwi2 n) d_L_law_788 (by omega) hL ?_
  refine r_callV (pc := 789) (As := [.int (qsx E (n + 1)), .int (qsx E (n + 2))]) (k := 8) (N := 11) (T := T_On) k_L_96 im_On_plan se_On_plan rfl (by decide) rfl (by decide) d_L_law_789 hC.1.1 (K_plan hC) rfl (Nat.le_of_ble_eq_true rfl) (by omega) (by omega) (by omega) (fun v S1 I1 J1 hq => ?_)
  obtain ⟨⟨pK, cw⟩, hK⟩ := hq
  obtain ⟨r1, rfl⟩ : VI v := (by obtain ⟨c, l, -, -, -, -, h, -⟩ := pK; exact ⟨_, h⟩)
  have hM1 := hK.2.1 hM
  have hR1 := hR.far hK.2.2.1
  refine r_pop (pc := 792) d_L_law_792 rfl ?_
  refine lda_n_4_2 (pc := 793) d_L_law_793 ?_
  refine lda_n_4_0 (pc := 794) d_L_law_794 ?_
  refine ldi_n_4_3 (pc := 795) d_L_law_795 ?_
  refine r_iconst (pc := 796) (v := 1) d_L_law_796 rfl ?_
  refine r_iadd (pc := 797) d_L_law_797 ?_
  refine r_scr (pc := 798) (n := n) (k := 1) (lwi1 n) d_L_law_798 (by omega) hL ?_
  refine lda_n_4_0 (pc := 799) d_L_law_799 ?_
  refine ldi_n_4_3 (pc := 800) d_L_law_800 ?_
  refine r_iconst (pc := 801) (v := 2) d_L_law_801 rfl ?_
  refine r_iadd (pc := 802) d_L_law_802 ?_
  refine r_scr (pc := 803) (n := n) (k := 2) (lwi2 n) d_L_law_803 (by omega) hL ?_
  refine r_callV (pc := 804) (As := [.int (qsx E (n + 1)), .int (qsx E (n + 2))]) (k := 9) (N := 56) (T := T_Md) k_L_99 im_Md_plan se_Md_plan rfl (by decide) rfl (by decide) d_L_law_804 hM1.1 (R_plan hM1 hR1) rfl (Nat.le_of_ble_eq_true rfl) (by omega) (by omega) (by omega) (fun v2 S2 I2 J2 hq2 => ?_)
  obtain ⟨pR, hV⟩ := hq2
  obtain ⟨r2, rfl⟩ : VI v2 := ⟨_, pR.1⟩
  refine r_pop (pc := 807) d_L_law_807 rfl ?_
  refine r_goto (pc := 808) (tgt := 1273) d_L_law_808 (by decide) ?_
  exact kend _ _ _ _ _ (by omega) (by omega) (g.plan pK cw hK pR hV)
theorem lw_case20 {c s n : Nat} (hc : c + 5 ≤ 600000) (hs : s + 133 ≤ 7302250) (hn : n + 5 < qsl E) (hL : qsl E ≤ 3072) (g : tINV S I J) (kend : qEnd E c s n Q) : qW E y_L_law b_L_law (some .boolean) 1312 600000 7302250 Q c s 811 [some (.ref (qsc E)), some (.ref (qb E + 0)), some (.ref (qb E + 114)), some (.int (nI n))] [] S I J := by
  obtain ⟨⟨w0, w1, w2, bl, hC⟩, hM, hR, hT⟩ := id g.1.1.1
  refine lda_n_4_1 (pc := 811) d_L_law_811 ?_
  refine lda_n_4_0 (pc := 812) d_L_law_812 ?_
  refine ldi_n_4_3 (pc := 813) d_L_law_813 ?_
  refine r_iconst (pc := 814) (v := 1) d_L_law_814 rfl ?_
  refine r_iadd (pc := 815) d_L_law_815 ?_
  refine r_scr (pc := 816) (n := n) (k := 1) (lwi1 n) d_L_law_816 (by omega) hL ?_
  refine r_callV (pc := 817) (As := [.int (qsx E (n + 1))]) (k := 8) (N := 11) (T := T_On) k_L_100 im_On_ends se_On_ends rfl (by decide) rfl (by decide) d_L_law_817 hC.1.1 (K_ends hC) rfl (Nat.le_of_ble_eq_true rfl) (by omega) (by omega) (by omega) (fun v S1 I1 J1 hq => ?_)
  obtain ⟨⟨pK, cw⟩, hK⟩ := hq
  obtain ⟨r1, rfl⟩ : VI v := (by obtain ⟨⟨c, w, -, -, -, h⟩, -⟩ := pK; exact ⟨_, h⟩)
  have hM1 := hK.2.1 hM
  have hR1 := hR.far hK.2.2.1
  refine r_pop (pc := 820) d_L_law_820 rfl ?_
  refine lda_n_4_2 (pc := 821) d_L_law_821 ?_
  refine lda_n_4_0 (pc := 822) d_L_law_822 ?_
  refine ldi_n_4_3 (pc := 823) d_L_law_823 ?_
  refine r_iconst (pc := 824) (v := 1) d_L_law_824 rfl ?_
  refine r_iadd (pc := 825) d_L_law_825 ?_
  refine r_scr (pc := 826) (n := n) (k := 1) (lwi1 n) d_L_law_826 (by omega) hL ?_
  refine r_callV (pc := 827) (As := [.int (qsx E (n + 1))]) (k := 9) (N := 56) (T := T_Md) k_L_103 im_Md_ends se_Md_ends rfl (by decide) rfl (by decide) d_L_law_827 hM1.1 (R_endsX hM1 hR1) rfl (Nat.le_of_ble_eq_true rfl) (by omega) (by omega) (by omega) (fun v2 S2 I2 J2 hq2 => ?_)
  obtain ⟨⟨pR, rw⟩, hV⟩ := hq2
  obtain ⟨r2, rfl⟩ : VI v2 := (by obtain ⟨⟨c, z, -, -, -, -, M, -, h⟩, -⟩ := pR; exact ⟨_, h⟩)
  refine r_pop (pc := 830) d_L_law_830 rfl ?_
  refine r_goto (pc := 831) (tgt := 1273) d_L_law_831 (by decide) ?_
  exact kend _ _ _ _ _ (by omega) (by omega) (g.ask pK.2 cw hK pR.2 rw hV)
theorem lw_case21 {c s n : Nat} (hc : c + 5 ≤ 600000) (hs : s + 133 ≤ 7302250) (hn : n + 5 < qsl E) (hL : qsl E ≤ 3072) (g : tINV S I J) (kend : qEnd E c s n Q) : qW E y_L_law b_L_law (some .boolean) 1312 600000 7302250 Q c s 834 [some (.ref (qsc E)), some (.ref (qb E + 0)), some (.ref (qb E + 114)), some (.int (nI n))] [] S I J := by
  obtain ⟨⟨w0, w1, w2, bl, hC⟩, hM, hR, hT⟩ := id g.1.1.1
  refine lda_n_4_1 (pc := 834) d_L_law_834 ?_
  refine lda_n_4_0 (pc := 835) d_L_law_835 ?_
  refine ldi_n_4_3 (pc := 836) d_L_law_836 ?_
  refine r_iconst (pc := 837) (v := 1) d_L_law_837 rfl ?_
  refine r_iadd (pc := 838) d_L_law_838 ?_
  refine r_scr (pc := 839) (n := n) (k := 1) (lwi1 n) d_L_law_839 (by omega) hL ?_
  refine lda_n_4_0 (pc := 840) d_L_law_840 ?_
  refine ldi_n_4_3 (pc := 841) d_L_law_841 ?_
  refine r_iconst (pc := 842) (v := 2) d_L_law_842 rfl ?_
  refine r_iadd (pc := 843) d_L_law_843 ?_
  refine r_scr (pc := 844) (n := n) (k := 2) (lwi2 n) d_L_law_844 (by omega) hL ?_
  refine r_callV (pc := 845) (As := [.int (qsx E (n + 1)), .int (qsx E (n + 2))]) (k := 8) (N := 11) (T := T_On) k_L_104 im_On_book se_On_book rfl (by decide) rfl (by decide) d_L_law_845 hC.1.1 (K_book hC) rfl (Nat.le_of_ble_eq_true rfl) (by omega) (by omega) (by omega) (fun v S1 I1 J1 hq => ?_)
  obtain ⟨⟨pK, cw⟩, hK⟩ := hq
  obtain ⟨r1, rfl⟩ : VI v := (by obtain ⟨c, l, -, -, -, -, h, -⟩ := pK; exact ⟨_, h⟩)
  have hM1 := hK.2.1 hM
  have hR1 := hR.far hK.2.2.1
  refine r_pop (pc := 848) d_L_law_848 rfl ?_
  refine lda_n_4_2 (pc := 849) d_L_law_849 ?_
  refine lda_n_4_0 (pc := 850) d_L_law_850 ?_
  refine ldi_n_4_3 (pc := 851) d_L_law_851 ?_
  refine r_iconst (pc := 852) (v := 1) d_L_law_852 rfl ?_
  refine r_iadd (pc := 853) d_L_law_853 ?_
  refine r_scr (pc := 854) (n := n) (k := 1) (lwi1 n) d_L_law_854 (by omega) hL ?_
  refine lda_n_4_0 (pc := 855) d_L_law_855 ?_
  refine ldi_n_4_3 (pc := 856) d_L_law_856 ?_
  refine r_iconst (pc := 857) (v := 2) d_L_law_857 rfl ?_
  refine r_iadd (pc := 858) d_L_law_858 ?_
  refine r_scr (pc := 859) (n := n) (k := 2) (lwi2 n) d_L_law_859 (by omega) hL ?_
  refine r_callV (pc := 860) (As := [.int (qsx E (n + 1)), .int (qsx E (n + 2))]) (k := 9) (N := 56) (T := T_Md) k_L_107 im_Md_book se_Md_book rfl (by decide) rfl (by decide) d_L_law_860 hM1.1 (R_book hM1 hR1) rfl (Nat.le_of_ble_eq_true rfl) (by omega) (by omega) (by omega) (fun v2 S2 I2 J2 hq2 => ?_)
  obtain ⟨pR, hV⟩ := hq2
  obtain ⟨r2, rfl⟩ : VI v2 := ⟨_, pR.1⟩
  refine r_pop (pc := 863) d_L_law_863 rfl ?_
  refine r_goto (pc := 864) (tgt := 1273) d_L_law_864 (by decide) ?_
  exact kend _ _ _ _ _ (by omega) (by omega) (g.book pK cw hK pR hV)
theorem lw_case22 {c s n : Nat} (hc : c + 5 ≤ 600000) (hs : s + 133 ≤ 7302250) (hn : n + 5 < qsl E) (hL : qsl E ≤ 3072) (g : tINV S I J) (kend : qEnd E c s n Q) : qW E y_L_law b_L_law (some .boolean) 1312 600000 7302250 Q c s 867 [some (.ref (qsc E)), some (.ref (qb E + 0)), some (.ref (qb E + 114)), some (.int (nI n))] [] S I J := by
  obtain ⟨⟨w0, w1, w2, bl, hC⟩, hM, hR, hT⟩ := id g.1.1.1
  refine lda_n_4_1 (pc := 867) d_L_law_867 ?_
  refine r_callV (pc := 868) (As := []) (k := 8) (N := 11) (T := T_On) k_L_108 im_On_looked se_On_looked rfl (by decide) rfl (by decide) d_L_law_868 hC.1.1 (K_lookedX hC) rfl (Nat.le_of_ble_eq_true rfl) (by omega) (by omega) (by omega) (fun v S1 I1 J1 hq => ?_)
  obtain ⟨⟨pK, cw⟩, hK⟩ := hq
  obtain ⟨r1, rfl⟩ : VI v := (by obtain ⟨⟨c, z, -, -, -, -, h⟩, -⟩ := pK; exact ⟨_, h⟩)
  have hM1 := hK.2.1 hM
  have hR1 := hR.far hK.2.2.1
  refine r_pop (pc := 871) d_L_law_871 rfl ?_
  refine lda_n_4_2 (pc := 872) d_L_law_872 ?_
  refine r_callV (pc := 873) (As := []) (k := 9) (N := 56) (T := T_Md) k_L_111 im_Md_looked se_Md_looked rfl (by decide) rfl (by decide) d_L_law_873 hM1.1 (R_lookedX hM1 hR1) rfl (Nat.le_of_ble_eq_true rfl) (by omega) (by omega) (by omega) (fun v2 S2 I2 J2 hq2 => ?_)
  obtain ⟨⟨pR, rw⟩, hV⟩ := hq2
  obtain ⟨r2, rfl⟩ : VI v2 := (by obtain ⟨⟨z, -, -, h⟩, -⟩ := pR; exact ⟨_, h⟩)
  refine r_pop (pc := 876) d_L_law_876 rfl ?_
  refine r_goto (pc := 877) (tgt := 1273) d_L_law_877 (by decide) ?_
  exact kend _ _ _ _ _ (by omega) (by omega) (g.ask pK.2 cw hK pR.2 rw hV)
theorem lw_case23 {c s n : Nat} (hc : c + 5 ≤ 600000) (hs : s + 133 ≤ 7302250) (hn : n + 5 < qsl E) (hL : qsl E ≤ 3072) (g : tINV S I J) (kend : qEnd E c s n Q) : qW E y_L_law b_L_law (some .boolean) 1312 600000 7302250 Q c s 880 [some (.ref (qsc E)), some (.ref (qb E + 0)), some (.ref (qb E + 114)), some (.int (nI n))] [] S I J := by
  obtain ⟨⟨w0, w1, w2, bl, hC⟩, hM, hR, hT⟩ := id g.1.1.1
  refine lda_n_4_1 (pc := 880) d_L_law_880 ?_
  refine lda_n_4_0 (pc := 881) d_L_law_881 ?_
  refine ldi_n_4_3 (pc := 882) d_L_law_882 ?_
  refine r_iconst (pc := 883) (v := 1) d_L_law_883 rfl ?_
  refine r_iadd (pc := 884) d_L_law_884 ?_
  refine r_scr (pc := 885) (n := n) (k := 1) (lwi1 n) d_L_law_885 (by omega) hL ?_
  refine lda_n_4_0 (pc := 886) d_L_law_886 ?_
  refine ldi_n_4_3 (pc := 887) d_L_law_887 ?_
  refine r_iconst (pc := 888) (v := 2) d_L_law_888 rfl ?_
  refine r_iadd (pc := 889) d_L_law_889 ?_
  refine r_scr (pc := 890) (n := n) (k := 2) (lwi2 n) d_L_law_890 (by omega) hL ?_
  refine r_callV (pc := 891) (As := [.int (qsx E (n + 1)), .int (qsx E (n + 2))]) (k := 8) (N := 11) (T := T_On) k_L_112 im_On_judge se_On_judge rfl (by decide) rfl (by decide) d_L_law_891 hC.1.1 (K_judgeX hC) rfl (Nat.le_of_ble_eq_true rfl) (by omega) (by omega) (by omega) (fun v S1 I1 J1 hq => ?_)
  obtain ⟨⟨pK, cw⟩, hK⟩ := hq
  obtain ⟨r1, rfl⟩ : VI v := (by obtain ⟨⟨c, -, -, h⟩, -⟩ := pK; exact ⟨_, h⟩)
  have hM1 := hK.2.1 hM
  have hR1 := hR.far hK.2.2.1
  refine r_pop (pc := 894) d_L_law_894 rfl ?_
  refine lda_n_4_2 (pc := 895) d_L_law_895 ?_
  refine lda_n_4_0 (pc := 896) d_L_law_896 ?_
  refine ldi_n_4_3 (pc := 897) d_L_law_897 ?_
  refine r_iconst (pc := 898) (v := 1) d_L_law_898 rfl ?_
  refine r_iadd (pc := 899) d_L_law_899 ?_
  refine r_scr (pc := 900) (n := n) (k := 1) (lwi1 n) d_L_law_900 (by omega) hL ?_
  refine lda_n_4_0 (pc := 901) d_L_law_901 ?_
  refine ldi_n_4_3 (pc := 902) d_L_law_902 ?_
  refine r_iconst (pc := 903) (v := 2) d_L_law_903 rfl ?_
  refine r_iadd (pc := 904) d_L_law_904 ?_
  refine r_scr (pc := 905) (n := n) (k := 2) (lwi2 n) d_L_law_905 (by omega) hL ?_
  refine r_callV (pc := 906) (As := [.int (qsx E (n + 1)), .int (qsx E (n + 2))]) (k := 9) (N := 56) (T := T_Md) k_L_115 im_Md_judge se_Md_judge rfl (by decide) rfl (by decide) d_L_law_906 hM1.1 (R_judgeX hM1 hR1) rfl (Nat.le_of_ble_eq_true rfl) (by omega) (by omega) (by omega) (fun v2 S2 I2 J2 hq2 => ?_)
  obtain ⟨⟨pR, rw⟩, hV⟩ := hq2
  obtain ⟨r2, rfl⟩ : VI v2 := (by obtain ⟨⟨c, -, -, h⟩, -⟩ := pR; exact ⟨_, h⟩)
  refine r_pop (pc := 909) d_L_law_909 rfl ?_
  refine r_goto (pc := 910) (tgt := 1273) d_L_law_910 (by decide) ?_
  exact kend _ _ _ _ _ (by omega) (by omega) (g.ask pK.2 cw hK pR.2 rw hV)
theorem lw_case24 {c s n : Nat} (hc : c + 5 ≤ 600000) (hs : s + 133 ≤ 7302250) (hn : n + 5 < qsl E) (hL : qsl E ≤ 3072) (g : tINV S I J) (kend : qEnd E c s n Q) : qW E y_L_law b_L_law (some .boolean) 1312 600000 7302250 Q c s 913 [some (.ref (qsc E)), some (.ref (qb E + 0)), some (.ref (qb E + 114)), some (.int (nI n))] [] S I J := by
  obtain ⟨⟨w0, w1, w2, bl, hC⟩, hM, hR, hT⟩ := id g.1.1.1
  obtain ⟨c0, c06, hc0⟩ := hC.2.2.2.2.1.1
  refine lda_n_4_1 (pc := 913) d_L_law_913 ?_
  refine r_callV (pc := 914) (As := []) (k := 8) (N := 11) (T := T_On) k_L_116 im_On_image se_On_image rfl (by decide) rfl (by decide) d_L_law_914 hC.1.1 (K_image hC hc0 c06) rfl (Nat.le_of_ble_eq_true rfl) (by omega) (by omega) (by omega) (fun v S1 I1 J1 hq => ?_)
  obtain ⟨⟨pK, cw⟩, hK⟩ := hq
  obtain ⟨r1, rfl⟩ : VI v := ⟨_, pK.1⟩
  have hM1 := hK.2.1 hM
  have hR1 := hR.far hK.2.2.1
  refine r_pop (pc := 917) d_L_law_917 rfl ?_
  refine lda_n_4_2 (pc := 918) d_L_law_918 ?_
  refine r_callV (pc := 919) (As := []) (k := 9) (N := 56) (T := T_Md) k_L_119 im_Md_image se_Md_image rfl (by decide) rfl (by decide) d_L_law_919 hM1.1 (R_image hM1 hR1) rfl (Nat.le_of_ble_eq_true rfl) (by omega) (by omega) (by omega) (fun v2 S2 I2 J2 hq2 => ?_)
  obtain ⟨⟨pR, rw⟩, hV⟩ := hq2
  obtain ⟨r2, rfl⟩ : VI v2 := ⟨_, pR.1⟩
  refine r_pop (pc := 922) d_L_law_922 rfl ?_
  refine r_goto (pc := 923) (tgt := 1273) d_L_law_923 (by decide) ?_
  exact kend _ _ _ _ _ (by omega) (by omega) (g.image pK.2 cw hK pR.2 rw hV)
theorem lw_case25 {c s n : Nat} (hc : c + 5 ≤ 600000) (hs : s + 133 ≤ 7302250) (hn : n + 5 < qsl E) (hL : qsl E ≤ 3072) (g : tINV S I J) (kend : qEnd E c s n Q) : qW E y_L_law b_L_law (some .boolean) 1312 600000 7302250 Q c s 926 [some (.ref (qsc E)), some (.ref (qb E + 0)), some (.ref (qb E + 114)), some (.int (nI n))] [] S I J := by
  obtain ⟨⟨w0, w1, w2, bl, hC⟩, hM, hR, hT⟩ := id g.1.1.1
  rcases hC.2.2.2.2.2.2.2.2.2.1 with hz | ⟨hz, -⟩
  · refine lda_n_4_1 (pc := 926) d_L_law_926 ?_
    refine r_callV (pc := 927) (As := []) (k := 8) (N := 11) (T := T_On) k_L_120 im_On_undo se_On_undo rfl (by decide) rfl (by decide) d_L_law_927 hC.1.1 (K_undo0 hC hz) rfl (Nat.le_of_ble_eq_true rfl) (by omega) (by omega) (by omega) (fun v S1 I1 J1 hq => ?_)
    obtain ⟨⟨pK, cw⟩, hK⟩ := hq
    obtain ⟨r1, rfl⟩ : VI v := ⟨_, pK.1⟩
    have hM1 := hK.2.1 hM
    have hR1 := hR.far hK.2.2.1
    have hz1 : I1 114 39 = 0 := by rw [(hK.2.2.1 114 (by decide) (by decide)).1, hT.2.1]; exact hz
    refine r_pop (pc := 930) d_L_law_930 rfl ?_
    refine lda_n_4_2 (pc := 931) d_L_law_931 ?_
    refine r_callV (pc := 932) (As := []) (k := 9) (N := 56) (T := T_Md) k_L_123 im_Md_undo se_Md_undo rfl (by decide) rfl (by decide) d_L_law_932 hM1.1 (R_undo0 hM1 hR1 hz1) rfl (Nat.le_of_ble_eq_true rfl) (by omega) (by omega) (by omega) (fun v2 S2 I2 J2 hq2 => ?_)
    obtain ⟨⟨pR, rw⟩, hV⟩ := hq2
    obtain ⟨r2, rfl⟩ : VI v2 := ⟨_, pR.1⟩
    refine r_pop (pc := 935) d_L_law_935 rfl ?_
    refine r_goto (pc := 936) (tgt := 1273) d_L_law_936 (by decide) ?_
    exact kend _ _ _ _ _ (by omega) (by omega) (g.ask pK.2 cw hK pR.2 rw hV)
  · refine lda_n_4_1 (pc := 926) d_L_law_926 ?_
    refine r_callV (pc := 927) (As := []) (k := 8) (N := 11) (T := T_On) k_L_120 im_On_undo se_On_undo rfl (by decide) rfl (by decide) d_L_law_927 hC.1.1 (K_undo1 hC hz) rfl (Nat.le_of_ble_eq_true rfl) (by omega) (by omega) (by omega) (fun v S1 I1 J1 hq => ?_)
    obtain ⟨⟨pK, cw⟩, hK⟩ := hq
    obtain ⟨r1, rfl⟩ : VI v := ⟨_, pK.1⟩
    have hM1 := hK.2.1 hM
    have hR1 := hR.far hK.2.2.1
    have hz1 : I1 114 39 = 1 := by rw [(hK.2.2.1 114 (by decide) (by decide)).1, hT.2.1]; exact hz
    refine r_pop (pc := 930) d_L_law_930 rfl ?_
    refine lda_n_4_2 (pc := 931) d_L_law_931 ?_
    refine r_callV (pc := 932) (As := []) (k := 9) (N := 56) (T := T_Md) k_L_123 im_Md_undo se_Md_undo rfl (by decide) rfl (by decide) d_L_law_932 hM1.1 (R_undo1 hM1 hR1 hz1) rfl (Nat.le_of_ble_eq_true rfl) (by omega) (by omega) (by omega) (fun v2 S2 I2 J2 hq2 => ?_)
    obtain ⟨⟨pR, rw⟩, hV⟩ := hq2
    obtain ⟨r2, rfl⟩ : VI v2 := ⟨_, pR.1⟩
    refine r_pop (pc := 935) d_L_law_935 rfl ?_
    refine r_goto (pc := 936) (tgt := 1273) d_L_law_936 (by decide) ?_
    exact kend _ _ _ _ _ (by omega) (by omega) (g.undo1 hz pK.2 cw hK pR.2 rw hV.2.2.2.2.1 hV)
theorem lw_case26 {c s n : Nat} (hc : c + 5 ≤ 600000) (hs : s + 133 ≤ 7302250) (hn : n + 5 < qsl E) (hL : qsl E ≤ 3072) (g : tINV S I J) (kend : qEnd E c s n Q) : qW E y_L_law b_L_law (some .boolean) 1312 600000 7302250 Q c s 939 [some (.ref (qsc E)), some (.ref (qb E + 0)), some (.ref (qb E + 114)), some (.int (nI n))] [] S I J := by
  obtain ⟨⟨w0, w1, w2, bl, hC⟩, hM, hR, hT⟩ := id g.1.1.1
  refine lda_n_4_1 (pc := 939) d_L_law_939 ?_
  refine lda_n_4_0 (pc := 940) d_L_law_940 ?_
  refine ldi_n_4_3 (pc := 941) d_L_law_941 ?_
  refine r_iconst (pc := 942) (v := 1) d_L_law_942 rfl ?_
  refine r_iadd (pc := 943) d_L_law_943 ?_
  refine r_scr (pc := 944) (n := n) (k := 1) (lwi1 n) d_L_law_944 (by omega) hL ?_
  refine lda_n_4_0 (pc := 945) d_L_law_945 ?_
  refine ldi_n_4_3 (pc := 946) d_L_law_946 ?_
  refine r_iconst (pc := 947) (v := 2) d_L_law_947 rfl ?_
  refine r_iadd (pc := 948) d_L_law_948 ?_
  refine r_scr (pc := 949) (n := n) (k := 2) (lwi2 n) d_L_law_949 (by omega) hL ?_
  refine lda_n_4_0 (pc := 950) d_L_law_950 ?_
  refine ldi_n_4_3 (pc := 951) d_L_law_951 ?_
  refine r_iconst (pc := 952) (v := 3) d_L_law_952 rfl ?_
  refine r_iadd (pc := 953) d_L_law_953 ?_
  refine r_scr (pc := 954) (n := n) (k := 3) (lwi3 n) d_L_law_954 (by omega) hL ?_
  refine r_callV (pc := 955) (As := [.int (qsx E (n + 1)), .int (qsx E (n + 2)), .int (qsx E (n + 3))]) (k := 8) (N := 11) (T := T_On) k_L_124 im_On_act se_On_act rfl (by decide) rfl (by decide) d_L_law_955 hC.1.1 (K_act hC) rfl (Nat.le_of_ble_eq_true rfl) (by omega) (by omega) (by omega) (fun v S1 I1 J1 hq => ?_)
  obtain ⟨⟨pK, cw⟩, hK⟩ := hq
  obtain ⟨r1, rfl⟩ : VI v := (by obtain ⟨c, -, -, h, -⟩ := pK; exact ⟨_, h⟩)
  have hM1 := hK.2.1 hM
  have hR1 := hR.far hK.2.2.1
  refine r_pop (pc := 958) d_L_law_958 rfl ?_
  refine lda_n_4_2 (pc := 959) d_L_law_959 ?_
  refine lda_n_4_0 (pc := 960) d_L_law_960 ?_
  refine ldi_n_4_3 (pc := 961) d_L_law_961 ?_
  refine r_iconst (pc := 962) (v := 1) d_L_law_962 rfl ?_
  refine r_iadd (pc := 963) d_L_law_963 ?_
  refine r_scr (pc := 964) (n := n) (k := 1) (lwi1 n) d_L_law_964 (by omega) hL ?_
  refine lda_n_4_0 (pc := 965) d_L_law_965 ?_
  refine ldi_n_4_3 (pc := 966) d_L_law_966 ?_
  refine r_iconst (pc := 967) (v := 2) d_L_law_967 rfl ?_
  refine r_iadd (pc := 968) d_L_law_968 ?_
  refine r_scr (pc := 969) (n := n) (k := 2) (lwi2 n) d_L_law_969 (by omega) hL ?_
  refine lda_n_4_0 (pc := 970) d_L_law_970 ?_
  refine ldi_n_4_3 (pc := 971) d_L_law_971 ?_
  refine r_iconst (pc := 972) (v := 3) d_L_law_972 rfl ?_
  refine r_iadd (pc := 973) d_L_law_973 ?_
  refine r_scr (pc := 974) (n := n) (k := 3) (lwi3 n) d_L_law_974 (by omega) hL ?_
  refine r_callV (pc := 975) (As := [.int (qsx E (n + 1)), .int (qsx E (n + 2)), .int (qsx E (n + 3))]) (k := 9) (N := 56) (T := T_Md) k_L_127 im_Md_act se_Md_act rfl (by decide) rfl (by decide) d_L_law_975 hM1.1 (R_act hM1 hR1) rfl (Nat.le_of_ble_eq_true rfl) (by omega) (by omega) (by omega) (fun v2 S2 I2 J2 hq2 => ?_)
  obtain ⟨pR, hV⟩ := hq2
  obtain ⟨r2, rfl⟩ : VI v2 := (by obtain ⟨c, -, -, -, ⟨-, h, -⟩ | ⟨p, k, -, -, -, -, -, h, -⟩⟩ := pR <;> exact ⟨_, h⟩)
  refine r_pop (pc := 978) d_L_law_978 rfl ?_
  refine r_goto (pc := 979) (tgt := 1273) d_L_law_979 (by decide) ?_
  exact kend _ _ _ _ _ (by omega) (by omega) (g.act pK cw hK pR hV)
theorem lw_case27 {c s n : Nat} (hc : c + 5 ≤ 600000) (hs : s + 133 ≤ 7302250) (hn : n + 5 < qsl E) (hL : qsl E ≤ 3072) (g : tINV S I J) (kend : qEnd E c s n Q) : qW E y_L_law b_L_law (some .boolean) 1312 600000 7302250 Q c s 982 [some (.ref (qsc E)), some (.ref (qb E + 0)), some (.ref (qb E + 114)), some (.int (nI n))] [] S I J := by
  obtain ⟨⟨w0, w1, w2, bl, hC⟩, hM, hR, hT⟩ := id g.1.1.1
  refine lda_n_4_1 (pc := 982) d_L_law_982 ?_
  refine lda_n_4_0 (pc := 983) d_L_law_983 ?_
  refine ldi_n_4_3 (pc := 984) d_L_law_984 ?_
  refine r_iconst (pc := 985) (v := 1) d_L_law_985 rfl ?_
  refine r_iadd (pc := 986) d_L_law_986 ?_
  refine r_scr (pc := 987) (n := n) (k := 1) (lwi1 n) d_L_law_987 (by omega) hL ?_
  refine r_callV (pc := 988) (As := [.int (qsx E (n + 1))]) (k := 8) (N := 11) (T := T_On) k_L_128 im_On_trace se_On_trace rfl (by decide) rfl (by decide) d_L_law_988 hC.1.1 (K_trace hC) rfl (Nat.le_of_ble_eq_true rfl) (by omega) (by omega) (by omega) (fun v S1 I1 J1 hq => ?_)
  obtain ⟨⟨pK, cw⟩, hK⟩ := hq
  obtain ⟨r1, rfl⟩ : VI v := ⟨_, pK.1⟩
  have hM1 := hK.2.1 hM
  have hR1 := hR.far hK.2.2.1
  refine r_pop (pc := 991) d_L_law_991 rfl ?_
  refine lda_n_4_2 (pc := 992) d_L_law_992 ?_
  refine lda_n_4_0 (pc := 993) d_L_law_993 ?_
  refine ldi_n_4_3 (pc := 994) d_L_law_994 ?_
  refine r_iconst (pc := 995) (v := 1) d_L_law_995 rfl ?_
  refine r_iadd (pc := 996) d_L_law_996 ?_
  refine r_scr (pc := 997) (n := n) (k := 1) (lwi1 n) d_L_law_997 (by omega) hL ?_
  refine r_callV (pc := 998) (As := [.int (qsx E (n + 1))]) (k := 9) (N := 56) (T := T_Md) k_L_131 im_Md_trace se_Md_trace rfl (by decide) rfl (by decide) d_L_law_998 hM1.1 (R_trace hM1 hR1) rfl (Nat.le_of_ble_eq_true rfl) (by omega) (by omega) (by omega) (fun v2 S2 I2 J2 hq2 => ?_)
  obtain ⟨⟨pR, rw⟩, hV⟩ := hq2
  obtain ⟨r2, rfl⟩ : VI v2 := ⟨_, pR.1⟩
  refine r_pop (pc := 1001) d_L_law_1001 rfl ?_
  refine r_goto (pc := 1002) (tgt := 1273) d_L_law_1002 (by decide) ?_
  exact kend _ _ _ _ _ (by omega) (by omega) (g.ask pK.2 cw hK pR.2 rw hV)
theorem lw_case28 {c s n : Nat} (hc : c + 5 ≤ 600000) (hs : s + 133 ≤ 7302250) (hn : n + 5 < qsl E) (hL : qsl E ≤ 3072) (g : tINV S I J) (kend : qEnd E c s n Q) : qW E y_L_law b_L_law (some .boolean) 1312 600000 7302250 Q c s 1005 [some (.ref (qsc E)), some (.ref (qb E + 0)), some (.ref (qb E + 114)), some (.int (nI n))] [] S I J := by
  obtain ⟨⟨w0, w1, w2, bl, hC⟩, hM, hR, hT⟩ := id g.1.1.1
  refine lda_n_4_1 (pc := 1005) d_L_law_1005 ?_
  refine lda_n_4_0 (pc := 1006) d_L_law_1006 ?_
  refine ldi_n_4_3 (pc := 1007) d_L_law_1007 ?_
  refine r_iconst (pc := 1008) (v := 1) d_L_law_1008 rfl ?_
  refine r_iadd (pc := 1009) d_L_law_1009 ?_
  refine r_scr (pc := 1010) (n := n) (k := 1) (lwi1 n) d_L_law_1010 (by omega) hL ?_
  refine lda_n_4_0 (pc := 1011) d_L_law_1011 ?_
  refine ldi_n_4_3 (pc := 1012) d_L_law_1012 ?_
  refine r_iconst (pc := 1013) (v := 2) d_L_law_1013 rfl ?_
  refine r_iadd (pc := 1014) d_L_law_1014 ?_
  refine r_scr (pc := 1015) (n := n) (k := 2) (lwi2 n) d_L_law_1015 (by omega) hL ?_
  refine r_callV (pc := 1016) (As := [.int (qsx E (n + 1)), .int (qsx E (n + 2))]) (k := 8) (N := 11) (T := T_On) k_L_132 im_On_taken se_On_taken rfl (by decide) rfl (by decide) d_L_law_1016 hC.1.1 (K_taken hC) rfl (Nat.le_of_ble_eq_true rfl) (by omega) (by omega) (by omega) (fun v S1 I1 J1 hq => ?_)
  obtain ⟨⟨pK, cw⟩, hK⟩ := hq
  obtain ⟨r1, rfl⟩ : VI v := (by obtain ⟨c, -, -, h, -⟩ := pK; exact ⟨_, h⟩)
  have hM1 := hK.2.1 hM
  have hR1 := hR.far hK.2.2.1
  refine r_pop (pc := 1019) d_L_law_1019 rfl ?_
  refine lda_n_4_2 (pc := 1020) d_L_law_1020 ?_
  refine lda_n_4_0 (pc := 1021) d_L_law_1021 ?_
  refine ldi_n_4_3 (pc := 1022) d_L_law_1022 ?_
  refine r_iconst (pc := 1023) (v := 1) d_L_law_1023 rfl ?_
  refine r_iadd (pc := 1024) d_L_law_1024 ?_
  refine r_scr (pc := 1025) (n := n) (k := 1) (lwi1 n) d_L_law_1025 (by omega) hL ?_
  refine lda_n_4_0 (pc := 1026) d_L_law_1026 ?_
  refine ldi_n_4_3 (pc := 1027) d_L_law_1027 ?_
  refine r_iconst (pc := 1028) (v := 2) d_L_law_1028 rfl ?_
  refine r_iadd (pc := 1029) d_L_law_1029 ?_
  refine r_scr (pc := 1030) (n := n) (k := 2) (lwi2 n) d_L_law_1030 (by omega) hL ?_
  refine r_callV (pc := 1031) (As := [.int (qsx E (n + 1)), .int (qsx E (n + 2))]) (k := 9) (N := 56) (T := T_Md) k_L_135 im_Md_taken se_Md_taken rfl (by decide) rfl (by decide) d_L_law_1031 hM1.1 (R_taken hM1 hR1) rfl (Nat.le_of_ble_eq_true rfl) (by omega) (by omega) (by omega) (fun v2 S2 I2 J2 hq2 => ?_)
  obtain ⟨⟨pR, rw⟩, hV⟩ := hq2
  obtain ⟨r2, rfl⟩ : VI v2 := (by obtain ⟨c, -, -, -, ⟨-, h⟩ | ⟨-, -, h⟩ | ⟨-, p, k, -, -, -, -, h⟩⟩ := pR <;> exact ⟨_, h⟩)
  refine r_pop (pc := 1034) d_L_law_1034 rfl ?_
  refine r_goto (pc := 1035) (tgt := 1273) d_L_law_1035 (by decide) ?_
  exact kend _ _ _ _ _ (by omega) (by omega) (g.ask (by obtain ⟨c, -, -, -, h⟩ := pK; exact h) cw hK (by obtain ⟨c, -, -, h, -⟩ := pR; exact h) rw hV)
theorem lw_case29 {c s n : Nat} (hc : c + 5 ≤ 600000) (hs : s + 133 ≤ 7302250) (hn : n + 5 < qsl E) (hL : qsl E ≤ 3072) (g : tINV S I J) (kend : qEnd E c s n Q) : qW E y_L_law b_L_law (some .boolean) 1312 600000 7302250 Q c s 1038 [some (.ref (qsc E)), some (.ref (qb E + 0)), some (.ref (qb E + 114)), some (.int (nI n))] [] S I J := by
  obtain ⟨⟨w0, w1, w2, bl, hC⟩, hM, hR, hT⟩ := id g.1.1.1
  refine lda_n_4_1 (pc := 1038) d_L_law_1038 ?_
  refine lda_n_4_0 (pc := 1039) d_L_law_1039 ?_
  refine ldi_n_4_3 (pc := 1040) d_L_law_1040 ?_
  refine r_iconst (pc := 1041) (v := 1) d_L_law_1041 rfl ?_
  refine r_iadd (pc := 1042) d_L_law_1042 ?_
  refine r_scr (pc := 1043) (n := n) (k := 1) (lwi1 n) d_L_law_1043 (by omega) hL ?_
  refine r_callV (pc := 1044) (As := [.int (qsx E (n + 1))]) (k := 8) (N := 11) (T := T_On) k_L_136 im_On_count se_On_count rfl (by decide) rfl (by decide) d_L_law_1044 hC.1.1 (K_count hC) rfl (Nat.le_of_ble_eq_true rfl) (by omega) (by omega) (by omega) (fun v S1 I1 J1 hq => ?_)
  obtain ⟨⟨pK, cw⟩, hK⟩ := hq
  obtain ⟨r1, rfl⟩ : VI v := ⟨_, pK.1⟩
  have hM1 := hK.2.1 hM
  have hR1 := hR.far hK.2.2.1
  refine r_pop (pc := 1047) d_L_law_1047 rfl ?_
  refine lda_n_4_2 (pc := 1048) d_L_law_1048 ?_
  refine lda_n_4_0 (pc := 1049) d_L_law_1049 ?_
  refine ldi_n_4_3 (pc := 1050) d_L_law_1050 ?_
  refine r_iconst (pc := 1051) (v := 1) d_L_law_1051 rfl ?_
  refine r_iadd (pc := 1052) d_L_law_1052 ?_
  refine r_scr (pc := 1053) (n := n) (k := 1) (lwi1 n) d_L_law_1053 (by omega) hL ?_
  refine r_callV (pc := 1054) (As := [.int (qsx E (n + 1))]) (k := 9) (N := 56) (T := T_Md) k_L_139 im_Md_count se_Md_count rfl (by decide) rfl (by decide) d_L_law_1054 hM1.1 (R_count hM1 hR1) rfl (Nat.le_of_ble_eq_true rfl) (by omega) (by omega) (by omega) (fun v2 S2 I2 J2 hq2 => ?_)
  obtain ⟨⟨pR, rw⟩, hV⟩ := hq2
  obtain ⟨r2, rfl⟩ : VI v2 := ⟨_, pR.1⟩
  refine r_pop (pc := 1057) d_L_law_1057 rfl ?_
  refine r_goto (pc := 1058) (tgt := 1273) d_L_law_1058 (by decide) ?_
  exact kend _ _ _ _ _ (by omega) (by omega) (g.ask pK.2 cw hK pR.2 rw hV)
theorem lw_case30 {c s n : Nat} (hc : c + 5 ≤ 600000) (hs : s + 133 ≤ 7302250) (hn : n + 5 < qsl E) (hL : qsl E ≤ 3072) (g : tINV S I J) (kend : qEnd E c s n Q) : qW E y_L_law b_L_law (some .boolean) 1312 600000 7302250 Q c s 1061 [some (.ref (qsc E)), some (.ref (qb E + 0)), some (.ref (qb E + 114)), some (.int (nI n))] [] S I J := by
  obtain ⟨⟨w0, w1, w2, bl, hC⟩, hM, hR, hT⟩ := id g.1.1.1
  refine lda_n_4_1 (pc := 1061) d_L_law_1061 ?_
  refine lda_n_4_0 (pc := 1062) d_L_law_1062 ?_
  refine ldi_n_4_3 (pc := 1063) d_L_law_1063 ?_
  refine r_iconst (pc := 1064) (v := 1) d_L_law_1064 rfl ?_
  refine r_iadd (pc := 1065) d_L_law_1065 ?_
  refine r_scr (pc := 1066) (n := n) (k := 1) (lwi1 n) d_L_law_1066 (by omega) hL ?_
  refine lda_n_4_0 (pc := 1067) d_L_law_1067 ?_
  refine ldi_n_4_3 (pc := 1068) d_L_law_1068 ?_
  refine r_iconst (pc := 1069) (v := 2) d_L_law_1069 rfl ?_
  refine r_iadd (pc := 1070) d_L_law_1070 ?_
  refine r_scr (pc := 1071) (n := n) (k := 2) (lwi2 n) d_L_law_1071 (by omega) hL ?_
  refine lda_n_4_0 (pc := 1072) d_L_law_1072 ?_
  refine ldi_n_4_3 (pc := 1073) d_L_law_1073 ?_
  refine r_iconst (pc := 1074) (v := 3) d_L_law_1074 rfl ?_
  refine r_iadd (pc := 1075) d_L_law_1075 ?_
  refine r_scr (pc := 1076) (n := n) (k := 3) (lwi3 n) d_L_law_1076 (by omega) hL ?_
  refine r_callV (pc := 1077) (As := [.int (qsx E (n + 1)), .int (qsx E (n + 2)), .int (qsx E (n + 3))]) (k := 8) (N := 11) (T := T_On) k_L_140 im_On_tape se_On_tape rfl (by decide) rfl (by decide) d_L_law_1077 hC.1.1 (K_tape hC) rfl (Nat.le_of_ble_eq_true rfl) (by omega) (by omega) (by omega) (fun v S1 I1 J1 hq => ?_)
  obtain ⟨⟨pK, cw⟩, hK⟩ := hq
  obtain ⟨r1, rfl⟩ : VI v := ⟨_, pK.1⟩
  have hM1 := hK.2.1 hM
  have hR1 := hR.far hK.2.2.1
  refine r_pop (pc := 1080) d_L_law_1080 rfl ?_
  refine lda_n_4_2 (pc := 1081) d_L_law_1081 ?_
  refine lda_n_4_0 (pc := 1082) d_L_law_1082 ?_
  refine ldi_n_4_3 (pc := 1083) d_L_law_1083 ?_
  refine r_iconst (pc := 1084) (v := 1) d_L_law_1084 rfl ?_
  refine r_iadd (pc := 1085) d_L_law_1085 ?_
  refine r_scr (pc := 1086) (n := n) (k := 1) (lwi1 n) d_L_law_1086 (by omega) hL ?_
  refine lda_n_4_0 (pc := 1087) d_L_law_1087 ?_
  refine ldi_n_4_3 (pc := 1088) d_L_law_1088 ?_
  refine r_iconst (pc := 1089) (v := 2) d_L_law_1089 rfl ?_
  refine r_iadd (pc := 1090) d_L_law_1090 ?_
  refine r_scr (pc := 1091) (n := n) (k := 2) (lwi2 n) d_L_law_1091 (by omega) hL ?_
  refine lda_n_4_0 (pc := 1092) d_L_law_1092 ?_
  refine ldi_n_4_3 (pc := 1093) d_L_law_1093 ?_
  refine r_iconst (pc := 1094) (v := 3) d_L_law_1094 rfl ?_
  refine r_iadd (pc := 1095) d_L_law_1095 ?_
  refine r_scr (pc := 1096) (n := n) (k := 3) (lwi3 n) d_L_law_1096 (by omega) hL ?_
  refine r_callV (pc := 1097) (As := [.int (qsx E (n + 1)), .int (qsx E (n + 2)), .int (qsx E (n + 3))]) (k := 9) (N := 56) (T := T_Md) k_L_143 im_Md_tape se_Md_tape rfl (by decide) rfl (by decide) d_L_law_1097 hM1.1 (R_tape hM1 hR1) rfl (Nat.le_of_ble_eq_true rfl) (by omega) (by omega) (by omega) (fun v2 S2 I2 J2 hq2 => ?_)
  obtain ⟨pR, hV⟩ := hq2
  obtain ⟨r2, rfl⟩ : VI v2 := ⟨_, pR.1⟩
  refine r_pop (pc := 1100) d_L_law_1100 rfl ?_
  refine r_goto (pc := 1101) (tgt := 1273) d_L_law_1101 (by decide) ?_
  exact kend _ _ _ _ _ (by omega) (by omega) (g.tape pK.2 cw hK pR.2 hV)
theorem lw_case31 {c s n : Nat} (hc : c + 5 ≤ 600000) (hs : s + 133 ≤ 7302250) (hn : n + 5 < qsl E) (hL : qsl E ≤ 3072) (g : tINV S I J) (kend : qEnd E c s n Q) : qW E y_L_law b_L_law (some .boolean) 1312 600000 7302250 Q c s 1104 [some (.ref (qsc E)), some (.ref (qb E + 0)), some (.ref (qb E + 114)), some (.int (nI n))] [] S I J := by
  obtain ⟨⟨w0, w1, w2, bl, hC⟩, hM, hR, hT⟩ := id g.1.1.1
  refine lda_n_4_1 (pc := 1104) d_L_law_1104 ?_
  refine lda_n_4_0 (pc := 1105) d_L_law_1105 ?_
  refine ldi_n_4_3 (pc := 1106) d_L_law_1106 ?_
  refine r_iconst (pc := 1107) (v := 1) d_L_law_1107 rfl ?_
  refine r_iadd (pc := 1108) d_L_law_1108 ?_
  refine r_scr (pc := 1109) (n := n) (k := 1) (lwi1 n) d_L_law_1109 (by omega) hL ?_
  refine lda_n_4_0 (pc := 1110) d_L_law_1110 ?_
  refine ldi_n_4_3 (pc := 1111) d_L_law_1111 ?_
  refine r_iconst (pc := 1112) (v := 2) d_L_law_1112 rfl ?_
  refine r_iadd (pc := 1113) d_L_law_1113 ?_
  refine r_scr (pc := 1114) (n := n) (k := 2) (lwi2 n) d_L_law_1114 (by omega) hL ?_
  refine lda_n_4_0 (pc := 1115) d_L_law_1115 ?_
  refine ldi_n_4_3 (pc := 1116) d_L_law_1116 ?_
  refine r_iconst (pc := 1117) (v := 3) d_L_law_1117 rfl ?_
  refine r_iadd (pc := 1118) d_L_law_1118 ?_
  refine r_scr (pc := 1119) (n := n) (k := 3) (lwi3 n) d_L_law_1119 (by omega) hL ?_
  refine r_i2l (pc := 1120) d_L_law_1120 ?_
  refine r_bipush (pc := 1121) (v := 32) d_L_law_1121 rfl ?_
  refine r_lshl (pc := 1123) d_L_law_1123 rfl ?_
  refine lda_n_4_0 (pc := 1124) d_L_law_1124 ?_
  refine ldi_n_4_3 (pc := 1125) d_L_law_1125 ?_
  refine r_iconst (pc := 1126) (v := 4) d_L_law_1126 rfl ?_
  refine r_iadd (pc := 1127) d_L_law_1127 ?_
  refine r_scr (pc := 1128) (n := n) (k := 4) (lwi4 n) d_L_law_1128 (by omega) hL ?_
  refine r_i2l (pc := 1129) d_L_law_1129 ?_
  refine r_ldc2 (pc := 1130) cl_L_144 d_L_law_1130 ?_
  refine r_land (pc := 1133) d_L_law_1133 ?_
  refine r_lor (pc := 1134) d_L_law_1134 ?_
  refine r_callV (pc := 1135) (As := [.int (qsx E (n + 1)), .int (qsx E (n + 2)), .long _]) (k := 8) (N := 11) (T := T_On) k_L_146 im_On_item se_On_item rfl (by decide) rfl (by decide) d_L_law_1135 hC.1.1 (K_item hC) rfl (Nat.le_of_ble_eq_true rfl) (by omega) (by omega) (by omega) (fun v S1 I1 J1 hq => ?_)
  obtain ⟨⟨pK, cw⟩, hK⟩ := hq
  obtain ⟨r1, rfl⟩ : VI v := ⟨_, pK.1⟩
  have hM1 := hK.2.1 hM
  have hR1 := hR.far hK.2.2.1
  refine r_pop (pc := 1138) d_L_law_1138 rfl ?_
  refine lda_n_4_2 (pc := 1139) d_L_law_1139 ?_
  refine lda_n_4_0 (pc := 1140) d_L_law_1140 ?_
  refine ldi_n_4_3 (pc := 1141) d_L_law_1141 ?_
  refine r_iconst (pc := 1142) (v := 1) d_L_law_1142 rfl ?_
  refine r_iadd (pc := 1143) d_L_law_1143 ?_
  refine r_scr (pc := 1144) (n := n) (k := 1) (lwi1 n) d_L_law_1144 (by omega) hL ?_
  refine lda_n_4_0 (pc := 1145) d_L_law_1145 ?_
  refine ldi_n_4_3 (pc := 1146) d_L_law_1146 ?_
  refine r_iconst (pc := 1147) (v := 2) d_L_law_1147 rfl ?_
  refine r_iadd (pc := 1148) d_L_law_1148 ?_
  refine r_scr (pc := 1149) (n := n) (k := 2) (lwi2 n) d_L_law_1149 (by omega) hL ?_
  refine lda_n_4_0 (pc := 1150) d_L_law_1150 ?_
  refine ldi_n_4_3 (pc := 1151) d_L_law_1151 ?_
  refine r_iconst (pc := 1152) (v := 3) d_L_law_1152 rfl ?_
  refine r_iadd (pc := 1153) d_L_law_1153 ?_
  refine r_scr (pc := 1154) (n := n) (k := 3) (lwi3 n) d_L_law_1154 (by omega) hL ?_
  refine r_i2l (pc := 1155) d_L_law_1155 ?_
  refine r_bipush (pc := 1156) (v := 32) d_L_law_1156 rfl ?_
  refine r_lshl (pc := 1158) d_L_law_1158 rfl ?_
  refine lda_n_4_0 (pc := 1159) d_L_law_1159 ?_
  refine ldi_n_4_3 (pc := 1160) d_L_law_1160 ?_
  refine r_iconst (pc := 1161) (v := 4) d_L_law_1161 rfl ?_
  refine r_iadd (pc := 1162) d_L_law_1162 ?_
  refine r_scr (pc := 1163) (n := n) (k := 4) (lwi4 n) d_L_law_1163 (by omega) hL ?_
  refine r_i2l (pc := 1164) d_L_law_1164 ?_
  refine r_ldc2 (pc := 1165) cl_L_144 d_L_law_1165 ?_
  refine r_land (pc := 1168) d_L_law_1168 ?_
  refine r_lor (pc := 1169) d_L_law_1169 ?_
  refine r_callV (pc := 1170) (As := [.int (qsx E (n + 1)), .int (qsx E (n + 2)), .long _]) (k := 9) (N := 56) (T := T_Md) k_L_150 im_Md_item se_Md_item rfl (by decide) rfl (by decide) d_L_law_1170 hM1.1 (R_item hM1 hR1) rfl (Nat.le_of_ble_eq_true rfl) (by omega) (by omega) (by omega) (fun v2 S2 I2 J2 hq2 => ?_)
  obtain ⟨pR, hV⟩ := hq2
  obtain ⟨r2, rfl⟩ : VI v2 := ⟨_, pR.1⟩
  refine r_pop (pc := 1173) d_L_law_1173 rfl ?_
  refine r_goto (pc := 1174) (tgt := 1273) d_L_law_1174 (by decide) ?_
  exact kend _ _ _ _ _ (by omega) (by omega) (g.item pK cw hK pR hV)
theorem lw_case32 {c s n : Nat} (hc : c + 5 ≤ 600000) (hs : s + 133 ≤ 7302250) (hn : n + 5 < qsl E) (hL : qsl E ≤ 3072) (g : tINV S I J) (kend : qEnd E c s n Q) : qW E y_L_law b_L_law (some .boolean) 1312 600000 7302250 Q c s 1177 [some (.ref (qsc E)), some (.ref (qb E + 0)), some (.ref (qb E + 114)), some (.int (nI n))] [] S I J := by
  obtain ⟨⟨w0, w1, w2, bl, hC⟩, hM, hR, hT⟩ := id g.1.1.1
  refine lda_n_4_1 (pc := 1177) d_L_law_1177 ?_
  refine lda_n_4_0 (pc := 1178) d_L_law_1178 ?_
  refine ldi_n_4_3 (pc := 1179) d_L_law_1179 ?_
  refine r_iconst (pc := 1180) (v := 1) d_L_law_1180 rfl ?_
  refine r_iadd (pc := 1181) d_L_law_1181 ?_
  refine r_scr (pc := 1182) (n := n) (k := 1) (lwi1 n) d_L_law_1182 (by omega) hL ?_
  refine lda_n_4_0 (pc := 1183) d_L_law_1183 ?_
  refine ldi_n_4_3 (pc := 1184) d_L_law_1184 ?_
  refine r_iconst (pc := 1185) (v := 2) d_L_law_1185 rfl ?_
  refine r_iadd (pc := 1186) d_L_law_1186 ?_
  refine r_scr (pc := 1187) (n := n) (k := 2) (lwi2 n) d_L_law_1187 (by omega) hL ?_
  refine r_callV (pc := 1188) (As := [.int (qsx E (n + 1)), .int (qsx E (n + 2))]) (k := 8) (N := 11) (T := T_On) k_L_151 im_On_read se_On_read rfl (by decide) rfl (by decide) d_L_law_1188 hC.1.1 (K_read hC) rfl (Nat.le_of_ble_eq_true rfl) (by omega) (by omega) (by omega) (fun v S1 I1 J1 hq => ?_)
  obtain ⟨⟨pK, cw⟩, hK⟩ := hq
  obtain ⟨r1, rfl⟩ : VL v := ⟨_, pK.1⟩
  have hM1 := hK.2.1 hM
  have hR1 := hR.far hK.2.2.1
  refine r_pop2 (pc := 1191) d_L_law_1191 rfl ?_
  refine lda_n_4_2 (pc := 1192) d_L_law_1192 ?_
  refine lda_n_4_0 (pc := 1193) d_L_law_1193 ?_
  refine ldi_n_4_3 (pc := 1194) d_L_law_1194 ?_
  refine r_iconst (pc := 1195) (v := 1) d_L_law_1195 rfl ?_
  refine r_iadd (pc := 1196) d_L_law_1196 ?_
  refine r_scr (pc := 1197) (n := n) (k := 1) (lwi1 n) d_L_law_1197 (by omega) hL ?_
  refine lda_n_4_0 (pc := 1198) d_L_law_1198 ?_
  refine ldi_n_4_3 (pc := 1199) d_L_law_1199 ?_
  refine r_iconst (pc := 1200) (v := 2) d_L_law_1200 rfl ?_
  refine r_iadd (pc := 1201) d_L_law_1201 ?_
  refine r_scr (pc := 1202) (n := n) (k := 2) (lwi2 n) d_L_law_1202 (by omega) hL ?_
  refine r_callV (pc := 1203) (As := [.int (qsx E (n + 1)), .int (qsx E (n + 2))]) (k := 9) (N := 56) (T := T_Md) k_L_154 im_Md_read se_Md_read rfl (by decide) rfl (by decide) d_L_law_1203 hM1.1 (R_read hM1 hR1) rfl (Nat.le_of_ble_eq_true rfl) (by omega) (by omega) (by omega) (fun v2 S2 I2 J2 hq2 => ?_)
  obtain ⟨⟨pR, rw⟩, hV⟩ := hq2
  obtain ⟨r2, rfl⟩ : VL v2 := ⟨_, pR.1⟩
  refine r_pop2 (pc := 1206) d_L_law_1206 rfl ?_
  refine r_goto (pc := 1207) (tgt := 1273) d_L_law_1207 (by decide) ?_
  exact kend _ _ _ _ _ (by omega) (by omega) (g.ask pK.2 cw hK pR.2 rw hV)
theorem lw_case33 {c s n : Nat} (hc : c + 5 ≤ 600000) (hs : s + 133 ≤ 7302250) (hn : n + 5 < qsl E) (hL : qsl E ≤ 3072) (g : tINV S I J) (kend : qEnd E c s n Q) : qW E y_L_law b_L_law (some .boolean) 1312 600000 7302250 Q c s 1210 [some (.ref (qsc E)), some (.ref (qb E + 0)), some (.ref (qb E + 114)), some (.int (nI n))] [] S I J := by
  obtain ⟨⟨w0, w1, w2, bl, hC⟩, hM, hR, hT⟩ := id g.1.1.1
  refine lda_n_4_1 (pc := 1210) d_L_law_1210 ?_
  refine lda_n_4_0 (pc := 1211) d_L_law_1211 ?_
  refine ldi_n_4_3 (pc := 1212) d_L_law_1212 ?_
  refine r_iconst (pc := 1213) (v := 1) d_L_law_1213 rfl ?_
  refine r_iadd (pc := 1214) d_L_law_1214 ?_
  refine r_scr (pc := 1215) (n := n) (k := 1) (lwi1 n) d_L_law_1215 (by omega) hL ?_
  refine lda_n_4_0 (pc := 1216) d_L_law_1216 ?_
  refine ldi_n_4_3 (pc := 1217) d_L_law_1217 ?_
  refine r_iconst (pc := 1218) (v := 2) d_L_law_1218 rfl ?_
  refine r_iadd (pc := 1219) d_L_law_1219 ?_
  refine r_scr (pc := 1220) (n := n) (k := 2) (lwi2 n) d_L_law_1220 (by omega) hL ?_
  refine lda_n_4_0 (pc := 1221) d_L_law_1221 ?_
  refine ldi_n_4_3 (pc := 1222) d_L_law_1222 ?_
  refine r_iconst (pc := 1223) (v := 3) d_L_law_1223 rfl ?_
  refine r_iadd (pc := 1224) d_L_law_1224 ?_
  refine r_scr (pc := 1225) (n := n) (k := 3) (lwi3 n) d_L_law_1225 (by omega) hL ?_
  refine lda_n_4_0 (pc := 1226) d_L_law_1226 ?_
  refine ldi_n_4_3 (pc := 1227) d_L_law_1227 ?_
  refine r_iconst (pc := 1228) (v := 4) d_L_law_1228 rfl ?_
  refine r_iadd (pc := 1229) d_L_law_1229 ?_
  refine r_scr (pc := 1230) (n := n) (k := 4) (lwi4 n) d_L_law_1230 (by omega) hL ?_
  refine lda_n_4_0 (pc := 1231) d_L_law_1231 ?_
  refine ldi_n_4_3 (pc := 1232) d_L_law_1232 ?_
  refine r_iconst (pc := 1233) (v := 5) d_L_law_1233 rfl ?_
  refine r_iadd (pc := 1234) d_L_law_1234 ?_
  refine r_scr (pc := 1235) (n := n) (k := 5) (lwi5 n) d_L_law_1235 (by omega) hL ?_
  refine r_callV (pc := 1236) (As := [.int (qsx E (n + 1)), .int (qsx E (n + 2)), .int (qsx E (n + 3)), .int (qsx E (n + 4)), .int (qsx E (n + 5))]) (k := 8) (N := 11) (T := T_On) k_L_155 im_On_shift se_On_shift rfl (by decide) rfl (by decide) d_L_law_1236 hC.1.1 (K_shift hC) rfl (Nat.le_of_ble_eq_true rfl) (by omega) (by omega) (by omega) (fun v S1 I1 J1 hq => ?_)
  obtain ⟨⟨pK, cw⟩, hK⟩ := hq
  obtain ⟨r1, rfl⟩ : VI v := ⟨_, pK.1⟩
  have hM1 := hK.2.1 hM
  have hR1 := hR.far hK.2.2.1
  refine r_pop (pc := 1239) d_L_law_1239 rfl ?_
  refine lda_n_4_2 (pc := 1240) d_L_law_1240 ?_
  refine lda_n_4_0 (pc := 1241) d_L_law_1241 ?_
  refine ldi_n_4_3 (pc := 1242) d_L_law_1242 ?_
  refine r_iconst (pc := 1243) (v := 1) d_L_law_1243 rfl ?_
  refine r_iadd (pc := 1244) d_L_law_1244 ?_
  refine r_scr (pc := 1245) (n := n) (k := 1) (lwi1 n) d_L_law_1245 (by omega) hL ?_
  refine lda_n_4_0 (pc := 1246) d_L_law_1246 ?_
  refine ldi_n_4_3 (pc := 1247) d_L_law_1247 ?_
  refine r_iconst (pc := 1248) (v := 2) d_L_law_1248 rfl ?_
  refine r_iadd (pc := 1249) d_L_law_1249 ?_
  refine r_scr (pc := 1250) (n := n) (k := 2) (lwi2 n) d_L_law_1250 (by omega) hL ?_
  refine lda_n_4_0 (pc := 1251) d_L_law_1251 ?_
  refine ldi_n_4_3 (pc := 1252) d_L_law_1252 ?_
  refine r_iconst (pc := 1253) (v := 3) d_L_law_1253 rfl ?_
  refine r_iadd (pc := 1254) d_L_law_1254 ?_
  refine r_scr (pc := 1255) (n := n) (k := 3) (lwi3 n) d_L_law_1255 (by omega) hL ?_
  refine lda_n_4_0 (pc := 1256) d_L_law_1256 ?_
  refine ldi_n_4_3 (pc := 1257) d_L_law_1257 ?_
  refine r_iconst (pc := 1258) (v := 4) d_L_law_1258 rfl ?_
  refine r_iadd (pc := 1259) d_L_law_1259 ?_
  refine r_scr (pc := 1260) (n := n) (k := 4) (lwi4 n) d_L_law_1260 (by omega) hL ?_
  refine lda_n_4_0 (pc := 1261) d_L_law_1261 ?_
  refine ldi_n_4_3 (pc := 1262) d_L_law_1262 ?_
  refine r_iconst (pc := 1263) (v := 5) d_L_law_1263 rfl ?_
  refine r_iadd (pc := 1264) d_L_law_1264 ?_
  refine r_scr (pc := 1265) (n := n) (k := 5) (lwi5 n) d_L_law_1265 (by omega) hL ?_
  refine r_callV (pc := 1266) (As := [.int (qsx E (n + 1)), .int (qsx E (n + 2)), .int (qsx E (n + 3)), .int (qsx E (n + 4)), .int (qsx E (n + 5))]) (k := 9) (N := 56) (T := T_Md) k_L_159 im_Md_shift se_Md_shift rfl (by decide) rfl (by decide) d_L_law_1266 hM1.1 (R_shift hM1 hR1) rfl (Nat.le_of_ble_eq_true rfl) (by omega) (by omega) (by omega) (fun v2 S2 I2 J2 hq2 => ?_)
  obtain ⟨pR, hV⟩ := hq2
  obtain ⟨r2, rfl⟩ : VI v2 := (by obtain ⟨-, -, ⟨-, h, -⟩ | ⟨t, u, -, -, -, -, ⟨-, h, -⟩ | ⟨-, -, -, h, -⟩ | ⟨-, -, -, h, -⟩ | ⟨-, -, x, y, m, -, -, -, -, -, h, -⟩⟩⟩ := pR <;> exact ⟨_, h⟩)
  refine r_pop (pc := 1269) d_L_law_1269 rfl ?_
  refine r_goto (pc := 1270) (tgt := 1273) d_L_law_1270 (by decide) ?_
  exact kend _ _ _ _ _ (by omega) (by omega) (g.shift pK cw hK pR hV)
end LWP
