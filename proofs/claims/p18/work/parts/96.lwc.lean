/-! the law's cases -/
theorem r_pop2 {E : qE} {y : MethodName} {cc : ByteArray} {ret : Option FieldType} {d mc ms cells slots pc : Nat} {Q : qPost} {L : List (Option Value)} {st : List Value} {S : qSh} {I : qI} {J : qJ} {v : Value} (hd : decode cc pc = .ok (.pop2, 1)) (hv : v.category = 2) (k : qW E y cc ret d mc ms Q cells slots (pc + 1) L st S I J) : qW E y cc ret d mc ms Q cells slots pc L (v :: st) S I J := fun p l e s m args below meth c H locs ls C K P V hL => lv_pop2_2 C.1 C.2.1 hd hv (k p l e s m args below meth c H locs ls C K P V hL)
theorem lwi0 (n : Nat) : nI n = nI (n + 0) := rfl
theorem lwi1 (n : Nat) : nI n + 1 = nI (n + 1) := nI_add (a := n) (b := 1)
theorem lwi2 (n : Nat) : nI n + 2 = nI (n + 2) := nI_add (a := n) (b := 2)
theorem lwi3 (n : Nat) : nI n + 3 = nI (n + 3) := nI_add (a := n) (b := 3)
theorem lwi4 (n : Nat) : nI n + 4 = nI (n + 4) := nI_add (a := n) (b := 4)
theorem lwi5 (n : Nat) : nI n + 5 = nI (n + 5) := nI_add (a := n) (b := 5)
theorem lwi6 (n : Nat) : nI n + 6 = nI (n + 6) := nI_add (a := n) (b := 6)
theorem r_scr {E : qE} {y : MethodName} {cc : ByteArray} {ret : Option FieldType} {d mc ms cells slots pc : Nat} {Q : qPost} {L : List (Option Value)} {st : List Value} {S : qSh} {I : qI} {J : qJ} {x : Int32} {n k : Nat} (hx : x = nI (n + k)) (hd : decode cc pc = .ok (.iaload, 1)) (hn : n + k < qsl E) (hL : qsl E ≤ 3072) (kk : qW E y cc ret d mc ms Q cells slots (pc + 1) L (.int (qsx E (n + k)) :: st) S I J) : qW E y cc ret d mc ms Q cells slots pc L (.int x :: .ref (qsc E) :: st) S I J := by
  subst hx
  refine r_sld hd (vp_in_nI hn (by omega)) ?_
  rw [qcl (by omega)]
  exact kk
def qEnd (E : qE) (c s n : Nat) (Q : qPost) : Prop := ∀ c' s' S I J, c' ≤ c + 5 → s' ≤ s + 133 → uINV S I J → qW E y_L_law b_L_law (some .boolean) 1312 600000 7302250 Q c' s' 1272 [some (.ref (qsc E)), some (.ref (qb E + 0)), some (.ref (qb E + 114)), some (.int (nI n))] [] S I J
section LWP
variable {E : qE} {S : qSh} {I : qI} {J : qJ} {Q : qPost}
theorem lw_case0 {c s n : Nat} (hc : c + 5 ≤ 600000) (hs : s + 133 ≤ 7302250) (hn : n + 5 < qsl E) (hL : qsl E ≤ 3072) (g : uINV S I J) (kend : qEnd E c s n Q) : qW E y_L_law b_L_law (some .boolean) 1312 600000 7302250 Q c s 184 [some (.ref (qsc E)), some (.ref (qb E + 0)), some (.ref (qb E + 114)), some (.int (nI n))] [] S I J := by
  obtain ⟨⟨w0, w1, w2, bl, hC⟩, hM, hR, hT⟩ := id g.1.1
  obtain ⟨c0, c06, hc0⟩ := hC.2.2.2.2.1.1
  refine lda_n_4_1 (pc := 184) d_L_law_184 ?_
  refine lda_n_4_0 (pc := 185) d_L_law_185 ?_
  refine ldi_n_4_3 (pc := 186) d_L_law_186 ?_
  refine r_iconst (pc := 187) (v := 1) d_L_law_187 rfl ?_
  refine r_iadd (pc := 188) d_L_law_188 ?_
  refine r_scr (pc := 189) (n := n) (k := 1) (lwi1 n) d_L_law_189 (by omega) hL ?_
  refine lda_n_4_0 (pc := 190) d_L_law_190 ?_
  refine ldi_n_4_3 (pc := 191) d_L_law_191 ?_
  refine r_iconst (pc := 192) (v := 2) d_L_law_192 rfl ?_
  refine r_iadd (pc := 193) d_L_law_193 ?_
  refine r_scr (pc := 194) (n := n) (k := 2) (lwi2 n) d_L_law_194 (by omega) hL ?_
  refine lda_n_4_0 (pc := 195) d_L_law_195 ?_
  refine ldi_n_4_3 (pc := 196) d_L_law_196 ?_
  refine r_iconst (pc := 197) (v := 3) d_L_law_197 rfl ?_
  refine r_iadd (pc := 198) d_L_law_198 ?_
  refine r_scr (pc := 199) (n := n) (k := 3) (lwi3 n) d_L_law_199 (by omega) hL ?_
  refine r_callV (pc := 200) (As := [.int (qsx E (n + 1)), .int (qsx E (n + 2)), .int (qsx E (n + 3))]) (k := 8) (N := 11) (T := T_On) k_L_13 im_On_mourner se_On_mourner rfl (by decide) rfl (by decide) d_L_law_200 hC.1.1 (K_mourner hC hc0 c06) rfl (Nat.le_of_ble_eq_true rfl) (by omega) (by omega) (by omega) (fun v S1 I1 J1 hq => ?_)
  obtain ⟨⟨pK, cw⟩, hK⟩ := hq
  obtain ⟨r1, rfl⟩ : VI v := ⟨_, pK.1⟩
  have hM1 := hK.2.1 hM
  have hR1 := hR.far hK.2.2.1
  have hc1 : I1 114 0 = nI c0 := by rw [(hK.2.2.1 114 (by decide) (by decide)).1]; exact hT.1.1.trans hc0
  refine r_pop (pc := 203) d_L_law_203 rfl ?_
  refine lda_n_4_2 (pc := 204) d_L_law_204 ?_
  refine lda_n_4_0 (pc := 205) d_L_law_205 ?_
  refine ldi_n_4_3 (pc := 206) d_L_law_206 ?_
  refine r_iconst (pc := 207) (v := 1) d_L_law_207 rfl ?_
  refine r_iadd (pc := 208) d_L_law_208 ?_
  refine r_scr (pc := 209) (n := n) (k := 1) (lwi1 n) d_L_law_209 (by omega) hL ?_
  refine lda_n_4_0 (pc := 210) d_L_law_210 ?_
  refine ldi_n_4_3 (pc := 211) d_L_law_211 ?_
  refine r_iconst (pc := 212) (v := 2) d_L_law_212 rfl ?_
  refine r_iadd (pc := 213) d_L_law_213 ?_
  refine r_scr (pc := 214) (n := n) (k := 2) (lwi2 n) d_L_law_214 (by omega) hL ?_
  refine lda_n_4_0 (pc := 215) d_L_law_215 ?_
  refine ldi_n_4_3 (pc := 216) d_L_law_216 ?_
  refine r_iconst (pc := 217) (v := 3) d_L_law_217 rfl ?_
  refine r_iadd (pc := 218) d_L_law_218 ?_
  refine r_scr (pc := 219) (n := n) (k := 3) (lwi3 n) d_L_law_219 (by omega) hL ?_
  refine r_callV (pc := 220) (As := [.int (qsx E (n + 1)), .int (qsx E (n + 2)), .int (qsx E (n + 3))]) (k := 9) (N := 56) (T := T_Md) k_L_17 im_Md_mourner se_Md_mourner rfl (by decide) rfl (by decide) d_L_law_220 hM1.1 (R_mourner hM1 hR1 hc1 c06) rfl (Nat.le_of_ble_eq_true rfl) (by omega) (by omega) (by omega) (fun v2 S2 I2 J2 hq2 => ?_)
  obtain ⟨pR, pv, hV⟩ := hq2
  obtain ⟨r2, rfl⟩ : VI v2 := ⟨_, pv⟩
  refine r_pop (pc := 223) d_L_law_223 rfl ?_
  refine r_goto (pc := 224) (tgt := 1272) d_L_law_224 (by decide) ?_
  exact kend _ _ _ _ _ (by omega) (by omega) (g.mourner c06 hc0 pK.2.1 pK.2.2 cw hK pR.1 pR.2 hV)
theorem lw_case1 {c s n : Nat} (hc : c + 5 ≤ 600000) (hs : s + 133 ≤ 7302250) (hn : n + 5 < qsl E) (hL : qsl E ≤ 3072) (g : uINV S I J) (kend : qEnd E c s n Q) : qW E y_L_law b_L_law (some .boolean) 1312 600000 7302250 Q c s 227 [some (.ref (qsc E)), some (.ref (qb E + 0)), some (.ref (qb E + 114)), some (.int (nI n))] [] S I J := by
  obtain ⟨⟨w0, w1, w2, bl, hC⟩, hM, hR, hT⟩ := id g.1.1
  refine lda_n_4_1 (pc := 227) d_L_law_227 ?_
  refine lda_n_4_0 (pc := 228) d_L_law_228 ?_
  refine ldi_n_4_3 (pc := 229) d_L_law_229 ?_
  refine r_iconst (pc := 230) (v := 1) d_L_law_230 rfl ?_
  refine r_iadd (pc := 231) d_L_law_231 ?_
  refine r_scr (pc := 232) (n := n) (k := 1) (lwi1 n) d_L_law_232 (by omega) hL ?_
  refine lda_n_4_0 (pc := 233) d_L_law_233 ?_
  refine ldi_n_4_3 (pc := 234) d_L_law_234 ?_
  refine r_iconst (pc := 235) (v := 2) d_L_law_235 rfl ?_
  refine r_iadd (pc := 236) d_L_law_236 ?_
  refine r_scr (pc := 237) (n := n) (k := 2) (lwi2 n) d_L_law_237 (by omega) hL ?_
  refine r_callV (pc := 238) (As := [.int (qsx E (n + 1)), .int (qsx E (n + 2))]) (k := 8) (N := 11) (T := T_On) k_L_18 im_On_of se_On_of rfl (by decide) rfl (by decide) d_L_law_238 hC.1.1 (K_ofX hC) rfl (Nat.le_of_ble_eq_true rfl) (by omega) (by omega) (by omega) (fun v S1 I1 J1 hq => ?_)
  obtain ⟨⟨pK, cw⟩, hK⟩ := hq
  obtain ⟨r1, rfl⟩ : VI v := (by obtain ⟨⟨c, l, -, -, -, -, h⟩, -⟩ := pK; exact ⟨_, h⟩)
  have hM1 := hK.2.1 hM
  have hR1 := hR.far hK.2.2.1
  refine r_pop (pc := 241) d_L_law_241 rfl ?_
  refine lda_n_4_2 (pc := 242) d_L_law_242 ?_
  refine lda_n_4_0 (pc := 243) d_L_law_243 ?_
  refine ldi_n_4_3 (pc := 244) d_L_law_244 ?_
  refine r_iconst (pc := 245) (v := 1) d_L_law_245 rfl ?_
  refine r_iadd (pc := 246) d_L_law_246 ?_
  refine r_scr (pc := 247) (n := n) (k := 1) (lwi1 n) d_L_law_247 (by omega) hL ?_
  refine lda_n_4_0 (pc := 248) d_L_law_248 ?_
  refine ldi_n_4_3 (pc := 249) d_L_law_249 ?_
  refine r_iconst (pc := 250) (v := 2) d_L_law_250 rfl ?_
  refine r_iadd (pc := 251) d_L_law_251 ?_
  refine r_scr (pc := 252) (n := n) (k := 2) (lwi2 n) d_L_law_252 (by omega) hL ?_
  refine r_callV (pc := 253) (As := [.int (qsx E (n + 1)), .int (qsx E (n + 2))]) (k := 9) (N := 56) (T := T_Md) k_L_22 im_Md_of se_Md_of rfl (by decide) rfl (by decide) d_L_law_253 hM1.1 (R_ofX hM1 hR1) rfl (Nat.le_of_ble_eq_true rfl) (by omega) (by omega) (by omega) (fun v2 S2 I2 J2 hq2 => ?_)
  obtain ⟨⟨pR, rw⟩, hV⟩ := hq2
  obtain ⟨r2, rfl⟩ : VI v2 := (by obtain ⟨⟨c, l, d, -, -, -, -, -, -, h⟩, -⟩ := pR; exact ⟨_, h⟩)
  refine r_pop (pc := 256) d_L_law_256 rfl ?_
  refine r_goto (pc := 257) (tgt := 1272) d_L_law_257 (by decide) ?_
  exact kend _ _ _ _ _ (by omega) (by omega) (g.ask pK.2 cw hK pR.2 rw hV)
theorem lw_case2 {c s n : Nat} (hc : c + 5 ≤ 600000) (hs : s + 133 ≤ 7302250) (hn : n + 5 < qsl E) (hL : qsl E ≤ 3072) (g : uINV S I J) (kend : qEnd E c s n Q) : qW E y_L_law b_L_law (some .boolean) 1312 600000 7302250 Q c s 260 [some (.ref (qsc E)), some (.ref (qb E + 0)), some (.ref (qb E + 114)), some (.int (nI n))] [] S I J := by
  obtain ⟨⟨w0, w1, w2, bl, hC⟩, hM, hR, hT⟩ := id g.1.1
  refine lda_n_4_1 (pc := 260) d_L_law_260 ?_
  refine lda_n_4_0 (pc := 261) d_L_law_261 ?_
  refine ldi_n_4_3 (pc := 262) d_L_law_262 ?_
  refine r_iconst (pc := 263) (v := 1) d_L_law_263 rfl ?_
  refine r_iadd (pc := 264) d_L_law_264 ?_
  refine r_scr (pc := 265) (n := n) (k := 1) (lwi1 n) d_L_law_265 (by omega) hL ?_
  refine lda_n_4_0 (pc := 266) d_L_law_266 ?_
  refine ldi_n_4_3 (pc := 267) d_L_law_267 ?_
  refine r_iconst (pc := 268) (v := 2) d_L_law_268 rfl ?_
  refine r_iadd (pc := 269) d_L_law_269 ?_
  refine r_scr (pc := 270) (n := n) (k := 2) (lwi2 n) d_L_law_270 (by omega) hL ?_
  refine lda_n_4_0 (pc := 271) d_L_law_271 ?_
  refine ldi_n_4_3 (pc := 272) d_L_law_272 ?_
  refine r_iconst (pc := 273) (v := 3) d_L_law_273 rfl ?_
  refine r_iadd (pc := 274) d_L_law_274 ?_
  refine r_scr (pc := 275) (n := n) (k := 3) (lwi3 n) d_L_law_275 (by omega) hL ?_
  refine r_callV (pc := 276) (As := [.int (qsx E (n + 1)), .int (qsx E (n + 2)), .int (qsx E (n + 3))]) (k := 8) (N := 11) (T := T_On) k_L_23 im_On_set se_On_set rfl (by decide) rfl (by decide) d_L_law_276 hC.1.1 (K_set hC) rfl (Nat.le_of_ble_eq_true rfl) (by omega) (by omega) (by omega) (fun v S1 I1 J1 hq => ?_)
  obtain ⟨⟨pK, cw⟩, hK⟩ := hq
  obtain ⟨r1, rfl⟩ : VI v := (by obtain ⟨c, -, -, h, -⟩ := pK; exact ⟨_, h⟩)
  have hM1 := hK.2.1 hM
  have hR1 := hR.far hK.2.2.1
  refine r_pop (pc := 279) d_L_law_279 rfl ?_
  refine lda_n_4_2 (pc := 280) d_L_law_280 ?_
  refine lda_n_4_0 (pc := 281) d_L_law_281 ?_
  refine ldi_n_4_3 (pc := 282) d_L_law_282 ?_
  refine r_iconst (pc := 283) (v := 1) d_L_law_283 rfl ?_
  refine r_iadd (pc := 284) d_L_law_284 ?_
  refine r_scr (pc := 285) (n := n) (k := 1) (lwi1 n) d_L_law_285 (by omega) hL ?_
  refine lda_n_4_0 (pc := 286) d_L_law_286 ?_
  refine ldi_n_4_3 (pc := 287) d_L_law_287 ?_
  refine r_iconst (pc := 288) (v := 2) d_L_law_288 rfl ?_
  refine r_iadd (pc := 289) d_L_law_289 ?_
  refine r_scr (pc := 290) (n := n) (k := 2) (lwi2 n) d_L_law_290 (by omega) hL ?_
  refine lda_n_4_0 (pc := 291) d_L_law_291 ?_
  refine ldi_n_4_3 (pc := 292) d_L_law_292 ?_
  refine r_iconst (pc := 293) (v := 3) d_L_law_293 rfl ?_
  refine r_iadd (pc := 294) d_L_law_294 ?_
  refine r_scr (pc := 295) (n := n) (k := 3) (lwi3 n) d_L_law_295 (by omega) hL ?_
  refine r_callV (pc := 296) (As := [.int (qsx E (n + 1)), .int (qsx E (n + 2)), .int (qsx E (n + 3))]) (k := 9) (N := 56) (T := T_Md) k_L_26 im_Md_set se_Md_set rfl (by decide) rfl (by decide) d_L_law_296 hM1.1 (R_set hM1 hR1) rfl (Nat.le_of_ble_eq_true rfl) (by omega) (by omega) (by omega) (fun v2 S2 I2 J2 hq2 => ?_)
  obtain ⟨pR, hV⟩ := hq2
  obtain ⟨r2, rfl⟩ : VI v2 := ⟨_, pR.1⟩
  refine r_pop (pc := 299) d_L_law_299 rfl ?_
  refine r_goto (pc := 300) (tgt := 1272) d_L_law_300 (by decide) ?_
  exact kend _ _ _ _ _ (by omega) (by omega) (g.set pK cw hK pR hV).1
theorem lw_case3 {c s n : Nat} (hc : c + 5 ≤ 600000) (hs : s + 133 ≤ 7302250) (hn : n + 5 < qsl E) (hL : qsl E ≤ 3072) (g : uINV S I J) (kend : qEnd E c s n Q) : qW E y_L_law b_L_law (some .boolean) 1312 600000 7302250 Q c s 303 [some (.ref (qsc E)), some (.ref (qb E + 0)), some (.ref (qb E + 114)), some (.int (nI n))] [] S I J := by
  obtain ⟨⟨w0, w1, w2, bl, hC⟩, hM, hR, hT⟩ := id g.1.1
  refine lda_n_4_1 (pc := 303) d_L_law_303 ?_
  refine lda_n_4_0 (pc := 304) d_L_law_304 ?_
  refine ldi_n_4_3 (pc := 305) d_L_law_305 ?_
  refine r_iconst (pc := 306) (v := 1) d_L_law_306 rfl ?_
  refine r_iadd (pc := 307) d_L_law_307 ?_
  refine r_scr (pc := 308) (n := n) (k := 1) (lwi1 n) d_L_law_308 (by omega) hL ?_
  refine lda_n_4_0 (pc := 309) d_L_law_309 ?_
  refine ldi_n_4_3 (pc := 310) d_L_law_310 ?_
  refine r_iconst (pc := 311) (v := 2) d_L_law_311 rfl ?_
  refine r_iadd (pc := 312) d_L_law_312 ?_
  refine r_scr (pc := 313) (n := n) (k := 2) (lwi2 n) d_L_law_313 (by omega) hL ?_
  refine r_if_eq (pc := 314) (tgt := 321) d_L_law_314 (by decide) (fun c314 => ?_) (fun c314 => ?_)
  · refine r_iconst (pc := 321) (v := 0) d_L_law_321 rfl ?_
    refine r_callV (pc := 322) (As := [.int (qsx E (n + 1)), .int 0]) (k := 8) (N := 11) (T := T_On) k_L_27 im_On_done se_On_done rfl (by decide) rfl (by decide) d_L_law_322 hC.1.1 (K_done hC (Or.inl rfl)) rfl (Nat.le_of_ble_eq_true rfl) (by omega) (by omega) (by omega) (fun v S1 I1 J1 hq => ?_)
    obtain ⟨⟨pK, cw⟩, hK⟩ := hq
    obtain ⟨r1, rfl⟩ : VI v := (by obtain ⟨c, -, -, h, -⟩ := pK; exact ⟨_, h⟩)
    have hM1 := hK.2.1 hM
    have hR1 := hR.far hK.2.2.1
    refine r_pop (pc := 325) d_L_law_325 rfl ?_
    refine lda_n_4_2 (pc := 326) d_L_law_326 ?_
    refine lda_n_4_0 (pc := 327) d_L_law_327 ?_
    refine ldi_n_4_3 (pc := 328) d_L_law_328 ?_
    refine r_iconst (pc := 329) (v := 1) d_L_law_329 rfl ?_
    refine r_iadd (pc := 330) d_L_law_330 ?_
    refine r_scr (pc := 331) (n := n) (k := 1) (lwi1 n) d_L_law_331 (by omega) hL ?_
    refine lda_n_4_0 (pc := 332) d_L_law_332 ?_
    refine ldi_n_4_3 (pc := 333) d_L_law_333 ?_
    refine r_iconst (pc := 334) (v := 2) d_L_law_334 rfl ?_
    refine r_iadd (pc := 335) d_L_law_335 ?_
    refine r_scr (pc := 336) (n := n) (k := 2) (lwi2 n) d_L_law_336 (by omega) hL ?_
    refine r_if_eq (pc := 337) (tgt := 344) d_L_law_337 (by decide) (fun c337 => ?_) (fun c337 => ?_)
    · refine r_iconst (pc := 344) (v := 0) d_L_law_344 rfl ?_
      refine r_callV (pc := 345) (As := [.int (qsx E (n + 1)), .int 0]) (k := 9) (N := 56) (T := T_Md) k_L_31 im_Md_done se_Md_done rfl (by decide) rfl (by decide) d_L_law_345 hM1.1 (R_done hM1 hR1) rfl (Nat.le_of_ble_eq_true rfl) (by omega) (by omega) (by omega) (fun v2 S2 I2 J2 hq2 => ?_)
      obtain ⟨pR, hV⟩ := hq2
      obtain ⟨r2, rfl⟩ : VI v2 := ⟨_, pR.1⟩
      refine r_pop (pc := 348) d_L_law_348 rfl ?_
      refine r_goto (pc := 349) (tgt := 1272) d_L_law_349 (by decide) ?_
      exact kend _ _ _ _ _ (by omega) (by omega) (g.done (by first | exact Or.inl rfl | exact Or.inr rfl) pK cw hK pR hV).1
    · exact absurd c314 c337
  · refine r_iconst (pc := 317) (v := 1) d_L_law_317 rfl ?_
    refine r_goto (pc := 318) (tgt := 322) d_L_law_318 (by decide) ?_
    refine r_callV (pc := 322) (As := [.int (qsx E (n + 1)), .int 1]) (k := 8) (N := 11) (T := T_On) k_L_27 im_On_done se_On_done rfl (by decide) rfl (by decide) d_L_law_322 hC.1.1 (K_done hC (Or.inr rfl)) rfl (Nat.le_of_ble_eq_true rfl) (by omega) (by omega) (by omega) (fun v S1 I1 J1 hq => ?_)
    obtain ⟨⟨pK, cw⟩, hK⟩ := hq
    obtain ⟨r1, rfl⟩ : VI v := (by obtain ⟨c, -, -, h, -⟩ := pK; exact ⟨_, h⟩)
    have hM1 := hK.2.1 hM
    have hR1 := hR.far hK.2.2.1
    refine r_pop (pc := 325) d_L_law_325 rfl ?_
    refine lda_n_4_2 (pc := 326) d_L_law_326 ?_
    refine lda_n_4_0 (pc := 327) d_L_law_327 ?_
    refine ldi_n_4_3 (pc := 328) d_L_law_328 ?_
    refine r_iconst (pc := 329) (v := 1) d_L_law_329 rfl ?_
    refine r_iadd (pc := 330) d_L_law_330 ?_
    refine r_scr (pc := 331) (n := n) (k := 1) (lwi1 n) d_L_law_331 (by omega) hL ?_
    refine lda_n_4_0 (pc := 332) d_L_law_332 ?_
    refine ldi_n_4_3 (pc := 333) d_L_law_333 ?_
    refine r_iconst (pc := 334) (v := 2) d_L_law_334 rfl ?_
    refine r_iadd (pc := 335) d_L_law_335 ?_
    refine r_scr (pc := 336) (n := n) (k := 2) (lwi2 n) d_L_law_336 (by omega) hL ?_
    refine r_if_eq (pc := 337) (tgt := 344) d_L_law_337 (by decide) (fun c337 => ?_) (fun c337 => ?_)
    · exact absurd c337 c314
    · refine r_iconst (pc := 340) (v := 1) d_L_law_340 rfl ?_
      refine r_goto (pc := 341) (tgt := 345) d_L_law_341 (by decide) ?_
      refine r_callV (pc := 345) (As := [.int (qsx E (n + 1)), .int 1]) (k := 9) (N := 56) (T := T_Md) k_L_31 im_Md_done se_Md_done rfl (by decide) rfl (by decide) d_L_law_345 hM1.1 (R_done hM1 hR1) rfl (Nat.le_of_ble_eq_true rfl) (by omega) (by omega) (by omega) (fun v2 S2 I2 J2 hq2 => ?_)
      obtain ⟨pR, hV⟩ := hq2
      obtain ⟨r2, rfl⟩ : VI v2 := ⟨_, pR.1⟩
      refine r_pop (pc := 348) d_L_law_348 rfl ?_
      refine r_goto (pc := 349) (tgt := 1272) d_L_law_349 (by decide) ?_
      exact kend _ _ _ _ _ (by omega) (by omega) (g.done (by first | exact Or.inl rfl | exact Or.inr rfl) pK cw hK pR hV).1
theorem lw_case4 {c s n : Nat} (hc : c + 5 ≤ 600000) (hs : s + 133 ≤ 7302250) (hn : n + 5 < qsl E) (hL : qsl E ≤ 3072) (g : uINV S I J) (kend : qEnd E c s n Q) : qW E y_L_law b_L_law (some .boolean) 1312 600000 7302250 Q c s 352 [some (.ref (qsc E)), some (.ref (qb E + 0)), some (.ref (qb E + 114)), some (.int (nI n))] [] S I J := by
  obtain ⟨⟨w0, w1, w2, bl, hC⟩, hM, hR, hT⟩ := id g.1.1
  refine lda_n_4_1 (pc := 352) d_L_law_352 ?_
  refine lda_n_4_0 (pc := 353) d_L_law_353 ?_
  refine ldi_n_4_3 (pc := 354) d_L_law_354 ?_
  refine r_iconst (pc := 355) (v := 1) d_L_law_355 rfl ?_
  refine r_iadd (pc := 356) d_L_law_356 ?_
  refine r_scr (pc := 357) (n := n) (k := 1) (lwi1 n) d_L_law_357 (by omega) hL ?_
  refine r_callV (pc := 358) (As := [.int (qsx E (n + 1))]) (k := 8) (N := 11) (T := T_On) k_L_32 im_On_list se_On_list rfl (by decide) rfl (by decide) d_L_law_358 hC.1.1 (K_list hC) rfl (Nat.le_of_ble_eq_true rfl) (by omega) (by omega) (by omega) (fun v S1 I1 J1 hq => ?_)
  obtain ⟨⟨pK, cw⟩, hK⟩ := hq
  obtain ⟨r1, rfl⟩ : VI v := (by obtain ⟨c, l, -, -, -, -, h, -⟩ := pK; exact ⟨_, h⟩)
  have hM1 := hK.2.1 hM
  have hR1 := hR.far hK.2.2.1
  refine r_pop (pc := 361) d_L_law_361 rfl ?_
  refine lda_n_4_2 (pc := 362) d_L_law_362 ?_
  refine lda_n_4_0 (pc := 363) d_L_law_363 ?_
  refine ldi_n_4_3 (pc := 364) d_L_law_364 ?_
  refine r_iconst (pc := 365) (v := 1) d_L_law_365 rfl ?_
  refine r_iadd (pc := 366) d_L_law_366 ?_
  refine r_scr (pc := 367) (n := n) (k := 1) (lwi1 n) d_L_law_367 (by omega) hL ?_
  refine r_callV (pc := 368) (As := [.int (qsx E (n + 1))]) (k := 9) (N := 56) (T := T_Md) k_L_36 im_Md_list se_Md_list rfl (by decide) rfl (by decide) d_L_law_368 hM1.1 (R_list hM1 hR1) rfl (Nat.le_of_ble_eq_true rfl) (by omega) (by omega) (by omega) (fun v2 S2 I2 J2 hq2 => ?_)
  obtain ⟨pR, hV⟩ := hq2
  obtain ⟨r2, rfl⟩ : VI v2 := (by obtain ⟨l, -, -, h, -⟩ := pR; exact ⟨_, h⟩)
  refine r_pop (pc := 371) d_L_law_371 rfl ?_
  refine r_goto (pc := 372) (tgt := 1272) d_L_law_372 (by decide) ?_
  exact kend _ _ _ _ _ (by omega) (by omega) (g.list pK cw hK pR hV)
theorem lw_case5 {c s n : Nat} (hc : c + 5 ≤ 600000) (hs : s + 133 ≤ 7302250) (hn : n + 5 < qsl E) (hL : qsl E ≤ 3072) (g : uINV S I J) (kend : qEnd E c s n Q) : qW E y_L_law b_L_law (some .boolean) 1312 600000 7302250 Q c s 375 [some (.ref (qsc E)), some (.ref (qb E + 0)), some (.ref (qb E + 114)), some (.int (nI n))] [] S I J := by
  obtain ⟨⟨w0, w1, w2, bl, hC⟩, hM, hR, hT⟩ := id g.1.1
  refine lda_n_4_1 (pc := 375) d_L_law_375 ?_
  refine lda_n_4_0 (pc := 376) d_L_law_376 ?_
  refine ldi_n_4_3 (pc := 377) d_L_law_377 ?_
  refine r_iconst (pc := 378) (v := 1) d_L_law_378 rfl ?_
  refine r_iadd (pc := 379) d_L_law_379 ?_
  refine r_scr (pc := 380) (n := n) (k := 1) (lwi1 n) d_L_law_380 (by omega) hL ?_
  refine lda_n_4_0 (pc := 381) d_L_law_381 ?_
  refine ldi_n_4_3 (pc := 382) d_L_law_382 ?_
  refine r_iconst (pc := 383) (v := 2) d_L_law_383 rfl ?_
  refine r_iadd (pc := 384) d_L_law_384 ?_
  refine r_scr (pc := 385) (n := n) (k := 2) (lwi2 n) d_L_law_385 (by omega) hL ?_
  refine r_callV (pc := 386) (As := [.int (qsx E (n + 1)), .int (qsx E (n + 2))]) (k := 8) (N := 11) (T := T_On) k_L_37 im_On_swap se_On_swap rfl (by decide) rfl (by decide) d_L_law_386 hC.1.1 (K_swap hC) rfl (Nat.le_of_ble_eq_true rfl) (by omega) (by omega) (by omega) (fun v S1 I1 J1 hq => ?_)
  obtain ⟨⟨pK, cw⟩, hK⟩ := hq
  obtain ⟨r1, rfl⟩ : VI v := (by obtain ⟨c, l, -, -, -, -, h, -⟩ := pK; exact ⟨_, h⟩)
  have hM1 := hK.2.1 hM
  have hR1 := hR.far hK.2.2.1
  refine r_pop (pc := 389) d_L_law_389 rfl ?_
  refine lda_n_4_2 (pc := 390) d_L_law_390 ?_
  refine lda_n_4_0 (pc := 391) d_L_law_391 ?_
  refine ldi_n_4_3 (pc := 392) d_L_law_392 ?_
  refine r_iconst (pc := 393) (v := 1) d_L_law_393 rfl ?_
  refine r_iadd (pc := 394) d_L_law_394 ?_
  refine r_scr (pc := 395) (n := n) (k := 1) (lwi1 n) d_L_law_395 (by omega) hL ?_
  refine lda_n_4_0 (pc := 396) d_L_law_396 ?_
  refine ldi_n_4_3 (pc := 397) d_L_law_397 ?_
  refine r_iconst (pc := 398) (v := 2) d_L_law_398 rfl ?_
  refine r_iadd (pc := 399) d_L_law_399 ?_
  refine r_scr (pc := 400) (n := n) (k := 2) (lwi2 n) d_L_law_400 (by omega) hL ?_
  refine r_callV (pc := 401) (As := [.int (qsx E (n + 1)), .int (qsx E (n + 2))]) (k := 9) (N := 56) (T := T_Md) k_L_40 im_Md_swap se_Md_swap rfl (by decide) rfl (by decide) d_L_law_401 hM1.1 (R_swap hM1 hR1) rfl (Nat.le_of_ble_eq_true rfl) (by omega) (by omega) (by omega) (fun v2 S2 I2 J2 hq2 => ?_)
  obtain ⟨pR, hV⟩ := hq2
  obtain ⟨r2, rfl⟩ : VI v2 := (by obtain ⟨l, -, -, h, -⟩ := pR; exact ⟨_, h⟩)
  refine r_pop (pc := 404) d_L_law_404 rfl ?_
  refine r_goto (pc := 405) (tgt := 1272) d_L_law_405 (by decide) ?_
  exact kend _ _ _ _ _ (by omega) (by omega) (g.swap pK cw hK pR hV)
theorem lw_case6 {c s n : Nat} (hc : c + 5 ≤ 600000) (hs : s + 133 ≤ 7302250) (hn : n + 5 < qsl E) (hL : qsl E ≤ 3072) (g : uINV S I J) (kend : qEnd E c s n Q) : qW E y_L_law b_L_law (some .boolean) 1312 600000 7302250 Q c s 408 [some (.ref (qsc E)), some (.ref (qb E + 0)), some (.ref (qb E + 114)), some (.int (nI n))] [] S I J := by
  obtain ⟨⟨w0, w1, w2, bl, hC⟩, hM, hR, hT⟩ := id g.1.1
  refine lda_n_4_1 (pc := 408) d_L_law_408 ?_
  refine lda_n_4_0 (pc := 409) d_L_law_409 ?_
  refine ldi_n_4_3 (pc := 410) d_L_law_410 ?_
  refine r_iconst (pc := 411) (v := 1) d_L_law_411 rfl ?_
  refine r_iadd (pc := 412) d_L_law_412 ?_
  refine r_scr (pc := 413) (n := n) (k := 1) (lwi1 n) d_L_law_413 (by omega) hL ?_
  refine lda_n_4_0 (pc := 414) d_L_law_414 ?_
  refine ldi_n_4_3 (pc := 415) d_L_law_415 ?_
  refine r_iconst (pc := 416) (v := 2) d_L_law_416 rfl ?_
  refine r_iadd (pc := 417) d_L_law_417 ?_
  refine r_scr (pc := 418) (n := n) (k := 2) (lwi2 n) d_L_law_418 (by omega) hL ?_
  refine lda_n_4_0 (pc := 419) d_L_law_419 ?_
  refine ldi_n_4_3 (pc := 420) d_L_law_420 ?_
  refine r_iconst (pc := 421) (v := 3) d_L_law_421 rfl ?_
  refine r_iadd (pc := 422) d_L_law_422 ?_
  refine r_scr (pc := 423) (n := n) (k := 3) (lwi3 n) d_L_law_423 (by omega) hL ?_
  refine r_callV (pc := 424) (As := [.int (qsx E (n + 1)), .int (qsx E (n + 2)), .int (qsx E (n + 3))]) (k := 8) (N := 11) (T := T_On) k_L_41 im_On_row se_On_row rfl (by decide) rfl (by decide) d_L_law_424 hC.1.1 (K_row hC) rfl (Nat.le_of_ble_eq_true rfl) (by omega) (by omega) (by omega) (fun v S1 I1 J1 hq => ?_)
  obtain ⟨⟨pK, cw⟩, hK⟩ := hq
  obtain ⟨r1, rfl⟩ : VI v := (by obtain ⟨c, -, -, h, -⟩ := pK; exact ⟨_, h⟩)
  have hM1 := hK.2.1 hM
  have hR1 := hR.far hK.2.2.1
  refine r_pop (pc := 427) d_L_law_427 rfl ?_
  refine lda_n_4_2 (pc := 428) d_L_law_428 ?_
  refine lda_n_4_0 (pc := 429) d_L_law_429 ?_
  refine ldi_n_4_3 (pc := 430) d_L_law_430 ?_
  refine r_iconst (pc := 431) (v := 1) d_L_law_431 rfl ?_
  refine r_iadd (pc := 432) d_L_law_432 ?_
  refine r_scr (pc := 433) (n := n) (k := 1) (lwi1 n) d_L_law_433 (by omega) hL ?_
  refine lda_n_4_0 (pc := 434) d_L_law_434 ?_
  refine ldi_n_4_3 (pc := 435) d_L_law_435 ?_
  refine r_iconst (pc := 436) (v := 2) d_L_law_436 rfl ?_
  refine r_iadd (pc := 437) d_L_law_437 ?_
  refine r_scr (pc := 438) (n := n) (k := 2) (lwi2 n) d_L_law_438 (by omega) hL ?_
  refine lda_n_4_0 (pc := 439) d_L_law_439 ?_
  refine ldi_n_4_3 (pc := 440) d_L_law_440 ?_
  refine r_iconst (pc := 441) (v := 3) d_L_law_441 rfl ?_
  refine r_iadd (pc := 442) d_L_law_442 ?_
  refine r_scr (pc := 443) (n := n) (k := 3) (lwi3 n) d_L_law_443 (by omega) hL ?_
  refine r_callV (pc := 444) (As := [.int (qsx E (n + 1)), .int (qsx E (n + 2)), .int (qsx E (n + 3))]) (k := 9) (N := 56) (T := T_Md) k_L_44 im_Md_row se_Md_row rfl (by decide) rfl (by decide) d_L_law_444 hM1.1 (R_row hM1 hR1) rfl (Nat.le_of_ble_eq_true rfl) (by omega) (by omega) (by omega) (fun v2 S2 I2 J2 hq2 => ?_)
  obtain ⟨pR, hV⟩ := hq2
  obtain ⟨r2, rfl⟩ : VI v2 := ⟨_, pR.1⟩
  refine r_pop (pc := 447) d_L_law_447 rfl ?_
  refine r_goto (pc := 448) (tgt := 1272) d_L_law_448 (by decide) ?_
  exact kend _ _ _ _ _ (by omega) (by omega) (g.row pK cw hK pR hV)
theorem lw_case7 {c s n : Nat} (hc : c + 5 ≤ 600000) (hs : s + 133 ≤ 7302250) (hn : n + 5 < qsl E) (hL : qsl E ≤ 3072) (g : uINV S I J) (kend : qEnd E c s n Q) : qW E y_L_law b_L_law (some .boolean) 1312 600000 7302250 Q c s 451 [some (.ref (qsc E)), some (.ref (qb E + 0)), some (.ref (qb E + 114)), some (.int (nI n))] [] S I J := by
  obtain ⟨⟨w0, w1, w2, bl, hC⟩, hM, hR, hT⟩ := id g.1.1
  refine lda_n_4_1 (pc := 451) d_L_law_451 ?_
  refine lda_n_4_0 (pc := 452) d_L_law_452 ?_
  refine ldi_n_4_3 (pc := 453) d_L_law_453 ?_
  refine r_iconst (pc := 454) (v := 1) d_L_law_454 rfl ?_
  refine r_iadd (pc := 455) d_L_law_455 ?_
  refine r_scr (pc := 456) (n := n) (k := 1) (lwi1 n) d_L_law_456 (by omega) hL ?_
  refine r_callV (pc := 457) (As := [.int (qsx E (n + 1))]) (k := 8) (N := 11) (T := T_On) k_L_45 im_On_feed se_On_feed rfl (by decide) rfl (by decide) d_L_law_457 hC.1.1 (K_feed hC) rfl (Nat.le_of_ble_eq_true rfl) (by omega) (by omega) (by omega) (fun v S1 I1 J1 hq => ?_)
  obtain ⟨⟨pK, cw⟩, hK⟩ := hq
  obtain ⟨r1, rfl⟩ : VI v := (by obtain ⟨z, -, -, h, -⟩ := pK; exact ⟨_, h⟩)
  have hM1 := hK.2.1 hM
  have hR1 := hR.far hK.2.2.1
  refine r_pop (pc := 460) d_L_law_460 rfl ?_
  refine lda_n_4_2 (pc := 461) d_L_law_461 ?_
  refine lda_n_4_0 (pc := 462) d_L_law_462 ?_
  refine ldi_n_4_3 (pc := 463) d_L_law_463 ?_
  refine r_iconst (pc := 464) (v := 1) d_L_law_464 rfl ?_
  refine r_iadd (pc := 465) d_L_law_465 ?_
  refine r_scr (pc := 466) (n := n) (k := 1) (lwi1 n) d_L_law_466 (by omega) hL ?_
  refine r_callV (pc := 467) (As := [.int (qsx E (n + 1))]) (k := 9) (N := 56) (T := T_Md) k_L_48 im_Md_feed se_Md_feed rfl (by decide) rfl (by decide) d_L_law_467 hM1.1 (R_feed hM1 hR1) rfl (Nat.le_of_ble_eq_true rfl) (by omega) (by omega) (by omega) (fun v2 S2 I2 J2 hq2 => ?_)
  obtain ⟨pR, hV⟩ := hq2
  obtain ⟨r2, rfl⟩ : VI v2 := ⟨_, pR.1⟩
  refine r_pop (pc := 470) d_L_law_470 rfl ?_
  refine r_goto (pc := 471) (tgt := 1272) d_L_law_471 (by decide) ?_
  exact kend _ _ _ _ _ (by omega) (by omega) (g.feed pK cw hK pR hV)
theorem lw_case8 {c s n : Nat} (hc : c + 5 ≤ 600000) (hs : s + 133 ≤ 7302250) (hn : n + 5 < qsl E) (hL : qsl E ≤ 3072) (g : uINV S I J) (kend : qEnd E c s n Q) : qW E y_L_law b_L_law (some .boolean) 1312 600000 7302250 Q c s 474 [some (.ref (qsc E)), some (.ref (qb E + 0)), some (.ref (qb E + 114)), some (.int (nI n))] [] S I J := by
  obtain ⟨⟨w0, w1, w2, bl, hC⟩, hM, hR, hT⟩ := id g.1.1
  obtain ⟨nt, nt1, hn87, hx0⟩ := hC.tx
  have hx := hT.2.2.2.2.2.tx hx0
  by_cases h6 : I 0 7 = 6
  · refine lda_n_4_1 (pc := 474) d_L_law_474 ?_
    refine r_callV (pc := 475) (As := []) (k := 8) (N := 11) (T := T_On) k_L_49 im_On_island se_On_island rfl (by decide) rfl (by decide) d_L_law_475 hC.1.1 (K_island6 hC h6) rfl (Nat.le_of_ble_eq_true rfl) (by omega) (by omega) (by omega) (fun v S1 I1 J1 hq => ?_)
    obtain ⟨⟨pK, cw⟩, hK⟩ := hq
    obtain ⟨r1, rfl⟩ : VI v := ⟨_, pK.1⟩
    have hM1 := hK.2.1 hM
    have hR1 := hR.far hK.2.2.1
    refine r_pop (pc := 478) d_L_law_478 rfl ?_
    refine lda_n_4_2 (pc := 479) d_L_law_479 ?_
    refine r_callV (pc := 480) (As := []) (k := 9) (N := 56) (T := T_Md) k_L_53 im_Md_island se_Md_island rfl (by decide) rfl (by decide) d_L_law_480 hM1.1 (R_island hM1 hR1) rfl (Nat.le_of_ble_eq_true rfl) (by omega) (by omega) (by omega) (fun v2 S2 I2 J2 hq2 => ?_)
    obtain ⟨pR, hV⟩ := hq2
    obtain ⟨r2, rfl⟩ : VI v2 := (by rcases pR.1 with ⟨-, h, -⟩ | ⟨g1, z1, cz1, -, -, -, -, -, -, ⟨-, h, -⟩ | ⟨-, h, -⟩⟩ <;> exact ⟨_, h⟩)
    refine r_pop (pc := 483) d_L_law_483 rfl ?_
    refine r_goto (pc := 484) (tgt := 1272) d_L_law_484 (by decide) ?_
    exact kend _ _ _ _ _ (by omega) (by omega) (g.isl6 h6 pK cw hK pR hV.2.2.2.2 hV).1
  · by_cases hr : rok (rread (I 123) nt) nt = 0
    · refine lda_n_4_1 (pc := 474) d_L_law_474 ?_
      refine r_callV (pc := 475) (As := []) (k := 8) (N := 11) (T := T_On) k_L_49 im_On_island se_On_island rfl (by decide) rfl (by decide) d_L_law_475 hC.1.1 (K_islandF hC hx h6 hr) rfl (Nat.le_of_ble_eq_true rfl) (by omega) (by omega) (by omega) (fun v S1 I1 J1 hq => ?_)
      obtain ⟨⟨pK, cw⟩, hK⟩ := hq
      obtain ⟨r1, rfl⟩ : VI v := ⟨_, pK.1⟩
      have hM1 := hK.2.1 hM
      have hR1 := hR.far hK.2.2.1
      refine r_pop (pc := 478) d_L_law_478 rfl ?_
      refine lda_n_4_2 (pc := 479) d_L_law_479 ?_
      refine r_callV (pc := 480) (As := []) (k := 9) (N := 56) (T := T_Md) k_L_53 im_Md_island se_Md_island rfl (by decide) rfl (by decide) d_L_law_480 hM1.1 (R_island hM1 hR1) rfl (Nat.le_of_ble_eq_true rfl) (by omega) (by omega) (by omega) (fun v2 S2 I2 J2 hq2 => ?_)
      obtain ⟨pR, hV⟩ := hq2
      obtain ⟨r2, rfl⟩ : VI v2 := (by rcases pR.1 with ⟨-, h, -⟩ | ⟨g1, z1, cz1, -, -, -, -, -, -, ⟨-, h, -⟩ | ⟨-, h, -⟩⟩ <;> exact ⟨_, h⟩)
      refine r_pop (pc := 483) d_L_law_483 rfl ?_
      refine r_goto (pc := 484) (tgt := 1272) d_L_law_484 (by decide) ?_
      exact kend _ _ _ _ _ (by omega) (by omega) (g.isl h6 hn87 nt1 pK.2 hK.2.2.2.2.1 hK pR hV.2.2.2.2 hV (Or.inl ⟨hr, pK.1, hK.2.2.2.2.2⟩) (Or.inl ⟨hr, cw⟩)).1
    · refine lda_n_4_1 (pc := 474) d_L_law_474 ?_
      refine r_callV (pc := 475) (As := []) (k := 8) (N := 11) (T := T_On) k_L_49 im_On_island se_On_island rfl (by decide) rfl (by decide) d_L_law_475 hC.1.1 (K_island hC hx h6 hr) rfl (Nat.le_of_ble_eq_true rfl) (by omega) (by omega) (by omega) (fun v S1 I1 J1 hq => ?_)
      obtain ⟨⟨pK, cw⟩, hK⟩ := hq
      obtain ⟨r1, rfl⟩ : VI v := (by obtain ⟨g1, -, -, h, -⟩ := pK; exact ⟨_, h⟩)
      have hM1 := hK.2.1 hM
      have hR1 := hR.far hK.2.2.1
      refine r_pop (pc := 478) d_L_law_478 rfl ?_
      refine lda_n_4_2 (pc := 479) d_L_law_479 ?_
      refine r_callV (pc := 480) (As := []) (k := 9) (N := 56) (T := T_Md) k_L_53 im_Md_island se_Md_island rfl (by decide) rfl (by decide) d_L_law_480 hM1.1 (R_island hM1 hR1) rfl (Nat.le_of_ble_eq_true rfl) (by omega) (by omega) (by omega) (fun v2 S2 I2 J2 hq2 => ?_)
      obtain ⟨pR, hV⟩ := hq2
      obtain ⟨r2, rfl⟩ : VI v2 := (by rcases pR.1 with ⟨-, h, -⟩ | ⟨g1, z1, cz1, -, -, -, -, -, -, ⟨-, h, -⟩ | ⟨-, h, -⟩⟩ <;> exact ⟨_, h⟩)
      refine r_pop (pc := 483) d_L_law_483 rfl ?_
      refine r_goto (pc := 484) (tgt := 1272) d_L_law_484 (by decide) ?_
      exact kend _ _ _ _ _ (by omega) (by omega) (g.isl h6 hn87 nt1 (by obtain ⟨g1, -, -, -, h⟩ := pK; exact h) hK.2.2.2.2.1 hK pR hV.2.2.2.2 hV (Or.inr ⟨hr, (by obtain ⟨g1, h1, h2, h3, -⟩ := pK; exact ⟨g1, h1, h2, h3⟩), hK.2.2.2.2.2⟩) (Or.inr ⟨hr, cw⟩)).1
theorem lw_case9 {c s n : Nat} (hc : c + 5 ≤ 600000) (hs : s + 133 ≤ 7302250) (hn : n + 5 < qsl E) (hL : qsl E ≤ 3072) (g : uINV S I J) (kend : qEnd E c s n Q) : qW E y_L_law b_L_law (some .boolean) 1312 600000 7302250 Q c s 487 [some (.ref (qsc E)), some (.ref (qb E + 0)), some (.ref (qb E + 114)), some (.int (nI n))] [] S I J := by
  obtain ⟨⟨w0, w1, w2, bl, hC⟩, hM, hR, hT⟩ := id g.1.1
  refine lda_n_4_1 (pc := 487) d_L_law_487 ?_
  refine lda_n_4_0 (pc := 488) d_L_law_488 ?_
  refine ldi_n_4_3 (pc := 489) d_L_law_489 ?_
  refine r_iconst (pc := 490) (v := 1) d_L_law_490 rfl ?_
  refine r_iadd (pc := 491) d_L_law_491 ?_
  refine r_scr (pc := 492) (n := n) (k := 1) (lwi1 n) d_L_law_492 (by omega) hL ?_
  refine r_callV (pc := 493) (As := [.int (qsx E (n + 1))]) (k := 8) (N := 11) (T := T_On) k_L_54 im_On_told se_On_told rfl (by decide) rfl (by decide) d_L_law_493 hC.1.1 (K_told hC) rfl (Nat.le_of_ble_eq_true rfl) (by omega) (by omega) (by omega) (fun v S1 I1 J1 hq => ?_)
  obtain ⟨⟨pK, cw⟩, hK⟩ := hq
  obtain ⟨r1, rfl⟩ : VI v := pK.1
  have hM1 := hK.2.1 hM
  have hR1 := hR.far hK.2.2.1
  refine r_pop (pc := 496) d_L_law_496 rfl ?_
  refine lda_n_4_2 (pc := 497) d_L_law_497 ?_
  refine lda_n_4_0 (pc := 498) d_L_law_498 ?_
  refine ldi_n_4_3 (pc := 499) d_L_law_499 ?_
  refine r_iconst (pc := 500) (v := 1) d_L_law_500 rfl ?_
  refine r_iadd (pc := 501) d_L_law_501 ?_
  refine r_scr (pc := 502) (n := n) (k := 1) (lwi1 n) d_L_law_502 (by omega) hL ?_
  refine r_callV (pc := 503) (As := [.int (qsx E (n + 1))]) (k := 9) (N := 56) (T := T_Md) k_L_57 im_Md_told se_Md_told rfl (by decide) rfl (by decide) d_L_law_503 hM1.1 (R_told hM1 hR1) rfl (Nat.le_of_ble_eq_true rfl) (by omega) (by omega) (by omega) (fun v2 S2 I2 J2 hq2 => ?_)
  obtain ⟨⟨pR, rw⟩, hV⟩ := hq2
  obtain ⟨r2, rfl⟩ : VI v2 := pR.1
  refine r_pop (pc := 506) d_L_law_506 rfl ?_
  refine r_goto (pc := 507) (tgt := 1272) d_L_law_507 (by decide) ?_
  exact kend _ _ _ _ _ (by omega) (by omega) (g.ask pK.2 cw hK pR.2 rw hV)
theorem lw_case10 {c s n : Nat} (hc : c + 5 ≤ 600000) (hs : s + 133 ≤ 7302250) (hn : n + 5 < qsl E) (hL : qsl E ≤ 3072) (g : uINV S I J) (kend : qEnd E c s n Q) : qW E y_L_law b_L_law (some .boolean) 1312 600000 7302250 Q c s 510 [some (.ref (qsc E)), some (.ref (qb E + 0)), some (.ref (qb E + 114)), some (.int (nI n))] [] S I J := by
  obtain ⟨⟨w0, w1, w2, bl, hC⟩, hM, hR, hT⟩ := id g.1.1
  refine lda_n_4_1 (pc := 510) d_L_law_510 ?_
  refine lda_n_4_0 (pc := 511) d_L_law_511 ?_
  refine ldi_n_4_3 (pc := 512) d_L_law_512 ?_
  refine r_iconst (pc := 513) (v := 1) d_L_law_513 rfl ?_
  refine r_iadd (pc := 514) d_L_law_514 ?_
  refine r_scr (pc := 515) (n := n) (k := 1) (lwi1 n) d_L_law_515 (by omega) hL ?_
  refine r_callV (pc := 516) (As := [.int (qsx E (n + 1))]) (k := 8) (N := 11) (T := T_On) k_L_58 im_On_pass se_On_pass rfl (by decide) rfl (by decide) d_L_law_516 hC.1.1 (K_pass hC) rfl (Nat.le_of_ble_eq_true rfl) (by omega) (by omega) (by omega) (fun v S1 I1 J1 hq => ?_)
  obtain ⟨⟨pK, cw⟩, hK⟩ := hq
  obtain ⟨r1, rfl⟩ : VI v := (by obtain ⟨d, w, -, -, -, -, h, -⟩ := pK; exact ⟨_, h⟩)
  have hM1 := hK.2.1 hM
  have hR1 := hR.far hK.2.2.1
  refine r_pop (pc := 519) d_L_law_519 rfl ?_
  refine lda_n_4_2 (pc := 520) d_L_law_520 ?_
  refine lda_n_4_0 (pc := 521) d_L_law_521 ?_
  refine ldi_n_4_3 (pc := 522) d_L_law_522 ?_
  refine r_iconst (pc := 523) (v := 1) d_L_law_523 rfl ?_
  refine r_iadd (pc := 524) d_L_law_524 ?_
  refine r_scr (pc := 525) (n := n) (k := 1) (lwi1 n) d_L_law_525 (by omega) hL ?_
  refine r_callV (pc := 526) (As := [.int (qsx E (n + 1))]) (k := 9) (N := 56) (T := T_Md) k_L_61 im_Md_pass se_Md_pass rfl (by decide) rfl (by decide) d_L_law_526 hM1.1 (R_pass hM1 hR1) rfl (Nat.le_of_ble_eq_true rfl) (by omega) (by omega) (by omega) (fun v2 S2 I2 J2 hq2 => ?_)
  obtain ⟨pR, hV⟩ := hq2
  obtain ⟨r2, rfl⟩ : VI v2 := (by obtain ⟨d, -, -, -, hR⟩ := pR; split at hR; exact ⟨_, hR.1⟩; split at hR <;> exact ⟨_, hR.1⟩)
  refine r_pop (pc := 529) d_L_law_529 rfl ?_
  refine r_goto (pc := 530) (tgt := 1272) d_L_law_530 (by decide) ?_
  exact kend _ _ _ _ _ (by omega) (by omega) (g.pass pK cw hK pR hV).1
theorem lw_case11 {c s n : Nat} (hc : c + 5 ≤ 600000) (hs : s + 133 ≤ 7302250) (hn : n + 5 < qsl E) (hL : qsl E ≤ 3072) (g : uINV S I J) (kend : qEnd E c s n Q) : qW E y_L_law b_L_law (some .boolean) 1312 600000 7302250 Q c s 533 [some (.ref (qsc E)), some (.ref (qb E + 0)), some (.ref (qb E + 114)), some (.int (nI n))] [] S I J := by
  obtain ⟨⟨w0, w1, w2, bl, hC⟩, hM, hR, hT⟩ := id g.1.1
  refine lda_n_4_1 (pc := 533) d_L_law_533 ?_
  refine lda_n_4_0 (pc := 534) d_L_law_534 ?_
  refine ldi_n_4_3 (pc := 535) d_L_law_535 ?_
  refine r_iconst (pc := 536) (v := 1) d_L_law_536 rfl ?_
  refine r_iadd (pc := 537) d_L_law_537 ?_
  refine r_scr (pc := 538) (n := n) (k := 1) (lwi1 n) d_L_law_538 (by omega) hL ?_
  refine lda_n_4_0 (pc := 539) d_L_law_539 ?_
  refine ldi_n_4_3 (pc := 540) d_L_law_540 ?_
  refine r_iconst (pc := 541) (v := 2) d_L_law_541 rfl ?_
  refine r_iadd (pc := 542) d_L_law_542 ?_
  refine r_scr (pc := 543) (n := n) (k := 2) (lwi2 n) d_L_law_543 (by omega) hL ?_
  refine r_callV (pc := 544) (As := [.int (qsx E (n + 1)), .int (qsx E (n + 2))]) (k := 8) (N := 11) (T := T_On) k_L_62 im_On_on se_On_on rfl (by decide) rfl (by decide) d_L_law_544 hC.1.1 (K_on hC) rfl (Nat.le_of_ble_eq_true rfl) (by omega) (by omega) (by omega) (fun v S1 I1 J1 hq => ?_)
  obtain ⟨⟨pK, cw⟩, hK⟩ := hq
  obtain ⟨r1, rfl⟩ : VI v := (by obtain ⟨⟨c, w, -, -, -, h⟩, -⟩ := pK; exact ⟨_, h⟩)
  have hM1 := hK.2.1 hM
  have hR1 := hR.far hK.2.2.1
  refine r_pop (pc := 547) d_L_law_547 rfl ?_
  refine lda_n_4_2 (pc := 548) d_L_law_548 ?_
  refine lda_n_4_0 (pc := 549) d_L_law_549 ?_
  refine ldi_n_4_3 (pc := 550) d_L_law_550 ?_
  refine r_iconst (pc := 551) (v := 1) d_L_law_551 rfl ?_
  refine r_iadd (pc := 552) d_L_law_552 ?_
  refine r_scr (pc := 553) (n := n) (k := 1) (lwi1 n) d_L_law_553 (by omega) hL ?_
  refine lda_n_4_0 (pc := 554) d_L_law_554 ?_
  refine ldi_n_4_3 (pc := 555) d_L_law_555 ?_
  refine r_iconst (pc := 556) (v := 2) d_L_law_556 rfl ?_
  refine r_iadd (pc := 557) d_L_law_557 ?_
  refine r_scr (pc := 558) (n := n) (k := 2) (lwi2 n) d_L_law_558 (by omega) hL ?_
  refine r_callV (pc := 559) (As := [.int (qsx E (n + 1)), .int (qsx E (n + 2))]) (k := 9) (N := 56) (T := T_Md) k_L_65 im_Md_on se_Md_on rfl (by decide) rfl (by decide) d_L_law_559 hM1.1 (R_onX hM1 hR1) rfl (Nat.le_of_ble_eq_true rfl) (by omega) (by omega) (by omega) (fun v2 S2 I2 J2 hq2 => ?_)
  obtain ⟨⟨pR, rw⟩, hV⟩ := hq2
  obtain ⟨r2, rfl⟩ : VI v2 := (by obtain ⟨⟨c, -, -, M, -, h⟩, -⟩ := pR; exact ⟨_, h⟩)
  refine r_pop (pc := 562) d_L_law_562 rfl ?_
  refine r_goto (pc := 563) (tgt := 1272) d_L_law_563 (by decide) ?_
  exact kend _ _ _ _ _ (by omega) (by omega) (g.ask pK.2 cw hK pR.2 rw hV)
theorem lw_case12 {c s n : Nat} (hc : c + 5 ≤ 600000) (hs : s + 133 ≤ 7302250) (hn : n + 5 < qsl E) (hL : qsl E ≤ 3072) (g : uINV S I J) (kend : qEnd E c s n Q) : qW E y_L_law b_L_law (some .boolean) 1312 600000 7302250 Q c s 566 [some (.ref (qsc E)), some (.ref (qb E + 0)), some (.ref (qb E + 114)), some (.int (nI n))] [] S I J := by
  obtain ⟨⟨w0, w1, w2, bl, hC⟩, hM, hR, hT⟩ := id g.1.1
  refine lda_n_4_1 (pc := 566) d_L_law_566 ?_
  refine lda_n_4_0 (pc := 567) d_L_law_567 ?_
  refine ldi_n_4_3 (pc := 568) d_L_law_568 ?_
  refine r_iconst (pc := 569) (v := 1) d_L_law_569 rfl ?_
  refine r_iadd (pc := 570) d_L_law_570 ?_
  refine r_scr (pc := 571) (n := n) (k := 1) (lwi1 n) d_L_law_571 (by omega) hL ?_
  refine r_callV (pc := 572) (As := [.int (qsx E (n + 1))]) (k := 8) (N := 11) (T := T_On) k_L_66 im_On_turn se_On_turn rfl (by decide) rfl (by decide) d_L_law_572 hC.1.1 (K_turn hC) rfl (Nat.le_of_ble_eq_true rfl) (by omega) (by omega) (by omega) (fun v S1 I1 J1 hq => ?_)
  obtain ⟨⟨pK, cw⟩, hK⟩ := hq
  obtain ⟨r1, rfl⟩ : VI v := (by obtain ⟨⟨c, w, -, -, -, h⟩, -⟩ := pK; exact ⟨_, h⟩)
  have hM1 := hK.2.1 hM
  have hR1 := hR.far hK.2.2.1
  refine r_pop (pc := 575) d_L_law_575 rfl ?_
  refine lda_n_4_2 (pc := 576) d_L_law_576 ?_
  refine lda_n_4_0 (pc := 577) d_L_law_577 ?_
  refine ldi_n_4_3 (pc := 578) d_L_law_578 ?_
  refine r_iconst (pc := 579) (v := 1) d_L_law_579 rfl ?_
  refine r_iadd (pc := 580) d_L_law_580 ?_
  refine r_scr (pc := 581) (n := n) (k := 1) (lwi1 n) d_L_law_581 (by omega) hL ?_
  refine r_callV (pc := 582) (As := [.int (qsx E (n + 1))]) (k := 9) (N := 56) (T := T_Md) k_L_69 im_Md_turn se_Md_turn rfl (by decide) rfl (by decide) d_L_law_582 hM1.1 (R_turnX hM1 hR1) rfl (Nat.le_of_ble_eq_true rfl) (by omega) (by omega) (by omega) (fun v2 S2 I2 J2 hq2 => ?_)
  obtain ⟨⟨pR, rw⟩, hV⟩ := hq2
  obtain ⟨r2, rfl⟩ : VI v2 := (by obtain ⟨⟨c, -, -, M, -, h⟩, -⟩ := pR; exact ⟨_, h⟩)
  refine r_pop (pc := 585) d_L_law_585 rfl ?_
  refine r_goto (pc := 586) (tgt := 1272) d_L_law_586 (by decide) ?_
  exact kend _ _ _ _ _ (by omega) (by omega) (g.ask pK.2 cw hK pR.2 rw hV)
theorem lw_case13 {c s n : Nat} (hc : c + 5 ≤ 600000) (hs : s + 133 ≤ 7302250) (hn : n + 5 < qsl E) (hL : qsl E ≤ 3072) (g : uINV S I J) (kend : qEnd E c s n Q) : qW E y_L_law b_L_law (some .boolean) 1312 600000 7302250 Q c s 589 [some (.ref (qsc E)), some (.ref (qb E + 0)), some (.ref (qb E + 114)), some (.int (nI n))] [] S I J := by
  obtain ⟨⟨w0, w1, w2, bl, hC⟩, hM, hR, hT⟩ := id g.1.1
  refine lda_n_4_1 (pc := 589) d_L_law_589 ?_
  refine r_callV (pc := 590) (As := []) (k := 8) (N := 11) (T := T_On) k_L_70 im_On_empty se_On_empty rfl (by decide) rfl (by decide) d_L_law_590 hC.1.1 (K_empty hC) rfl (Nat.le_of_ble_eq_true rfl) (by omega) (by omega) (by omega) (fun v S1 I1 J1 hq => ?_)
  obtain ⟨⟨pK, cw⟩, hK⟩ := hq
  obtain ⟨r1, rfl⟩ : VI v := (by obtain ⟨⟨c, w, -, -, -, h⟩, -⟩ := pK; exact ⟨_, h⟩)
  have hM1 := hK.2.1 hM
  have hR1 := hR.far hK.2.2.1
  refine r_pop (pc := 593) d_L_law_593 rfl ?_
  refine lda_n_4_2 (pc := 594) d_L_law_594 ?_
  refine r_callV (pc := 595) (As := []) (k := 9) (N := 56) (T := T_Md) k_L_73 im_Md_empty se_Md_empty rfl (by decide) rfl (by decide) d_L_law_595 hM1.1 (R_emptyX hM1 hR1) rfl (Nat.le_of_ble_eq_true rfl) (by omega) (by omega) (by omega) (fun v2 S2 I2 J2 hq2 => ?_)
  obtain ⟨⟨pR, rw⟩, hV⟩ := hq2
  obtain ⟨r2, rfl⟩ : VI v2 := (by obtain ⟨⟨c, -, -, M, -, h⟩, -⟩ := pR; exact ⟨_, h⟩)
  refine r_pop (pc := 598) d_L_law_598 rfl ?_
  refine r_goto (pc := 599) (tgt := 1272) d_L_law_599 (by decide) ?_
  exact kend _ _ _ _ _ (by omega) (by omega) (g.ask pK.2 cw hK pR.2 rw hV)
theorem lw_case14 {c s n : Nat} (hc : c + 5 ≤ 600000) (hs : s + 133 ≤ 7302250) (hn : n + 5 < qsl E) (hL : qsl E ≤ 3072) (g : uINV S I J) (kend : qEnd E c s n Q) : qW E y_L_law b_L_law (some .boolean) 1312 600000 7302250 Q c s 602 [some (.ref (qsc E)), some (.ref (qb E + 0)), some (.ref (qb E + 114)), some (.int (nI n))] [] S I J := by
  obtain ⟨⟨w0, w1, w2, bl, hC⟩, hM, hR, hT⟩ := id g.1.1
  refine lda_n_4_1 (pc := 602) d_L_law_602 ?_
  refine lda_n_4_0 (pc := 603) d_L_law_603 ?_
  refine ldi_n_4_3 (pc := 604) d_L_law_604 ?_
  refine r_iconst (pc := 605) (v := 1) d_L_law_605 rfl ?_
  refine r_iadd (pc := 606) d_L_law_606 ?_
  refine r_scr (pc := 607) (n := n) (k := 1) (lwi1 n) d_L_law_607 (by omega) hL ?_
  refine lda_n_4_0 (pc := 608) d_L_law_608 ?_
  refine ldi_n_4_3 (pc := 609) d_L_law_609 ?_
  refine r_iconst (pc := 610) (v := 2) d_L_law_610 rfl ?_
  refine r_iadd (pc := 611) d_L_law_611 ?_
  refine r_scr (pc := 612) (n := n) (k := 2) (lwi2 n) d_L_law_612 (by omega) hL ?_
  refine r_callV (pc := 613) (As := [.int (qsx E (n + 1)), .int (qsx E (n + 2))]) (k := 8) (N := 11) (T := T_On) k_L_74 im_On_best se_On_best rfl (by decide) rfl (by decide) d_L_law_613 hC.1.1 (K_best hC) rfl (Nat.le_of_ble_eq_true rfl) (by omega) (by omega) (by omega) (fun v S1 I1 J1 hq => ?_)
  obtain ⟨⟨pK, cw⟩, hK⟩ := hq
  obtain ⟨r1, rfl⟩ : VI v := pK.1
  have hM1 := hK.2.1 hM
  have hR1 := hR.far hK.2.2.1
  refine r_pop (pc := 616) d_L_law_616 rfl ?_
  refine lda_n_4_2 (pc := 617) d_L_law_617 ?_
  refine lda_n_4_0 (pc := 618) d_L_law_618 ?_
  refine ldi_n_4_3 (pc := 619) d_L_law_619 ?_
  refine r_iconst (pc := 620) (v := 1) d_L_law_620 rfl ?_
  refine r_iadd (pc := 621) d_L_law_621 ?_
  refine r_scr (pc := 622) (n := n) (k := 1) (lwi1 n) d_L_law_622 (by omega) hL ?_
  refine lda_n_4_0 (pc := 623) d_L_law_623 ?_
  refine ldi_n_4_3 (pc := 624) d_L_law_624 ?_
  refine r_iconst (pc := 625) (v := 2) d_L_law_625 rfl ?_
  refine r_iadd (pc := 626) d_L_law_626 ?_
  refine r_scr (pc := 627) (n := n) (k := 2) (lwi2 n) d_L_law_627 (by omega) hL ?_
  refine r_callV (pc := 628) (As := [.int (qsx E (n + 1)), .int (qsx E (n + 2))]) (k := 9) (N := 56) (T := T_Md) k_L_77 im_Md_best se_Md_best rfl (by decide) rfl (by decide) d_L_law_628 hM1.1 (R_best hM1 hR1) rfl (Nat.le_of_ble_eq_true rfl) (by omega) (by omega) (by omega) (fun v2 S2 I2 J2 hq2 => ?_)
  obtain ⟨⟨pR, rw⟩, hV⟩ := hq2
  obtain ⟨r2, rfl⟩ : VI v2 := pR.1
  refine r_pop (pc := 631) d_L_law_631 rfl ?_
  refine r_goto (pc := 632) (tgt := 1272) d_L_law_632 (by decide) ?_
  exact kend _ _ _ _ _ (by omega) (by omega) (g.ask pK.2 cw hK pR.2 rw hV)
theorem lw_case15 {c s n : Nat} (hc : c + 5 ≤ 600000) (hs : s + 133 ≤ 7302250) (hn : n + 5 < qsl E) (hL : qsl E ≤ 3072) (g : uINV S I J) (kend : qEnd E c s n Q) : qW E y_L_law b_L_law (some .boolean) 1312 600000 7302250 Q c s 635 [some (.ref (qsc E)), some (.ref (qb E + 0)), some (.ref (qb E + 114)), some (.int (nI n))] [] S I J := by
  obtain ⟨⟨w0, w1, w2, bl, hC⟩, hM, hR, hT⟩ := id g.1.1
  refine lda_n_4_1 (pc := 635) d_L_law_635 ?_
  refine lda_n_4_0 (pc := 636) d_L_law_636 ?_
  refine ldi_n_4_3 (pc := 637) d_L_law_637 ?_
  refine r_iconst (pc := 638) (v := 1) d_L_law_638 rfl ?_
  refine r_iadd (pc := 639) d_L_law_639 ?_
  refine r_scr (pc := 640) (n := n) (k := 1) (lwi1 n) d_L_law_640 (by omega) hL ?_
  refine lda_n_4_0 (pc := 641) d_L_law_641 ?_
  refine ldi_n_4_3 (pc := 642) d_L_law_642 ?_
  refine r_iconst (pc := 643) (v := 2) d_L_law_643 rfl ?_
  refine r_iadd (pc := 644) d_L_law_644 ?_
  refine r_scr (pc := 645) (n := n) (k := 2) (lwi2 n) d_L_law_645 (by omega) hL ?_
  refine lda_n_4_0 (pc := 646) d_L_law_646 ?_
  refine ldi_n_4_3 (pc := 647) d_L_law_647 ?_
  refine r_iconst (pc := 648) (v := 3) d_L_law_648 rfl ?_
  refine r_iadd (pc := 649) d_L_law_649 ?_
  refine r_scr (pc := 650) (n := n) (k := 3) (lwi3 n) d_L_law_650 (by omega) hL ?_
  refine r_callV (pc := 651) (As := [.int (qsx E (n + 1)), .int (qsx E (n + 2)), .int (qsx E (n + 3))]) (k := 8) (N := 11) (T := T_On) k_L_78 im_On_see se_On_see rfl (by decide) rfl (by decide) d_L_law_651 hC.1.1 (K_see hC) rfl (Nat.le_of_ble_eq_true rfl) (by omega) (by omega) (by omega) (fun v S1 I1 J1 hq => ?_)
  obtain ⟨⟨pK, cw⟩, hK⟩ := hq
  obtain ⟨r1, rfl⟩ : VI v := (by obtain ⟨c, l, -, -, -, -, h, -⟩ := pK; exact ⟨_, h⟩)
  have hM1 := hK.2.1 hM
  have hR1 := hR.far hK.2.2.1
  refine r_pop (pc := 654) d_L_law_654 rfl ?_
  refine lda_n_4_2 (pc := 655) d_L_law_655 ?_
  refine lda_n_4_0 (pc := 656) d_L_law_656 ?_
  refine ldi_n_4_3 (pc := 657) d_L_law_657 ?_
  refine r_iconst (pc := 658) (v := 1) d_L_law_658 rfl ?_
  refine r_iadd (pc := 659) d_L_law_659 ?_
  refine r_scr (pc := 660) (n := n) (k := 1) (lwi1 n) d_L_law_660 (by omega) hL ?_
  refine lda_n_4_0 (pc := 661) d_L_law_661 ?_
  refine ldi_n_4_3 (pc := 662) d_L_law_662 ?_
  refine r_iconst (pc := 663) (v := 2) d_L_law_663 rfl ?_
  refine r_iadd (pc := 664) d_L_law_664 ?_
  refine r_scr (pc := 665) (n := n) (k := 2) (lwi2 n) d_L_law_665 (by omega) hL ?_
  refine lda_n_4_0 (pc := 666) d_L_law_666 ?_
  refine ldi_n_4_3 (pc := 667) d_L_law_667 ?_
  refine r_iconst (pc := 668) (v := 3) d_L_law_668 rfl ?_
  refine r_iadd (pc := 669) d_L_law_669 ?_
  refine r_scr (pc := 670) (n := n) (k := 3) (lwi3 n) d_L_law_670 (by omega) hL ?_
  refine r_callV (pc := 671) (As := [.int (qsx E (n + 1)), .int (qsx E (n + 2)), .int (qsx E (n + 3))]) (k := 9) (N := 56) (T := T_Md) k_L_81 im_Md_see se_Md_see rfl (by decide) rfl (by decide) d_L_law_671 hM1.1 (R_see hM1 hR1) rfl (Nat.le_of_ble_eq_true rfl) (by omega) (by omega) (by omega) (fun v2 S2 I2 J2 hq2 => ?_)
  obtain ⟨pR, hV⟩ := hq2
  obtain ⟨r2, rfl⟩ : VI v2 := ⟨_, pR.1⟩
  refine r_pop (pc := 674) d_L_law_674 rfl ?_
  refine r_goto (pc := 675) (tgt := 1272) d_L_law_675 (by decide) ?_
  exact kend _ _ _ _ _ (by omega) (by omega) (g.see pK cw hK pR hV)
theorem lw_case16 {c s n : Nat} (hc : c + 5 ≤ 600000) (hs : s + 133 ≤ 7302250) (hn : n + 5 < qsl E) (hL : qsl E ≤ 3072) (g : uINV S I J) (kend : qEnd E c s n Q) : qW E y_L_law b_L_law (some .boolean) 1312 600000 7302250 Q c s 678 [some (.ref (qsc E)), some (.ref (qb E + 0)), some (.ref (qb E + 114)), some (.int (nI n))] [] S I J := by
  obtain ⟨⟨w0, w1, w2, bl, hC⟩, hM, hR, hT⟩ := id g.1.1
  refine lda_n_4_1 (pc := 678) d_L_law_678 ?_
  refine lda_n_4_0 (pc := 679) d_L_law_679 ?_
  refine ldi_n_4_3 (pc := 680) d_L_law_680 ?_
  refine r_iconst (pc := 681) (v := 1) d_L_law_681 rfl ?_
  refine r_iadd (pc := 682) d_L_law_682 ?_
  refine r_scr (pc := 683) (n := n) (k := 1) (lwi1 n) d_L_law_683 (by omega) hL ?_
  refine lda_n_4_0 (pc := 684) d_L_law_684 ?_
  refine ldi_n_4_3 (pc := 685) d_L_law_685 ?_
  refine r_iconst (pc := 686) (v := 2) d_L_law_686 rfl ?_
  refine r_iadd (pc := 687) d_L_law_687 ?_
  refine r_scr (pc := 688) (n := n) (k := 2) (lwi2 n) d_L_law_688 (by omega) hL ?_
  refine lda_n_4_0 (pc := 689) d_L_law_689 ?_
  refine ldi_n_4_3 (pc := 690) d_L_law_690 ?_
  refine r_iconst (pc := 691) (v := 3) d_L_law_691 rfl ?_
  refine r_iadd (pc := 692) d_L_law_692 ?_
  refine r_scr (pc := 693) (n := n) (k := 3) (lwi3 n) d_L_law_693 (by omega) hL ?_
  refine r_callV (pc := 694) (As := [.int (qsx E (n + 1)), .int (qsx E (n + 2)), .int (qsx E (n + 3))]) (k := 8) (N := 11) (T := T_On) k_L_82 im_On_can se_On_can rfl (by decide) rfl (by decide) d_L_law_694 hC.1.1 (K_can hC) rfl (Nat.le_of_ble_eq_true rfl) (by omega) (by omega) (by omega) (fun v S1 I1 J1 hq => ?_)
  obtain ⟨⟨pK, cw⟩, hK⟩ := hq
  obtain ⟨r1, rfl⟩ : VI v := (by obtain ⟨⟨c, w, -, -, -, h⟩, -⟩ := pK; exact ⟨_, h⟩)
  have hM1 := hK.2.1 hM
  have hR1 := hR.far hK.2.2.1
  refine lda_n_4_2 (pc := 697) d_L_law_697 ?_
  refine lda_n_4_0 (pc := 698) d_L_law_698 ?_
  refine ldi_n_4_3 (pc := 699) d_L_law_699 ?_
  refine r_iconst (pc := 700) (v := 1) d_L_law_700 rfl ?_
  refine r_iadd (pc := 701) d_L_law_701 ?_
  refine r_scr (pc := 702) (n := n) (k := 1) (lwi1 n) d_L_law_702 (by omega) hL ?_
  refine lda_n_4_0 (pc := 703) d_L_law_703 ?_
  refine ldi_n_4_3 (pc := 704) d_L_law_704 ?_
  refine r_iconst (pc := 705) (v := 2) d_L_law_705 rfl ?_
  refine r_iadd (pc := 706) d_L_law_706 ?_
  refine r_scr (pc := 707) (n := n) (k := 2) (lwi2 n) d_L_law_707 (by omega) hL ?_
  refine lda_n_4_0 (pc := 708) d_L_law_708 ?_
  refine ldi_n_4_3 (pc := 709) d_L_law_709 ?_
  refine r_iconst (pc := 710) (v := 3) d_L_law_710 rfl ?_
  refine r_iadd (pc := 711) d_L_law_711 ?_
  refine r_scr (pc := 712) (n := n) (k := 3) (lwi3 n) d_L_law_712 (by omega) hL ?_
  refine r_callV (pc := 713) (As := [.int (qsx E (n + 1)), .int (qsx E (n + 2)), .int (qsx E (n + 3))]) (k := 9) (N := 56) (T := T_Md) k_L_85 im_Md_can se_Md_can rfl (by decide) rfl (by decide) d_L_law_713 hM1.1 (R_canX hM1 hR1) rfl (Nat.le_of_ble_eq_true rfl) (by omega) (by omega) (by omega) (fun v2 S2 I2 J2 hq2 => ?_)
  obtain ⟨⟨pR, rw⟩, hV⟩ := hq2
  obtain ⟨r2, rfl⟩ : VI v2 := (by obtain ⟨⟨c, z, -, -, -, -, h⟩, -⟩ := pR; exact ⟨_, h⟩)
  refine r_icmp_eq (pc := 716) (tgt := 1272) d_L_law_716 (by decide) (fun ce => ?_) (fun ce => ?_)
  · exact kend _ _ _ _ _ (by omega) (by omega) (g.ask pK.2 cw hK pR.2 rw hV)
  · exact absurd (vinj (x_can g pK.1 hK pR.1)) ce
theorem lw_case17 {c s n : Nat} (hc : c + 5 ≤ 600000) (hs : s + 133 ≤ 7302250) (hn : n + 5 < qsl E) (hL : qsl E ≤ 3072) (g : uINV S I J) (kend : qEnd E c s n Q) : qW E y_L_law b_L_law (some .boolean) 1312 600000 7302250 Q c s 721 [some (.ref (qsc E)), some (.ref (qb E + 0)), some (.ref (qb E + 114)), some (.int (nI n))] [] S I J := by
  obtain ⟨⟨w0, w1, w2, bl, hC⟩, hM, hR, hT⟩ := id g.1.1
  refine lda_n_4_1 (pc := 721) d_L_law_721 ?_
  refine lda_n_4_0 (pc := 722) d_L_law_722 ?_
  refine ldi_n_4_3 (pc := 723) d_L_law_723 ?_
  refine r_iconst (pc := 724) (v := 1) d_L_law_724 rfl ?_
  refine r_iadd (pc := 725) d_L_law_725 ?_
  refine r_scr (pc := 726) (n := n) (k := 1) (lwi1 n) d_L_law_726 (by omega) hL ?_
  refine lda_n_4_0 (pc := 727) d_L_law_727 ?_
  refine ldi_n_4_3 (pc := 728) d_L_law_728 ?_
  refine r_iconst (pc := 729) (v := 2) d_L_law_729 rfl ?_
  refine r_iadd (pc := 730) d_L_law_730 ?_
  refine r_scr (pc := 731) (n := n) (k := 2) (lwi2 n) d_L_law_731 (by omega) hL ?_
  refine r_callV (pc := 732) (As := [.int (qsx E (n + 1)), .int (qsx E (n + 2))]) (k := 8) (N := 11) (T := T_On) k_L_86 im_On_odds se_On_odds rfl (by decide) rfl (by decide) d_L_law_732 hC.1.1 (K_odds hC) rfl (Nat.le_of_ble_eq_true rfl) (by omega) (by omega) (by omega) (fun v S1 I1 J1 hq => ?_)
  obtain ⟨⟨pK, cw⟩, hK⟩ := hq
  obtain ⟨r1, rfl⟩ : VL v := pK.1
  have hM1 := hK.2.1 hM
  have hR1 := hR.far hK.2.2.1
  refine r_pop2 (pc := 735) d_L_law_735 rfl ?_
  refine lda_n_4_2 (pc := 736) d_L_law_736 ?_
  refine lda_n_4_0 (pc := 737) d_L_law_737 ?_
  refine ldi_n_4_3 (pc := 738) d_L_law_738 ?_
  refine r_iconst (pc := 739) (v := 1) d_L_law_739 rfl ?_
  refine r_iadd (pc := 740) d_L_law_740 ?_
  refine r_scr (pc := 741) (n := n) (k := 1) (lwi1 n) d_L_law_741 (by omega) hL ?_
  refine lda_n_4_0 (pc := 742) d_L_law_742 ?_
  refine ldi_n_4_3 (pc := 743) d_L_law_743 ?_
  refine r_iconst (pc := 744) (v := 2) d_L_law_744 rfl ?_
  refine r_iadd (pc := 745) d_L_law_745 ?_
  refine r_scr (pc := 746) (n := n) (k := 2) (lwi2 n) d_L_law_746 (by omega) hL ?_
  refine r_callV (pc := 747) (As := [.int (qsx E (n + 1)), .int (qsx E (n + 2))]) (k := 9) (N := 56) (T := T_Md) k_L_90 im_Md_odds se_Md_odds rfl (by decide) rfl (by decide) d_L_law_747 hM1.1 (R_odds hM1 hR1) rfl (Nat.le_of_ble_eq_true rfl) (by omega) (by omega) (by omega) (fun v2 S2 I2 J2 hq2 => ?_)
  obtain ⟨⟨pR, rw⟩, hV⟩ := hq2
  obtain ⟨r2, rfl⟩ : VL v2 := pR.1
  refine r_pop2 (pc := 750) d_L_law_750 rfl ?_
  refine r_goto (pc := 751) (tgt := 1272) d_L_law_751 (by decide) ?_
  exact kend _ _ _ _ _ (by omega) (by omega) (g.ask pK.2 cw hK pR.2 rw hV)
theorem lw_case18 {c s n : Nat} (hc : c + 5 ≤ 600000) (hs : s + 133 ≤ 7302250) (hn : n + 5 < qsl E) (hL : qsl E ≤ 3072) (g : uINV S I J) (kend : qEnd E c s n Q) : qW E y_L_law b_L_law (some .boolean) 1312 600000 7302250 Q c s 754 [some (.ref (qsc E)), some (.ref (qb E + 0)), some (.ref (qb E + 114)), some (.int (nI n))] [] S I J := by
  obtain ⟨⟨w0, w1, w2, bl, hC⟩, hM, hR, hT⟩ := id g.1.1
  refine lda_n_4_1 (pc := 754) d_L_law_754 ?_
  refine lda_n_4_0 (pc := 755) d_L_law_755 ?_
  refine ldi_n_4_3 (pc := 756) d_L_law_756 ?_
  refine r_iconst (pc := 757) (v := 1) d_L_law_757 rfl ?_
  refine r_iadd (pc := 758) d_L_law_758 ?_
  refine r_scr (pc := 759) (n := n) (k := 1) (lwi1 n) d_L_law_759 (by omega) hL ?_
  refine r_callV (pc := 760) (As := [.int (qsx E (n + 1))]) (k := 8) (N := 11) (T := T_On) k_L_91 im_On_mean se_On_mean rfl (by decide) rfl (by decide) d_L_law_760 hC.1.1 (K_mean hC) rfl (Nat.le_of_ble_eq_true rfl) (by omega) (by omega) (by omega) (fun v S1 I1 J1 hq => ?_)
  obtain ⟨⟨pK, cw⟩, hK⟩ := hq
  obtain ⟨r1, rfl⟩ : VL v := pK.1
  have hM1 := hK.2.1 hM
  have hR1 := hR.far hK.2.2.1
  refine r_pop2 (pc := 763) d_L_law_763 rfl ?_
  refine lda_n_4_2 (pc := 764) d_L_law_764 ?_
  refine lda_n_4_0 (pc := 765) d_L_law_765 ?_
  refine ldi_n_4_3 (pc := 766) d_L_law_766 ?_
  refine r_iconst (pc := 767) (v := 1) d_L_law_767 rfl ?_
  refine r_iadd (pc := 768) d_L_law_768 ?_
  refine r_scr (pc := 769) (n := n) (k := 1) (lwi1 n) d_L_law_769 (by omega) hL ?_
  refine r_callV (pc := 770) (As := [.int (qsx E (n + 1))]) (k := 9) (N := 56) (T := T_Md) k_L_95 im_Md_mean se_Md_mean rfl (by decide) rfl (by decide) d_L_law_770 hM1.1 (R_mean hM1 hR1) rfl (Nat.le_of_ble_eq_true rfl) (by omega) (by omega) (by omega) (fun v2 S2 I2 J2 hq2 => ?_)
  obtain ⟨⟨pR, rw⟩, hV⟩ := hq2
  obtain ⟨r2, rfl⟩ : VL v2 := pR.1
  refine r_pop2 (pc := 773) d_L_law_773 rfl ?_
  refine r_goto (pc := 774) (tgt := 1272) d_L_law_774 (by decide) ?_
  exact kend _ _ _ _ _ (by omega) (by omega) (g.ask pK.2 cw hK pR.2 rw hV)
theorem lw_case19 {c s n : Nat} (hc : c + 5 ≤ 600000) (hs : s + 133 ≤ 7302250) (hn : n + 5 < qsl E) (hL : qsl E ≤ 3072) (g : uINV S I J) (kend : qEnd E c s n Q) : qW E y_L_law b_L_law (some .boolean) 1312 600000 7302250 Q c s 777 [some (.ref (qsc E)), some (.ref (qb E + 0)), some (.ref (qb E + 114)), some (.int (nI n))] [] S I J := by
  obtain ⟨⟨w0, w1, w2, bl, hC⟩, hM, hR, hT⟩ := id g.1.1
  refine lda_n_4_1 (pc := 777) d_L_law_777 ?_
  refine lda_n_4_0 (pc := 778) d_L_law_778 ?_
  refine ldi_n_4_3 (pc := 779) d_L_law_779 ?_
  refine r_iconst (pc := 780) (v := 1) d_L_law_780 rfl ?_
  refine r_iadd (pc := 781) d_L_law_781 ?_
  refine r_scr (pc := 782) (n := n) (k := 1) (lwi1 n) d_L_law_782 (by omega) hL ?_
  refine lda_n_4_0 (pc := 783) d_L_law_783 ?_
  refine ldi_n_4_3 (pc := 784) d_L_law_784 ?_
  refine r_iconst (pc := 785) (v := 2) d_L_law_785 rfl ?_
  refine r_iadd (pc := 786) d_L_law_786 ?_
  refine r_scr (pc := 787) (n := n) (k := 2) (lwi2 n) d_L_law_787 (by omega) hL ?_
  refine r_callV (pc := 788) (As := [.int (qsx E (n + 1)), .int (qsx E (n + 2))]) (k := 8) (N := 11) (T := T_On) k_L_96 im_On_plan se_On_plan rfl (by decide) rfl (by decide) d_L_law_788 hC.1.1 (K_plan hC) rfl (Nat.le_of_ble_eq_true rfl) (by omega) (by omega) (by omega) (fun v S1 I1 J1 hq => ?_)
  obtain ⟨⟨pK, cw⟩, hK⟩ := hq
  obtain ⟨r1, rfl⟩ : VI v := (by obtain ⟨c, l, -, -, -, -, h, -⟩ := pK; exact ⟨_, h⟩)
  have hM1 := hK.2.1 hM
  have hR1 := hR.far hK.2.2.1
  refine r_pop (pc := 791) d_L_law_791 rfl ?_
  refine lda_n_4_2 (pc := 792) d_L_law_792 ?_
  refine lda_n_4_0 (pc := 793) d_L_law_793 ?_
  refine ldi_n_4_3 (pc := 794) d_L_law_794 ?_
  refine r_iconst (pc := 795) (v := 1) d_L_law_795 rfl ?_
  refine r_iadd (pc := 796) d_L_law_796 ?_
  refine r_scr (pc := 797) (n := n) (k := 1) (lwi1 n) d_L_law_797 (by omega) hL ?_
  refine lda_n_4_0 (pc := 798) d_L_law_798 ?_
  refine ldi_n_4_3 (pc := 799) d_L_law_799 ?_
  refine r_iconst (pc := 800) (v := 2) d_L_law_800 rfl ?_
  refine r_iadd (pc := 801) d_L_law_801 ?_
  refine r_scr (pc := 802) (n := n) (k := 2) (lwi2 n) d_L_law_802 (by omega) hL ?_
  refine r_callV (pc := 803) (As := [.int (qsx E (n + 1)), .int (qsx E (n + 2))]) (k := 9) (N := 56) (T := T_Md) k_L_99 im_Md_plan se_Md_plan rfl (by decide) rfl (by decide) d_L_law_803 hM1.1 (R_plan hM1 hR1) rfl (Nat.le_of_ble_eq_true rfl) (by omega) (by omega) (by omega) (fun v2 S2 I2 J2 hq2 => ?_)
  obtain ⟨pR, hV⟩ := hq2
  obtain ⟨r2, rfl⟩ : VI v2 := ⟨_, pR.1⟩
  refine r_pop (pc := 806) d_L_law_806 rfl ?_
  refine r_goto (pc := 807) (tgt := 1272) d_L_law_807 (by decide) ?_
  exact kend _ _ _ _ _ (by omega) (by omega) (g.plan pK cw hK pR hV)
theorem lw_case20 {c s n : Nat} (hc : c + 5 ≤ 600000) (hs : s + 133 ≤ 7302250) (hn : n + 5 < qsl E) (hL : qsl E ≤ 3072) (g : uINV S I J) (kend : qEnd E c s n Q) : qW E y_L_law b_L_law (some .boolean) 1312 600000 7302250 Q c s 810 [some (.ref (qsc E)), some (.ref (qb E + 0)), some (.ref (qb E + 114)), some (.int (nI n))] [] S I J := by
  obtain ⟨⟨w0, w1, w2, bl, hC⟩, hM, hR, hT⟩ := id g.1.1
  refine lda_n_4_1 (pc := 810) d_L_law_810 ?_
  refine lda_n_4_0 (pc := 811) d_L_law_811 ?_
  refine ldi_n_4_3 (pc := 812) d_L_law_812 ?_
  refine r_iconst (pc := 813) (v := 1) d_L_law_813 rfl ?_
  refine r_iadd (pc := 814) d_L_law_814 ?_
  refine r_scr (pc := 815) (n := n) (k := 1) (lwi1 n) d_L_law_815 (by omega) hL ?_
  refine r_callV (pc := 816) (As := [.int (qsx E (n + 1))]) (k := 8) (N := 11) (T := T_On) k_L_100 im_On_ends se_On_ends rfl (by decide) rfl (by decide) d_L_law_816 hC.1.1 (K_ends hC) rfl (Nat.le_of_ble_eq_true rfl) (by omega) (by omega) (by omega) (fun v S1 I1 J1 hq => ?_)
  obtain ⟨⟨pK, cw⟩, hK⟩ := hq
  obtain ⟨r1, rfl⟩ : VI v := (by obtain ⟨⟨c, w, -, -, -, h⟩, -⟩ := pK; exact ⟨_, h⟩)
  have hM1 := hK.2.1 hM
  have hR1 := hR.far hK.2.2.1
  refine r_pop (pc := 819) d_L_law_819 rfl ?_
  refine lda_n_4_2 (pc := 820) d_L_law_820 ?_
  refine lda_n_4_0 (pc := 821) d_L_law_821 ?_
  refine ldi_n_4_3 (pc := 822) d_L_law_822 ?_
  refine r_iconst (pc := 823) (v := 1) d_L_law_823 rfl ?_
  refine r_iadd (pc := 824) d_L_law_824 ?_
  refine r_scr (pc := 825) (n := n) (k := 1) (lwi1 n) d_L_law_825 (by omega) hL ?_
  refine r_callV (pc := 826) (As := [.int (qsx E (n + 1))]) (k := 9) (N := 56) (T := T_Md) k_L_103 im_Md_ends se_Md_ends rfl (by decide) rfl (by decide) d_L_law_826 hM1.1 (R_endsX hM1 hR1) rfl (Nat.le_of_ble_eq_true rfl) (by omega) (by omega) (by omega) (fun v2 S2 I2 J2 hq2 => ?_)
  obtain ⟨⟨pR, rw⟩, hV⟩ := hq2
  obtain ⟨r2, rfl⟩ : VI v2 := (by obtain ⟨⟨c, z, -, -, -, -, M, -, h⟩, -⟩ := pR; exact ⟨_, h⟩)
  refine r_pop (pc := 829) d_L_law_829 rfl ?_
  refine r_goto (pc := 830) (tgt := 1272) d_L_law_830 (by decide) ?_
  exact kend _ _ _ _ _ (by omega) (by omega) (g.ask pK.2 cw hK pR.2 rw hV)
theorem lw_case21 {c s n : Nat} (hc : c + 5 ≤ 600000) (hs : s + 133 ≤ 7302250) (hn : n + 5 < qsl E) (hL : qsl E ≤ 3072) (g : uINV S I J) (kend : qEnd E c s n Q) : qW E y_L_law b_L_law (some .boolean) 1312 600000 7302250 Q c s 833 [some (.ref (qsc E)), some (.ref (qb E + 0)), some (.ref (qb E + 114)), some (.int (nI n))] [] S I J := by
  obtain ⟨⟨w0, w1, w2, bl, hC⟩, hM, hR, hT⟩ := id g.1.1
  refine lda_n_4_1 (pc := 833) d_L_law_833 ?_
  refine lda_n_4_0 (pc := 834) d_L_law_834 ?_
  refine ldi_n_4_3 (pc := 835) d_L_law_835 ?_
  refine r_iconst (pc := 836) (v := 1) d_L_law_836 rfl ?_
  refine r_iadd (pc := 837) d_L_law_837 ?_
  refine r_scr (pc := 838) (n := n) (k := 1) (lwi1 n) d_L_law_838 (by omega) hL ?_
  refine lda_n_4_0 (pc := 839) d_L_law_839 ?_
  refine ldi_n_4_3 (pc := 840) d_L_law_840 ?_
  refine r_iconst (pc := 841) (v := 2) d_L_law_841 rfl ?_
  refine r_iadd (pc := 842) d_L_law_842 ?_
  refine r_scr (pc := 843) (n := n) (k := 2) (lwi2 n) d_L_law_843 (by omega) hL ?_
  refine r_callV (pc := 844) (As := [.int (qsx E (n + 1)), .int (qsx E (n + 2))]) (k := 8) (N := 11) (T := T_On) k_L_104 im_On_book se_On_book rfl (by decide) rfl (by decide) d_L_law_844 hC.1.1 (K_book hC) rfl (Nat.le_of_ble_eq_true rfl) (by omega) (by omega) (by omega) (fun v S1 I1 J1 hq => ?_)
  obtain ⟨⟨pK, cw⟩, hK⟩ := hq
  obtain ⟨r1, rfl⟩ : VI v := (by obtain ⟨c, l, -, -, -, -, h, -⟩ := pK; exact ⟨_, h⟩)
  have hM1 := hK.2.1 hM
  have hR1 := hR.far hK.2.2.1
  refine r_pop (pc := 847) d_L_law_847 rfl ?_
  refine lda_n_4_2 (pc := 848) d_L_law_848 ?_
  refine lda_n_4_0 (pc := 849) d_L_law_849 ?_
  refine ldi_n_4_3 (pc := 850) d_L_law_850 ?_
  refine r_iconst (pc := 851) (v := 1) d_L_law_851 rfl ?_
  refine r_iadd (pc := 852) d_L_law_852 ?_
  refine r_scr (pc := 853) (n := n) (k := 1) (lwi1 n) d_L_law_853 (by omega) hL ?_
  refine lda_n_4_0 (pc := 854) d_L_law_854 ?_
  refine ldi_n_4_3 (pc := 855) d_L_law_855 ?_
  refine r_iconst (pc := 856) (v := 2) d_L_law_856 rfl ?_
  refine r_iadd (pc := 857) d_L_law_857 ?_
  refine r_scr (pc := 858) (n := n) (k := 2) (lwi2 n) d_L_law_858 (by omega) hL ?_
  refine r_callV (pc := 859) (As := [.int (qsx E (n + 1)), .int (qsx E (n + 2))]) (k := 9) (N := 56) (T := T_Md) k_L_107 im_Md_book se_Md_book rfl (by decide) rfl (by decide) d_L_law_859 hM1.1 (R_book hM1 hR1) rfl (Nat.le_of_ble_eq_true rfl) (by omega) (by omega) (by omega) (fun v2 S2 I2 J2 hq2 => ?_)
  obtain ⟨pR, hV⟩ := hq2
  obtain ⟨r2, rfl⟩ : VI v2 := ⟨_, pR.1⟩
  refine r_pop (pc := 862) d_L_law_862 rfl ?_
  refine r_goto (pc := 863) (tgt := 1272) d_L_law_863 (by decide) ?_
  exact kend _ _ _ _ _ (by omega) (by omega) (g.book pK cw hK pR hV)
theorem lw_case22 {c s n : Nat} (hc : c + 5 ≤ 600000) (hs : s + 133 ≤ 7302250) (hn : n + 5 < qsl E) (hL : qsl E ≤ 3072) (g : uINV S I J) (kend : qEnd E c s n Q) : qW E y_L_law b_L_law (some .boolean) 1312 600000 7302250 Q c s 866 [some (.ref (qsc E)), some (.ref (qb E + 0)), some (.ref (qb E + 114)), some (.int (nI n))] [] S I J := by
  obtain ⟨⟨w0, w1, w2, bl, hC⟩, hM, hR, hT⟩ := id g.1.1
  refine lda_n_4_1 (pc := 866) d_L_law_866 ?_
  refine r_callV (pc := 867) (As := []) (k := 8) (N := 11) (T := T_On) k_L_108 im_On_looked se_On_looked rfl (by decide) rfl (by decide) d_L_law_867 hC.1.1 (K_lookedX hC) rfl (Nat.le_of_ble_eq_true rfl) (by omega) (by omega) (by omega) (fun v S1 I1 J1 hq => ?_)
  obtain ⟨⟨pK, cw⟩, hK⟩ := hq
  obtain ⟨r1, rfl⟩ : VI v := (by obtain ⟨⟨c, z, -, -, -, -, h⟩, -⟩ := pK; exact ⟨_, h⟩)
  have hM1 := hK.2.1 hM
  have hR1 := hR.far hK.2.2.1
  refine r_pop (pc := 870) d_L_law_870 rfl ?_
  refine lda_n_4_2 (pc := 871) d_L_law_871 ?_
  refine r_callV (pc := 872) (As := []) (k := 9) (N := 56) (T := T_Md) k_L_111 im_Md_looked se_Md_looked rfl (by decide) rfl (by decide) d_L_law_872 hM1.1 (R_lookedX hM1 hR1) rfl (Nat.le_of_ble_eq_true rfl) (by omega) (by omega) (by omega) (fun v2 S2 I2 J2 hq2 => ?_)
  obtain ⟨⟨pR, rw⟩, hV⟩ := hq2
  obtain ⟨r2, rfl⟩ : VI v2 := (by obtain ⟨⟨z, -, -, h⟩, -⟩ := pR; exact ⟨_, h⟩)
  refine r_pop (pc := 875) d_L_law_875 rfl ?_
  refine r_goto (pc := 876) (tgt := 1272) d_L_law_876 (by decide) ?_
  exact kend _ _ _ _ _ (by omega) (by omega) (g.ask pK.2 cw hK pR.2 rw hV)
theorem lw_case23 {c s n : Nat} (hc : c + 5 ≤ 600000) (hs : s + 133 ≤ 7302250) (hn : n + 5 < qsl E) (hL : qsl E ≤ 3072) (g : uINV S I J) (kend : qEnd E c s n Q) : qW E y_L_law b_L_law (some .boolean) 1312 600000 7302250 Q c s 879 [some (.ref (qsc E)), some (.ref (qb E + 0)), some (.ref (qb E + 114)), some (.int (nI n))] [] S I J := by
  obtain ⟨⟨w0, w1, w2, bl, hC⟩, hM, hR, hT⟩ := id g.1.1
  refine lda_n_4_1 (pc := 879) d_L_law_879 ?_
  refine lda_n_4_0 (pc := 880) d_L_law_880 ?_
  refine ldi_n_4_3 (pc := 881) d_L_law_881 ?_
  refine r_iconst (pc := 882) (v := 1) d_L_law_882 rfl ?_
  refine r_iadd (pc := 883) d_L_law_883 ?_
  refine r_scr (pc := 884) (n := n) (k := 1) (lwi1 n) d_L_law_884 (by omega) hL ?_
  refine lda_n_4_0 (pc := 885) d_L_law_885 ?_
  refine ldi_n_4_3 (pc := 886) d_L_law_886 ?_
  refine r_iconst (pc := 887) (v := 2) d_L_law_887 rfl ?_
  refine r_iadd (pc := 888) d_L_law_888 ?_
  refine r_scr (pc := 889) (n := n) (k := 2) (lwi2 n) d_L_law_889 (by omega) hL ?_
  refine r_callV (pc := 890) (As := [.int (qsx E (n + 1)), .int (qsx E (n + 2))]) (k := 8) (N := 11) (T := T_On) k_L_112 im_On_judge se_On_judge rfl (by decide) rfl (by decide) d_L_law_890 hC.1.1 (K_judgeX hC) rfl (Nat.le_of_ble_eq_true rfl) (by omega) (by omega) (by omega) (fun v S1 I1 J1 hq => ?_)
  obtain ⟨⟨pK, cw⟩, hK⟩ := hq
  obtain ⟨r1, rfl⟩ : VI v := (by obtain ⟨⟨c, -, -, h⟩, -⟩ := pK; exact ⟨_, h⟩)
  have hM1 := hK.2.1 hM
  have hR1 := hR.far hK.2.2.1
  refine r_pop (pc := 893) d_L_law_893 rfl ?_
  refine lda_n_4_2 (pc := 894) d_L_law_894 ?_
  refine lda_n_4_0 (pc := 895) d_L_law_895 ?_
  refine ldi_n_4_3 (pc := 896) d_L_law_896 ?_
  refine r_iconst (pc := 897) (v := 1) d_L_law_897 rfl ?_
  refine r_iadd (pc := 898) d_L_law_898 ?_
  refine r_scr (pc := 899) (n := n) (k := 1) (lwi1 n) d_L_law_899 (by omega) hL ?_
  refine lda_n_4_0 (pc := 900) d_L_law_900 ?_
  refine ldi_n_4_3 (pc := 901) d_L_law_901 ?_
  refine r_iconst (pc := 902) (v := 2) d_L_law_902 rfl ?_
  refine r_iadd (pc := 903) d_L_law_903 ?_
  refine r_scr (pc := 904) (n := n) (k := 2) (lwi2 n) d_L_law_904 (by omega) hL ?_
  refine r_callV (pc := 905) (As := [.int (qsx E (n + 1)), .int (qsx E (n + 2))]) (k := 9) (N := 56) (T := T_Md) k_L_115 im_Md_judge se_Md_judge rfl (by decide) rfl (by decide) d_L_law_905 hM1.1 (R_judgeX hM1 hR1) rfl (Nat.le_of_ble_eq_true rfl) (by omega) (by omega) (by omega) (fun v2 S2 I2 J2 hq2 => ?_)
  obtain ⟨⟨pR, rw⟩, hV⟩ := hq2
  obtain ⟨r2, rfl⟩ : VI v2 := (by obtain ⟨⟨c, -, -, h⟩, -⟩ := pR; exact ⟨_, h⟩)
  refine r_pop (pc := 908) d_L_law_908 rfl ?_
  refine r_goto (pc := 909) (tgt := 1272) d_L_law_909 (by decide) ?_
  exact kend _ _ _ _ _ (by omega) (by omega) (g.ask pK.2 cw hK pR.2 rw hV)
theorem lw_case24 {c s n : Nat} (hc : c + 5 ≤ 600000) (hs : s + 133 ≤ 7302250) (hn : n + 5 < qsl E) (hL : qsl E ≤ 3072) (g : uINV S I J) (kend : qEnd E c s n Q) : qW E y_L_law b_L_law (some .boolean) 1312 600000 7302250 Q c s 912 [some (.ref (qsc E)), some (.ref (qb E + 0)), some (.ref (qb E + 114)), some (.int (nI n))] [] S I J := by
  obtain ⟨⟨w0, w1, w2, bl, hC⟩, hM, hR, hT⟩ := id g.1.1
  obtain ⟨c0, c06, hc0⟩ := hC.2.2.2.2.1.1
  refine lda_n_4_1 (pc := 912) d_L_law_912 ?_
  refine r_callV (pc := 913) (As := []) (k := 8) (N := 11) (T := T_On) k_L_116 im_On_image se_On_image rfl (by decide) rfl (by decide) d_L_law_913 hC.1.1 (K_image hC hc0 c06) rfl (Nat.le_of_ble_eq_true rfl) (by omega) (by omega) (by omega) (fun v S1 I1 J1 hq => ?_)
  obtain ⟨⟨pK, cw⟩, hK⟩ := hq
  obtain ⟨r1, rfl⟩ : VI v := ⟨_, pK.1⟩
  have hM1 := hK.2.1 hM
  have hR1 := hR.far hK.2.2.1
  refine r_pop (pc := 916) d_L_law_916 rfl ?_
  refine lda_n_4_2 (pc := 917) d_L_law_917 ?_
  refine r_callV (pc := 918) (As := []) (k := 9) (N := 56) (T := T_Md) k_L_119 im_Md_image se_Md_image rfl (by decide) rfl (by decide) d_L_law_918 hM1.1 (R_image hM1 hR1) rfl (Nat.le_of_ble_eq_true rfl) (by omega) (by omega) (by omega) (fun v2 S2 I2 J2 hq2 => ?_)
  obtain ⟨⟨pR, rw⟩, hV⟩ := hq2
  obtain ⟨r2, rfl⟩ : VI v2 := ⟨_, pR.1⟩
  refine r_pop (pc := 921) d_L_law_921 rfl ?_
  refine r_goto (pc := 922) (tgt := 1272) d_L_law_922 (by decide) ?_
  exact kend _ _ _ _ _ (by omega) (by omega) (g.image pK.2 cw hK pR.2 rw hV)
theorem lw_case25 {c s n : Nat} (hc : c + 5 ≤ 600000) (hs : s + 133 ≤ 7302250) (hn : n + 5 < qsl E) (hL : qsl E ≤ 3072) (g : uINV S I J) (kend : qEnd E c s n Q) : qW E y_L_law b_L_law (some .boolean) 1312 600000 7302250 Q c s 925 [some (.ref (qsc E)), some (.ref (qb E + 0)), some (.ref (qb E + 114)), some (.int (nI n))] [] S I J := by
  obtain ⟨⟨w0, w1, w2, bl, hC⟩, hM, hR, hT⟩ := id g.1.1
  rcases hC.2.2.2.2.2.2.2.2.2.1 with hz | ⟨hz, -⟩
  · refine lda_n_4_1 (pc := 925) d_L_law_925 ?_
    refine r_callV (pc := 926) (As := []) (k := 8) (N := 11) (T := T_On) k_L_120 im_On_undo se_On_undo rfl (by decide) rfl (by decide) d_L_law_926 hC.1.1 (K_undo0 hC hz) rfl (Nat.le_of_ble_eq_true rfl) (by omega) (by omega) (by omega) (fun v S1 I1 J1 hq => ?_)
    obtain ⟨⟨pK, cw⟩, hK⟩ := hq
    obtain ⟨r1, rfl⟩ : VI v := ⟨_, pK.1⟩
    have hM1 := hK.2.1 hM
    have hR1 := hR.far hK.2.2.1
    have hz1 : I1 114 39 = 0 := by rw [(hK.2.2.1 114 (by decide) (by decide)).1, hT.2.1]; exact hz
    refine r_pop (pc := 929) d_L_law_929 rfl ?_
    refine lda_n_4_2 (pc := 930) d_L_law_930 ?_
    refine r_callV (pc := 931) (As := []) (k := 9) (N := 56) (T := T_Md) k_L_123 im_Md_undo se_Md_undo rfl (by decide) rfl (by decide) d_L_law_931 hM1.1 (R_undo0 hM1 hR1 hz1) rfl (Nat.le_of_ble_eq_true rfl) (by omega) (by omega) (by omega) (fun v2 S2 I2 J2 hq2 => ?_)
    obtain ⟨⟨pR, rw⟩, hV⟩ := hq2
    obtain ⟨r2, rfl⟩ : VI v2 := ⟨_, pR.1⟩
    refine r_pop (pc := 934) d_L_law_934 rfl ?_
    refine r_goto (pc := 935) (tgt := 1272) d_L_law_935 (by decide) ?_
    exact kend _ _ _ _ _ (by omega) (by omega) (g.ask pK.2 cw hK pR.2 rw hV)
  · refine lda_n_4_1 (pc := 925) d_L_law_925 ?_
    refine r_callV (pc := 926) (As := []) (k := 8) (N := 11) (T := T_On) k_L_120 im_On_undo se_On_undo rfl (by decide) rfl (by decide) d_L_law_926 hC.1.1 (K_undo1 hC hz) rfl (Nat.le_of_ble_eq_true rfl) (by omega) (by omega) (by omega) (fun v S1 I1 J1 hq => ?_)
    obtain ⟨⟨pK, cw⟩, hK⟩ := hq
    obtain ⟨r1, rfl⟩ : VI v := ⟨_, pK.1⟩
    have hM1 := hK.2.1 hM
    have hR1 := hR.far hK.2.2.1
    have hz1 : I1 114 39 = 1 := by rw [(hK.2.2.1 114 (by decide) (by decide)).1, hT.2.1]; exact hz
    refine r_pop (pc := 929) d_L_law_929 rfl ?_
    refine lda_n_4_2 (pc := 930) d_L_law_930 ?_
    refine r_callV (pc := 931) (As := []) (k := 9) (N := 56) (T := T_Md) k_L_123 im_Md_undo se_Md_undo rfl (by decide) rfl (by decide) d_L_law_931 hM1.1 (R_undo1 hM1 hR1 hz1) rfl (Nat.le_of_ble_eq_true rfl) (by omega) (by omega) (by omega) (fun v2 S2 I2 J2 hq2 => ?_)
    obtain ⟨⟨pR, rw⟩, hV⟩ := hq2
    obtain ⟨r2, rfl⟩ : VI v2 := ⟨_, pR.1⟩
    refine r_pop (pc := 934) d_L_law_934 rfl ?_
    refine r_goto (pc := 935) (tgt := 1272) d_L_law_935 (by decide) ?_
    exact kend _ _ _ _ _ (by omega) (by omega) (g.undo1 hz pK.2 cw hK pR.2 rw hV.2.2.2.2.1 hV)
theorem lw_case26 {c s n : Nat} (hc : c + 5 ≤ 600000) (hs : s + 133 ≤ 7302250) (hn : n + 5 < qsl E) (hL : qsl E ≤ 3072) (g : uINV S I J) (kend : qEnd E c s n Q) : qW E y_L_law b_L_law (some .boolean) 1312 600000 7302250 Q c s 938 [some (.ref (qsc E)), some (.ref (qb E + 0)), some (.ref (qb E + 114)), some (.int (nI n))] [] S I J := by
  obtain ⟨⟨w0, w1, w2, bl, hC⟩, hM, hR, hT⟩ := id g.1.1
  refine lda_n_4_1 (pc := 938) d_L_law_938 ?_
  refine lda_n_4_0 (pc := 939) d_L_law_939 ?_
  refine ldi_n_4_3 (pc := 940) d_L_law_940 ?_
  refine r_iconst (pc := 941) (v := 1) d_L_law_941 rfl ?_
  refine r_iadd (pc := 942) d_L_law_942 ?_
  refine r_scr (pc := 943) (n := n) (k := 1) (lwi1 n) d_L_law_943 (by omega) hL ?_
  refine lda_n_4_0 (pc := 944) d_L_law_944 ?_
  refine ldi_n_4_3 (pc := 945) d_L_law_945 ?_
  refine r_iconst (pc := 946) (v := 2) d_L_law_946 rfl ?_
  refine r_iadd (pc := 947) d_L_law_947 ?_
  refine r_scr (pc := 948) (n := n) (k := 2) (lwi2 n) d_L_law_948 (by omega) hL ?_
  refine lda_n_4_0 (pc := 949) d_L_law_949 ?_
  refine ldi_n_4_3 (pc := 950) d_L_law_950 ?_
  refine r_iconst (pc := 951) (v := 3) d_L_law_951 rfl ?_
  refine r_iadd (pc := 952) d_L_law_952 ?_
  refine r_scr (pc := 953) (n := n) (k := 3) (lwi3 n) d_L_law_953 (by omega) hL ?_
  refine r_callV (pc := 954) (As := [.int (qsx E (n + 1)), .int (qsx E (n + 2)), .int (qsx E (n + 3))]) (k := 8) (N := 11) (T := T_On) k_L_124 im_On_act se_On_act rfl (by decide) rfl (by decide) d_L_law_954 hC.1.1 (K_act hC) rfl (Nat.le_of_ble_eq_true rfl) (by omega) (by omega) (by omega) (fun v S1 I1 J1 hq => ?_)
  obtain ⟨⟨pK, cw⟩, hK⟩ := hq
  obtain ⟨r1, rfl⟩ : VI v := (by obtain ⟨c, -, -, h, -⟩ := pK; exact ⟨_, h⟩)
  have hM1 := hK.2.1 hM
  have hR1 := hR.far hK.2.2.1
  refine r_pop (pc := 957) d_L_law_957 rfl ?_
  refine lda_n_4_2 (pc := 958) d_L_law_958 ?_
  refine lda_n_4_0 (pc := 959) d_L_law_959 ?_
  refine ldi_n_4_3 (pc := 960) d_L_law_960 ?_
  refine r_iconst (pc := 961) (v := 1) d_L_law_961 rfl ?_
  refine r_iadd (pc := 962) d_L_law_962 ?_
  refine r_scr (pc := 963) (n := n) (k := 1) (lwi1 n) d_L_law_963 (by omega) hL ?_
  refine lda_n_4_0 (pc := 964) d_L_law_964 ?_
  refine ldi_n_4_3 (pc := 965) d_L_law_965 ?_
  refine r_iconst (pc := 966) (v := 2) d_L_law_966 rfl ?_
  refine r_iadd (pc := 967) d_L_law_967 ?_
  refine r_scr (pc := 968) (n := n) (k := 2) (lwi2 n) d_L_law_968 (by omega) hL ?_
  refine lda_n_4_0 (pc := 969) d_L_law_969 ?_
  refine ldi_n_4_3 (pc := 970) d_L_law_970 ?_
  refine r_iconst (pc := 971) (v := 3) d_L_law_971 rfl ?_
  refine r_iadd (pc := 972) d_L_law_972 ?_
  refine r_scr (pc := 973) (n := n) (k := 3) (lwi3 n) d_L_law_973 (by omega) hL ?_
  refine r_callV (pc := 974) (As := [.int (qsx E (n + 1)), .int (qsx E (n + 2)), .int (qsx E (n + 3))]) (k := 9) (N := 56) (T := T_Md) k_L_127 im_Md_act se_Md_act rfl (by decide) rfl (by decide) d_L_law_974 hM1.1 (R_act hM1 hR1) rfl (Nat.le_of_ble_eq_true rfl) (by omega) (by omega) (by omega) (fun v2 S2 I2 J2 hq2 => ?_)
  obtain ⟨pR, hV⟩ := hq2
  obtain ⟨r2, rfl⟩ : VI v2 := (by obtain ⟨c, -, -, -, ⟨-, h, -⟩ | ⟨p, k, -, -, -, -, -, h, -⟩⟩ := pR <;> exact ⟨_, h⟩)
  refine r_pop (pc := 977) d_L_law_977 rfl ?_
  refine r_goto (pc := 978) (tgt := 1272) d_L_law_978 (by decide) ?_
  exact kend _ _ _ _ _ (by omega) (by omega) (g.act pK cw hK pR hV)
theorem lw_case27 {c s n : Nat} (hc : c + 5 ≤ 600000) (hs : s + 133 ≤ 7302250) (hn : n + 5 < qsl E) (hL : qsl E ≤ 3072) (g : uINV S I J) (kend : qEnd E c s n Q) : qW E y_L_law b_L_law (some .boolean) 1312 600000 7302250 Q c s 981 [some (.ref (qsc E)), some (.ref (qb E + 0)), some (.ref (qb E + 114)), some (.int (nI n))] [] S I J := by
  obtain ⟨⟨w0, w1, w2, bl, hC⟩, hM, hR, hT⟩ := id g.1.1
  refine lda_n_4_1 (pc := 981) d_L_law_981 ?_
  refine lda_n_4_0 (pc := 982) d_L_law_982 ?_
  refine ldi_n_4_3 (pc := 983) d_L_law_983 ?_
  refine r_iconst (pc := 984) (v := 1) d_L_law_984 rfl ?_
  refine r_iadd (pc := 985) d_L_law_985 ?_
  refine r_scr (pc := 986) (n := n) (k := 1) (lwi1 n) d_L_law_986 (by omega) hL ?_
  refine r_callV (pc := 987) (As := [.int (qsx E (n + 1))]) (k := 8) (N := 11) (T := T_On) k_L_128 im_On_trace se_On_trace rfl (by decide) rfl (by decide) d_L_law_987 hC.1.1 (K_trace hC) rfl (Nat.le_of_ble_eq_true rfl) (by omega) (by omega) (by omega) (fun v S1 I1 J1 hq => ?_)
  obtain ⟨⟨pK, cw⟩, hK⟩ := hq
  obtain ⟨r1, rfl⟩ : VI v := ⟨_, pK.1⟩
  have hM1 := hK.2.1 hM
  have hR1 := hR.far hK.2.2.1
  refine r_pop (pc := 990) d_L_law_990 rfl ?_
  refine lda_n_4_2 (pc := 991) d_L_law_991 ?_
  refine lda_n_4_0 (pc := 992) d_L_law_992 ?_
  refine ldi_n_4_3 (pc := 993) d_L_law_993 ?_
  refine r_iconst (pc := 994) (v := 1) d_L_law_994 rfl ?_
  refine r_iadd (pc := 995) d_L_law_995 ?_
  refine r_scr (pc := 996) (n := n) (k := 1) (lwi1 n) d_L_law_996 (by omega) hL ?_
  refine r_callV (pc := 997) (As := [.int (qsx E (n + 1))]) (k := 9) (N := 56) (T := T_Md) k_L_131 im_Md_trace se_Md_trace rfl (by decide) rfl (by decide) d_L_law_997 hM1.1 (R_trace hM1 hR1) rfl (Nat.le_of_ble_eq_true rfl) (by omega) (by omega) (by omega) (fun v2 S2 I2 J2 hq2 => ?_)
  obtain ⟨⟨pR, rw⟩, hV⟩ := hq2
  obtain ⟨r2, rfl⟩ : VI v2 := ⟨_, pR.1⟩
  refine r_pop (pc := 1000) d_L_law_1000 rfl ?_
  refine r_goto (pc := 1001) (tgt := 1272) d_L_law_1001 (by decide) ?_
  exact kend _ _ _ _ _ (by omega) (by omega) (g.ask pK.2 cw hK pR.2 rw hV)
theorem lw_case28 {c s n : Nat} (hc : c + 5 ≤ 600000) (hs : s + 133 ≤ 7302250) (hn : n + 5 < qsl E) (hL : qsl E ≤ 3072) (g : uINV S I J) (kend : qEnd E c s n Q) : qW E y_L_law b_L_law (some .boolean) 1312 600000 7302250 Q c s 1004 [some (.ref (qsc E)), some (.ref (qb E + 0)), some (.ref (qb E + 114)), some (.int (nI n))] [] S I J := by
  obtain ⟨⟨w0, w1, w2, bl, hC⟩, hM, hR, hT⟩ := id g.1.1
  refine lda_n_4_1 (pc := 1004) d_L_law_1004 ?_
  refine lda_n_4_0 (pc := 1005) d_L_law_1005 ?_
  refine ldi_n_4_3 (pc := 1006) d_L_law_1006 ?_
  refine r_iconst (pc := 1007) (v := 1) d_L_law_1007 rfl ?_
  refine r_iadd (pc := 1008) d_L_law_1008 ?_
  refine r_scr (pc := 1009) (n := n) (k := 1) (lwi1 n) d_L_law_1009 (by omega) hL ?_
  refine lda_n_4_0 (pc := 1010) d_L_law_1010 ?_
  refine ldi_n_4_3 (pc := 1011) d_L_law_1011 ?_
  refine r_iconst (pc := 1012) (v := 2) d_L_law_1012 rfl ?_
  refine r_iadd (pc := 1013) d_L_law_1013 ?_
  refine r_scr (pc := 1014) (n := n) (k := 2) (lwi2 n) d_L_law_1014 (by omega) hL ?_
  refine r_callV (pc := 1015) (As := [.int (qsx E (n + 1)), .int (qsx E (n + 2))]) (k := 8) (N := 11) (T := T_On) k_L_132 im_On_taken se_On_taken rfl (by decide) rfl (by decide) d_L_law_1015 hC.1.1 (K_taken hC) rfl (Nat.le_of_ble_eq_true rfl) (by omega) (by omega) (by omega) (fun v S1 I1 J1 hq => ?_)
  obtain ⟨⟨pK, cw⟩, hK⟩ := hq
  obtain ⟨r1, rfl⟩ : VI v := (by obtain ⟨c, -, -, h, -⟩ := pK; exact ⟨_, h⟩)
  have hM1 := hK.2.1 hM
  have hR1 := hR.far hK.2.2.1
  refine r_pop (pc := 1018) d_L_law_1018 rfl ?_
  refine lda_n_4_2 (pc := 1019) d_L_law_1019 ?_
  refine lda_n_4_0 (pc := 1020) d_L_law_1020 ?_
  refine ldi_n_4_3 (pc := 1021) d_L_law_1021 ?_
  refine r_iconst (pc := 1022) (v := 1) d_L_law_1022 rfl ?_
  refine r_iadd (pc := 1023) d_L_law_1023 ?_
  refine r_scr (pc := 1024) (n := n) (k := 1) (lwi1 n) d_L_law_1024 (by omega) hL ?_
  refine lda_n_4_0 (pc := 1025) d_L_law_1025 ?_
  refine ldi_n_4_3 (pc := 1026) d_L_law_1026 ?_
  refine r_iconst (pc := 1027) (v := 2) d_L_law_1027 rfl ?_
  refine r_iadd (pc := 1028) d_L_law_1028 ?_
  refine r_scr (pc := 1029) (n := n) (k := 2) (lwi2 n) d_L_law_1029 (by omega) hL ?_
  refine r_callV (pc := 1030) (As := [.int (qsx E (n + 1)), .int (qsx E (n + 2))]) (k := 9) (N := 56) (T := T_Md) k_L_135 im_Md_taken se_Md_taken rfl (by decide) rfl (by decide) d_L_law_1030 hM1.1 (R_taken hM1 hR1) rfl (Nat.le_of_ble_eq_true rfl) (by omega) (by omega) (by omega) (fun v2 S2 I2 J2 hq2 => ?_)
  obtain ⟨⟨pR, rw⟩, hV⟩ := hq2
  obtain ⟨r2, rfl⟩ : VI v2 := (by obtain ⟨c, -, -, -, ⟨-, h⟩ | ⟨-, -, h⟩ | ⟨-, p, k, -, -, -, -, h⟩⟩ := pR <;> exact ⟨_, h⟩)
  refine r_pop (pc := 1033) d_L_law_1033 rfl ?_
  refine r_goto (pc := 1034) (tgt := 1272) d_L_law_1034 (by decide) ?_
  exact kend _ _ _ _ _ (by omega) (by omega) (g.ask (by obtain ⟨c, -, -, -, h⟩ := pK; exact h) cw hK (by obtain ⟨c, -, -, h, -⟩ := pR; exact h) rw hV)
theorem lw_case29 {c s n : Nat} (hc : c + 5 ≤ 600000) (hs : s + 133 ≤ 7302250) (hn : n + 5 < qsl E) (hL : qsl E ≤ 3072) (g : uINV S I J) (kend : qEnd E c s n Q) : qW E y_L_law b_L_law (some .boolean) 1312 600000 7302250 Q c s 1037 [some (.ref (qsc E)), some (.ref (qb E + 0)), some (.ref (qb E + 114)), some (.int (nI n))] [] S I J := by
  obtain ⟨⟨w0, w1, w2, bl, hC⟩, hM, hR, hT⟩ := id g.1.1
  refine lda_n_4_1 (pc := 1037) d_L_law_1037 ?_
  refine lda_n_4_0 (pc := 1038) d_L_law_1038 ?_
  refine ldi_n_4_3 (pc := 1039) d_L_law_1039 ?_
  refine r_iconst (pc := 1040) (v := 1) d_L_law_1040 rfl ?_
  refine r_iadd (pc := 1041) d_L_law_1041 ?_
  refine r_scr (pc := 1042) (n := n) (k := 1) (lwi1 n) d_L_law_1042 (by omega) hL ?_
  refine r_callV (pc := 1043) (As := [.int (qsx E (n + 1))]) (k := 8) (N := 11) (T := T_On) k_L_136 im_On_count se_On_count rfl (by decide) rfl (by decide) d_L_law_1043 hC.1.1 (K_count hC) rfl (Nat.le_of_ble_eq_true rfl) (by omega) (by omega) (by omega) (fun v S1 I1 J1 hq => ?_)
  obtain ⟨⟨pK, cw⟩, hK⟩ := hq
  obtain ⟨r1, rfl⟩ : VI v := ⟨_, pK.1⟩
  have hM1 := hK.2.1 hM
  have hR1 := hR.far hK.2.2.1
  refine r_pop (pc := 1046) d_L_law_1046 rfl ?_
  refine lda_n_4_2 (pc := 1047) d_L_law_1047 ?_
  refine lda_n_4_0 (pc := 1048) d_L_law_1048 ?_
  refine ldi_n_4_3 (pc := 1049) d_L_law_1049 ?_
  refine r_iconst (pc := 1050) (v := 1) d_L_law_1050 rfl ?_
  refine r_iadd (pc := 1051) d_L_law_1051 ?_
  refine r_scr (pc := 1052) (n := n) (k := 1) (lwi1 n) d_L_law_1052 (by omega) hL ?_
  refine r_callV (pc := 1053) (As := [.int (qsx E (n + 1))]) (k := 9) (N := 56) (T := T_Md) k_L_139 im_Md_count se_Md_count rfl (by decide) rfl (by decide) d_L_law_1053 hM1.1 (R_count hM1 hR1) rfl (Nat.le_of_ble_eq_true rfl) (by omega) (by omega) (by omega) (fun v2 S2 I2 J2 hq2 => ?_)
  obtain ⟨⟨pR, rw⟩, hV⟩ := hq2
  obtain ⟨r2, rfl⟩ : VI v2 := ⟨_, pR.1⟩
  refine r_pop (pc := 1056) d_L_law_1056 rfl ?_
  refine r_goto (pc := 1057) (tgt := 1272) d_L_law_1057 (by decide) ?_
  exact kend _ _ _ _ _ (by omega) (by omega) (g.ask pK.2 cw hK pR.2 rw hV)
theorem lw_case30 {c s n : Nat} (hc : c + 5 ≤ 600000) (hs : s + 133 ≤ 7302250) (hn : n + 5 < qsl E) (hL : qsl E ≤ 3072) (g : uINV S I J) (kend : qEnd E c s n Q) : qW E y_L_law b_L_law (some .boolean) 1312 600000 7302250 Q c s 1060 [some (.ref (qsc E)), some (.ref (qb E + 0)), some (.ref (qb E + 114)), some (.int (nI n))] [] S I J := by
  obtain ⟨⟨w0, w1, w2, bl, hC⟩, hM, hR, hT⟩ := id g.1.1
  refine lda_n_4_1 (pc := 1060) d_L_law_1060 ?_
  refine lda_n_4_0 (pc := 1061) d_L_law_1061 ?_
  refine ldi_n_4_3 (pc := 1062) d_L_law_1062 ?_
  refine r_iconst (pc := 1063) (v := 1) d_L_law_1063 rfl ?_
  refine r_iadd (pc := 1064) d_L_law_1064 ?_
  refine r_scr (pc := 1065) (n := n) (k := 1) (lwi1 n) d_L_law_1065 (by omega) hL ?_
  refine lda_n_4_0 (pc := 1066) d_L_law_1066 ?_
  refine ldi_n_4_3 (pc := 1067) d_L_law_1067 ?_
  refine r_iconst (pc := 1068) (v := 2) d_L_law_1068 rfl ?_
  refine r_iadd (pc := 1069) d_L_law_1069 ?_
  refine r_scr (pc := 1070) (n := n) (k := 2) (lwi2 n) d_L_law_1070 (by omega) hL ?_
  refine lda_n_4_0 (pc := 1071) d_L_law_1071 ?_
  refine ldi_n_4_3 (pc := 1072) d_L_law_1072 ?_
  refine r_iconst (pc := 1073) (v := 3) d_L_law_1073 rfl ?_
  refine r_iadd (pc := 1074) d_L_law_1074 ?_
  refine r_scr (pc := 1075) (n := n) (k := 3) (lwi3 n) d_L_law_1075 (by omega) hL ?_
  refine r_callV (pc := 1076) (As := [.int (qsx E (n + 1)), .int (qsx E (n + 2)), .int (qsx E (n + 3))]) (k := 8) (N := 11) (T := T_On) k_L_140 im_On_tape se_On_tape rfl (by decide) rfl (by decide) d_L_law_1076 hC.1.1 (K_tape hC) rfl (Nat.le_of_ble_eq_true rfl) (by omega) (by omega) (by omega) (fun v S1 I1 J1 hq => ?_)
  obtain ⟨⟨pK, cw⟩, hK⟩ := hq
  obtain ⟨r1, rfl⟩ : VI v := ⟨_, pK.1⟩
  have hM1 := hK.2.1 hM
  have hR1 := hR.far hK.2.2.1
  refine r_pop (pc := 1079) d_L_law_1079 rfl ?_
  refine lda_n_4_2 (pc := 1080) d_L_law_1080 ?_
  refine lda_n_4_0 (pc := 1081) d_L_law_1081 ?_
  refine ldi_n_4_3 (pc := 1082) d_L_law_1082 ?_
  refine r_iconst (pc := 1083) (v := 1) d_L_law_1083 rfl ?_
  refine r_iadd (pc := 1084) d_L_law_1084 ?_
  refine r_scr (pc := 1085) (n := n) (k := 1) (lwi1 n) d_L_law_1085 (by omega) hL ?_
  refine lda_n_4_0 (pc := 1086) d_L_law_1086 ?_
  refine ldi_n_4_3 (pc := 1087) d_L_law_1087 ?_
  refine r_iconst (pc := 1088) (v := 2) d_L_law_1088 rfl ?_
  refine r_iadd (pc := 1089) d_L_law_1089 ?_
  refine r_scr (pc := 1090) (n := n) (k := 2) (lwi2 n) d_L_law_1090 (by omega) hL ?_
  refine lda_n_4_0 (pc := 1091) d_L_law_1091 ?_
  refine ldi_n_4_3 (pc := 1092) d_L_law_1092 ?_
  refine r_iconst (pc := 1093) (v := 3) d_L_law_1093 rfl ?_
  refine r_iadd (pc := 1094) d_L_law_1094 ?_
  refine r_scr (pc := 1095) (n := n) (k := 3) (lwi3 n) d_L_law_1095 (by omega) hL ?_
  refine r_callV (pc := 1096) (As := [.int (qsx E (n + 1)), .int (qsx E (n + 2)), .int (qsx E (n + 3))]) (k := 9) (N := 56) (T := T_Md) k_L_143 im_Md_tape se_Md_tape rfl (by decide) rfl (by decide) d_L_law_1096 hM1.1 (R_tape hM1 hR1) rfl (Nat.le_of_ble_eq_true rfl) (by omega) (by omega) (by omega) (fun v2 S2 I2 J2 hq2 => ?_)
  obtain ⟨pR, hV⟩ := hq2
  obtain ⟨r2, rfl⟩ : VI v2 := ⟨_, pR.1⟩
  refine r_pop (pc := 1099) d_L_law_1099 rfl ?_
  refine r_goto (pc := 1100) (tgt := 1272) d_L_law_1100 (by decide) ?_
  exact kend _ _ _ _ _ (by omega) (by omega) (g.tape pK.2 cw hK pR.2 hV)
theorem lw_case31 {c s n : Nat} (hc : c + 5 ≤ 600000) (hs : s + 133 ≤ 7302250) (hn : n + 5 < qsl E) (hL : qsl E ≤ 3072) (g : uINV S I J) (kend : qEnd E c s n Q) : qW E y_L_law b_L_law (some .boolean) 1312 600000 7302250 Q c s 1103 [some (.ref (qsc E)), some (.ref (qb E + 0)), some (.ref (qb E + 114)), some (.int (nI n))] [] S I J := by
  obtain ⟨⟨w0, w1, w2, bl, hC⟩, hM, hR, hT⟩ := id g.1.1
  refine lda_n_4_1 (pc := 1103) d_L_law_1103 ?_
  refine lda_n_4_0 (pc := 1104) d_L_law_1104 ?_
  refine ldi_n_4_3 (pc := 1105) d_L_law_1105 ?_
  refine r_iconst (pc := 1106) (v := 1) d_L_law_1106 rfl ?_
  refine r_iadd (pc := 1107) d_L_law_1107 ?_
  refine r_scr (pc := 1108) (n := n) (k := 1) (lwi1 n) d_L_law_1108 (by omega) hL ?_
  refine lda_n_4_0 (pc := 1109) d_L_law_1109 ?_
  refine ldi_n_4_3 (pc := 1110) d_L_law_1110 ?_
  refine r_iconst (pc := 1111) (v := 2) d_L_law_1111 rfl ?_
  refine r_iadd (pc := 1112) d_L_law_1112 ?_
  refine r_scr (pc := 1113) (n := n) (k := 2) (lwi2 n) d_L_law_1113 (by omega) hL ?_
  refine lda_n_4_0 (pc := 1114) d_L_law_1114 ?_
  refine ldi_n_4_3 (pc := 1115) d_L_law_1115 ?_
  refine r_iconst (pc := 1116) (v := 3) d_L_law_1116 rfl ?_
  refine r_iadd (pc := 1117) d_L_law_1117 ?_
  refine r_scr (pc := 1118) (n := n) (k := 3) (lwi3 n) d_L_law_1118 (by omega) hL ?_
  refine r_i2l (pc := 1119) d_L_law_1119 ?_
  refine r_bipush (pc := 1120) (v := 32) d_L_law_1120 rfl ?_
  refine r_lshl (pc := 1122) d_L_law_1122 rfl ?_
  refine lda_n_4_0 (pc := 1123) d_L_law_1123 ?_
  refine ldi_n_4_3 (pc := 1124) d_L_law_1124 ?_
  refine r_iconst (pc := 1125) (v := 4) d_L_law_1125 rfl ?_
  refine r_iadd (pc := 1126) d_L_law_1126 ?_
  refine r_scr (pc := 1127) (n := n) (k := 4) (lwi4 n) d_L_law_1127 (by omega) hL ?_
  refine r_i2l (pc := 1128) d_L_law_1128 ?_
  refine r_ldc2 (pc := 1129) cl_L_144 d_L_law_1129 ?_
  refine r_land (pc := 1132) d_L_law_1132 ?_
  refine r_lor (pc := 1133) d_L_law_1133 ?_
  refine r_callV (pc := 1134) (As := [.int (qsx E (n + 1)), .int (qsx E (n + 2)), .long _]) (k := 8) (N := 11) (T := T_On) k_L_146 im_On_item se_On_item rfl (by decide) rfl (by decide) d_L_law_1134 hC.1.1 (K_item hC) rfl (Nat.le_of_ble_eq_true rfl) (by omega) (by omega) (by omega) (fun v S1 I1 J1 hq => ?_)
  obtain ⟨⟨pK, cw⟩, hK⟩ := hq
  obtain ⟨r1, rfl⟩ : VI v := ⟨_, pK.1⟩
  have hM1 := hK.2.1 hM
  have hR1 := hR.far hK.2.2.1
  refine r_pop (pc := 1137) d_L_law_1137 rfl ?_
  refine lda_n_4_2 (pc := 1138) d_L_law_1138 ?_
  refine lda_n_4_0 (pc := 1139) d_L_law_1139 ?_
  refine ldi_n_4_3 (pc := 1140) d_L_law_1140 ?_
  refine r_iconst (pc := 1141) (v := 1) d_L_law_1141 rfl ?_
  refine r_iadd (pc := 1142) d_L_law_1142 ?_
  refine r_scr (pc := 1143) (n := n) (k := 1) (lwi1 n) d_L_law_1143 (by omega) hL ?_
  refine lda_n_4_0 (pc := 1144) d_L_law_1144 ?_
  refine ldi_n_4_3 (pc := 1145) d_L_law_1145 ?_
  refine r_iconst (pc := 1146) (v := 2) d_L_law_1146 rfl ?_
  refine r_iadd (pc := 1147) d_L_law_1147 ?_
  refine r_scr (pc := 1148) (n := n) (k := 2) (lwi2 n) d_L_law_1148 (by omega) hL ?_
  refine lda_n_4_0 (pc := 1149) d_L_law_1149 ?_
  refine ldi_n_4_3 (pc := 1150) d_L_law_1150 ?_
  refine r_iconst (pc := 1151) (v := 3) d_L_law_1151 rfl ?_
  refine r_iadd (pc := 1152) d_L_law_1152 ?_
  refine r_scr (pc := 1153) (n := n) (k := 3) (lwi3 n) d_L_law_1153 (by omega) hL ?_
  refine r_i2l (pc := 1154) d_L_law_1154 ?_
  refine r_bipush (pc := 1155) (v := 32) d_L_law_1155 rfl ?_
  refine r_lshl (pc := 1157) d_L_law_1157 rfl ?_
  refine lda_n_4_0 (pc := 1158) d_L_law_1158 ?_
  refine ldi_n_4_3 (pc := 1159) d_L_law_1159 ?_
  refine r_iconst (pc := 1160) (v := 4) d_L_law_1160 rfl ?_
  refine r_iadd (pc := 1161) d_L_law_1161 ?_
  refine r_scr (pc := 1162) (n := n) (k := 4) (lwi4 n) d_L_law_1162 (by omega) hL ?_
  refine r_i2l (pc := 1163) d_L_law_1163 ?_
  refine r_ldc2 (pc := 1164) cl_L_144 d_L_law_1164 ?_
  refine r_land (pc := 1167) d_L_law_1167 ?_
  refine r_lor (pc := 1168) d_L_law_1168 ?_
  refine r_callV (pc := 1169) (As := [.int (qsx E (n + 1)), .int (qsx E (n + 2)), .long _]) (k := 9) (N := 56) (T := T_Md) k_L_150 im_Md_item se_Md_item rfl (by decide) rfl (by decide) d_L_law_1169 hM1.1 (R_item hM1 hR1) rfl (Nat.le_of_ble_eq_true rfl) (by omega) (by omega) (by omega) (fun v2 S2 I2 J2 hq2 => ?_)
  obtain ⟨pR, hV⟩ := hq2
  obtain ⟨r2, rfl⟩ : VI v2 := ⟨_, pR.1⟩
  refine r_pop (pc := 1172) d_L_law_1172 rfl ?_
  refine r_goto (pc := 1173) (tgt := 1272) d_L_law_1173 (by decide) ?_
  exact kend _ _ _ _ _ (by omega) (by omega) (g.item pK cw hK pR hV)
theorem lw_case32 {c s n : Nat} (hc : c + 5 ≤ 600000) (hs : s + 133 ≤ 7302250) (hn : n + 5 < qsl E) (hL : qsl E ≤ 3072) (g : uINV S I J) (kend : qEnd E c s n Q) : qW E y_L_law b_L_law (some .boolean) 1312 600000 7302250 Q c s 1176 [some (.ref (qsc E)), some (.ref (qb E + 0)), some (.ref (qb E + 114)), some (.int (nI n))] [] S I J := by
  obtain ⟨⟨w0, w1, w2, bl, hC⟩, hM, hR, hT⟩ := id g.1.1
  refine lda_n_4_1 (pc := 1176) d_L_law_1176 ?_
  refine lda_n_4_0 (pc := 1177) d_L_law_1177 ?_
  refine ldi_n_4_3 (pc := 1178) d_L_law_1178 ?_
  refine r_iconst (pc := 1179) (v := 1) d_L_law_1179 rfl ?_
  refine r_iadd (pc := 1180) d_L_law_1180 ?_
  refine r_scr (pc := 1181) (n := n) (k := 1) (lwi1 n) d_L_law_1181 (by omega) hL ?_
  refine lda_n_4_0 (pc := 1182) d_L_law_1182 ?_
  refine ldi_n_4_3 (pc := 1183) d_L_law_1183 ?_
  refine r_iconst (pc := 1184) (v := 2) d_L_law_1184 rfl ?_
  refine r_iadd (pc := 1185) d_L_law_1185 ?_
  refine r_scr (pc := 1186) (n := n) (k := 2) (lwi2 n) d_L_law_1186 (by omega) hL ?_
  refine r_callV (pc := 1187) (As := [.int (qsx E (n + 1)), .int (qsx E (n + 2))]) (k := 8) (N := 11) (T := T_On) k_L_151 im_On_read se_On_read rfl (by decide) rfl (by decide) d_L_law_1187 hC.1.1 (K_read hC) rfl (Nat.le_of_ble_eq_true rfl) (by omega) (by omega) (by omega) (fun v S1 I1 J1 hq => ?_)
  obtain ⟨⟨pK, cw⟩, hK⟩ := hq
  obtain ⟨r1, rfl⟩ : VL v := ⟨_, pK.1⟩
  have hM1 := hK.2.1 hM
  have hR1 := hR.far hK.2.2.1
  refine r_pop2 (pc := 1190) d_L_law_1190 rfl ?_
  refine lda_n_4_2 (pc := 1191) d_L_law_1191 ?_
  refine lda_n_4_0 (pc := 1192) d_L_law_1192 ?_
  refine ldi_n_4_3 (pc := 1193) d_L_law_1193 ?_
  refine r_iconst (pc := 1194) (v := 1) d_L_law_1194 rfl ?_
  refine r_iadd (pc := 1195) d_L_law_1195 ?_
  refine r_scr (pc := 1196) (n := n) (k := 1) (lwi1 n) d_L_law_1196 (by omega) hL ?_
  refine lda_n_4_0 (pc := 1197) d_L_law_1197 ?_
  refine ldi_n_4_3 (pc := 1198) d_L_law_1198 ?_
  refine r_iconst (pc := 1199) (v := 2) d_L_law_1199 rfl ?_
  refine r_iadd (pc := 1200) d_L_law_1200 ?_
  refine r_scr (pc := 1201) (n := n) (k := 2) (lwi2 n) d_L_law_1201 (by omega) hL ?_
  refine r_callV (pc := 1202) (As := [.int (qsx E (n + 1)), .int (qsx E (n + 2))]) (k := 9) (N := 56) (T := T_Md) k_L_154 im_Md_read se_Md_read rfl (by decide) rfl (by decide) d_L_law_1202 hM1.1 (R_read hM1 hR1) rfl (Nat.le_of_ble_eq_true rfl) (by omega) (by omega) (by omega) (fun v2 S2 I2 J2 hq2 => ?_)
  obtain ⟨⟨pR, rw⟩, hV⟩ := hq2
  obtain ⟨r2, rfl⟩ : VL v2 := ⟨_, pR.1⟩
  refine r_pop2 (pc := 1205) d_L_law_1205 rfl ?_
  refine r_goto (pc := 1206) (tgt := 1272) d_L_law_1206 (by decide) ?_
  exact kend _ _ _ _ _ (by omega) (by omega) (g.ask pK.2 cw hK pR.2 rw hV)
theorem lw_case33 {c s n : Nat} (hc : c + 5 ≤ 600000) (hs : s + 133 ≤ 7302250) (hn : n + 5 < qsl E) (hL : qsl E ≤ 3072) (g : uINV S I J) (kend : qEnd E c s n Q) : qW E y_L_law b_L_law (some .boolean) 1312 600000 7302250 Q c s 1209 [some (.ref (qsc E)), some (.ref (qb E + 0)), some (.ref (qb E + 114)), some (.int (nI n))] [] S I J := by
  obtain ⟨⟨w0, w1, w2, bl, hC⟩, hM, hR, hT⟩ := id g.1.1
  refine lda_n_4_1 (pc := 1209) d_L_law_1209 ?_
  refine lda_n_4_0 (pc := 1210) d_L_law_1210 ?_
  refine ldi_n_4_3 (pc := 1211) d_L_law_1211 ?_
  refine r_iconst (pc := 1212) (v := 1) d_L_law_1212 rfl ?_
  refine r_iadd (pc := 1213) d_L_law_1213 ?_
  refine r_scr (pc := 1214) (n := n) (k := 1) (lwi1 n) d_L_law_1214 (by omega) hL ?_
  refine lda_n_4_0 (pc := 1215) d_L_law_1215 ?_
  refine ldi_n_4_3 (pc := 1216) d_L_law_1216 ?_
  refine r_iconst (pc := 1217) (v := 2) d_L_law_1217 rfl ?_
  refine r_iadd (pc := 1218) d_L_law_1218 ?_
  refine r_scr (pc := 1219) (n := n) (k := 2) (lwi2 n) d_L_law_1219 (by omega) hL ?_
  refine lda_n_4_0 (pc := 1220) d_L_law_1220 ?_
  refine ldi_n_4_3 (pc := 1221) d_L_law_1221 ?_
  refine r_iconst (pc := 1222) (v := 3) d_L_law_1222 rfl ?_
  refine r_iadd (pc := 1223) d_L_law_1223 ?_
  refine r_scr (pc := 1224) (n := n) (k := 3) (lwi3 n) d_L_law_1224 (by omega) hL ?_
  refine lda_n_4_0 (pc := 1225) d_L_law_1225 ?_
  refine ldi_n_4_3 (pc := 1226) d_L_law_1226 ?_
  refine r_iconst (pc := 1227) (v := 4) d_L_law_1227 rfl ?_
  refine r_iadd (pc := 1228) d_L_law_1228 ?_
  refine r_scr (pc := 1229) (n := n) (k := 4) (lwi4 n) d_L_law_1229 (by omega) hL ?_
  refine lda_n_4_0 (pc := 1230) d_L_law_1230 ?_
  refine ldi_n_4_3 (pc := 1231) d_L_law_1231 ?_
  refine r_iconst (pc := 1232) (v := 5) d_L_law_1232 rfl ?_
  refine r_iadd (pc := 1233) d_L_law_1233 ?_
  refine r_scr (pc := 1234) (n := n) (k := 5) (lwi5 n) d_L_law_1234 (by omega) hL ?_
  refine r_callV (pc := 1235) (As := [.int (qsx E (n + 1)), .int (qsx E (n + 2)), .int (qsx E (n + 3)), .int (qsx E (n + 4)), .int (qsx E (n + 5))]) (k := 8) (N := 11) (T := T_On) k_L_155 im_On_shift se_On_shift rfl (by decide) rfl (by decide) d_L_law_1235 hC.1.1 (K_shift hC) rfl (Nat.le_of_ble_eq_true rfl) (by omega) (by omega) (by omega) (fun v S1 I1 J1 hq => ?_)
  obtain ⟨⟨pK, cw⟩, hK⟩ := hq
  obtain ⟨r1, rfl⟩ : VI v := ⟨_, pK.1⟩
  have hM1 := hK.2.1 hM
  have hR1 := hR.far hK.2.2.1
  refine r_pop (pc := 1238) d_L_law_1238 rfl ?_
  refine lda_n_4_2 (pc := 1239) d_L_law_1239 ?_
  refine lda_n_4_0 (pc := 1240) d_L_law_1240 ?_
  refine ldi_n_4_3 (pc := 1241) d_L_law_1241 ?_
  refine r_iconst (pc := 1242) (v := 1) d_L_law_1242 rfl ?_
  refine r_iadd (pc := 1243) d_L_law_1243 ?_
  refine r_scr (pc := 1244) (n := n) (k := 1) (lwi1 n) d_L_law_1244 (by omega) hL ?_
  refine lda_n_4_0 (pc := 1245) d_L_law_1245 ?_
  refine ldi_n_4_3 (pc := 1246) d_L_law_1246 ?_
  refine r_iconst (pc := 1247) (v := 2) d_L_law_1247 rfl ?_
  refine r_iadd (pc := 1248) d_L_law_1248 ?_
  refine r_scr (pc := 1249) (n := n) (k := 2) (lwi2 n) d_L_law_1249 (by omega) hL ?_
  refine lda_n_4_0 (pc := 1250) d_L_law_1250 ?_
  refine ldi_n_4_3 (pc := 1251) d_L_law_1251 ?_
  refine r_iconst (pc := 1252) (v := 3) d_L_law_1252 rfl ?_
  refine r_iadd (pc := 1253) d_L_law_1253 ?_
  refine r_scr (pc := 1254) (n := n) (k := 3) (lwi3 n) d_L_law_1254 (by omega) hL ?_
  refine lda_n_4_0 (pc := 1255) d_L_law_1255 ?_
  refine ldi_n_4_3 (pc := 1256) d_L_law_1256 ?_
  refine r_iconst (pc := 1257) (v := 4) d_L_law_1257 rfl ?_
  refine r_iadd (pc := 1258) d_L_law_1258 ?_
  refine r_scr (pc := 1259) (n := n) (k := 4) (lwi4 n) d_L_law_1259 (by omega) hL ?_
  refine lda_n_4_0 (pc := 1260) d_L_law_1260 ?_
  refine ldi_n_4_3 (pc := 1261) d_L_law_1261 ?_
  refine r_iconst (pc := 1262) (v := 5) d_L_law_1262 rfl ?_
  refine r_iadd (pc := 1263) d_L_law_1263 ?_
  refine r_scr (pc := 1264) (n := n) (k := 5) (lwi5 n) d_L_law_1264 (by omega) hL ?_
  refine r_callV (pc := 1265) (As := [.int (qsx E (n + 1)), .int (qsx E (n + 2)), .int (qsx E (n + 3)), .int (qsx E (n + 4)), .int (qsx E (n + 5))]) (k := 9) (N := 56) (T := T_Md) k_L_159 im_Md_shift se_Md_shift rfl (by decide) rfl (by decide) d_L_law_1265 hM1.1 (R_shift hM1 hR1) rfl (Nat.le_of_ble_eq_true rfl) (by omega) (by omega) (by omega) (fun v2 S2 I2 J2 hq2 => ?_)
  obtain ⟨pR, hV⟩ := hq2
  obtain ⟨r2, rfl⟩ : VI v2 := (by obtain ⟨-, -, ⟨-, h, -⟩ | ⟨t, u, -, -, -, -, ⟨-, h, -⟩ | ⟨-, -, -, h, -⟩ | ⟨-, -, -, h, -⟩ | ⟨-, -, x, y, m, -, -, -, -, -, h, -⟩⟩⟩ := pR <;> exact ⟨_, h⟩)
  refine r_pop (pc := 1268) d_L_law_1268 rfl ?_
  refine r_goto (pc := 1269) (tgt := 1272) d_L_law_1269 (by decide) ?_
  exact kend _ _ _ _ _ (by omega) (by omega) (g.shift pK cw hK pR hV)
end LWP
